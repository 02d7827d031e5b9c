/-! contracts of the class -/
-- WheelLand$Reader.isLetter(I)Z
theorem x236_p {sc : List Int} (h : Hp) (C : CI h) (a : Int) (t : pT) (n : Nat) (q_a : -2147483648 ≤ a ∧ a ≤ 2147483647) (p1 : 0 ≤ a) (B : rB t n h) : zwC sc 1 236 [(2, 9), (0, a)] h (zwRt 0 (fun x g => h = g ∧ ((x = 1 ∧ (a < n ∧ pLet (t a.toNat) = true)) ∨ (x = 0 ∧ (¬ (a < n ∧ pLet (t a.toNat) = true)))))) := by
  refine zwC_of (D := 0) 2 (by decide +kernel) rfl (ls := [(2, 9), (0, a)]) rfl ?_
  have B1 := B.1
  refine zwW_p [(1, 1, 0), (1, 0, 2)] (q := 2) (ls' := [(2, 9), (0, a)]) (st' := [(2, 9), (0, a)]) (by decide +kernel) rfl ?_
  refine zwW_gs C.1 (kd := 7) (bn := 0) (n := 9) (t := 0) (lo := 0) (hi := 400) (nx := 5) (by decide +kernel) ?_
  intro v1 ev1 lv1 uv1
  refine zwic_ge (q := 34) (nx := 8) (by decide +kernel) (fun c2 => ?_) (fun c2 => ?_)
  · refine zwW_p [(0, 0, 0)] (q := 35) (ls' := [(2, 9), (0, a)]) (st' := [(0, 0)]) (by decide +kernel) rfl ?_
    refine zwW_ret (nx := 36) (a := 1) (b := 0) (by decide +kernel) rfl (Or.inr (Or.inl ⟨rfl, by omega⟩)) ?_
    exact ⟨rfl, Or.inr ⟨rfl, by rintro ⟨z1, z2⟩; have q := (B.let (i := a.toNat) (by omega)).mp z2; omega⟩⟩
  · refine zwW_p [(1, 0, 2)] (q := 9) (ls' := [(2, 9), (0, a)]) (st' := [(2, 9)]) (by decide +kernel) rfl ?_
    refine zwW_gc C.1 (kd := 7) (bn := 1) (n := 9) (c := 10) (nx := 12) (by decide +kernel) ?_
    refine zwW_p [(1, 1, 0)] (q := 13) (ls' := [(2, 9), (0, a)]) (st' := [(0, a), (2, 10)]) (by decide +kernel) rfl ?_
    refine zwW_al C.1 (a1 := 10) (a2 := 10) (kd := 20) (n := 400) (t := 0) (lo := -2147483648) (hi := 2147483647) (nx := 14) (by decide +kernel) ⟨by decide, by decide⟩ ⟨by omega, by omega⟩ ?_
    intro v3 ev3 lv3 uv3
    refine zwW_p [(0, 97, 0)] (q := 16) (ls' := [(2, 9), (0, a)]) (st' := [(0, 97), (0, v3)]) (by decide +kernel) rfl ?_
    refine zwic_lt (q := 34) (nx := 19) (by decide +kernel) (fun c4 => ?_) (fun c4 => ?_)
    · refine zwW_p [(0, 0, 0)] (q := 35) (ls' := [(2, 9), (0, a)]) (st' := [(0, 0)]) (by decide +kernel) rfl ?_
      refine zwW_ret (nx := 36) (a := 1) (b := 0) (by decide +kernel) rfl (Or.inr (Or.inl ⟨rfl, by omega⟩)) ?_
      exact ⟨rfl, Or.inr ⟨rfl, by rintro ⟨z1, z2⟩; have q := (B.let (i := a.toNat) (by omega)).mp z2; omega⟩⟩
    · refine zwW_p [(1, 0, 2)] (q := 20) (ls' := [(2, 9), (0, a)]) (st' := [(2, 9)]) (by decide +kernel) rfl ?_
      refine zwW_gc C.1 (kd := 7) (bn := 1) (n := 9) (c := 10) (nx := 23) (by decide +kernel) ?_
      refine zwW_p [(1, 1, 0)] (q := 24) (ls' := [(2, 9), (0, a)]) (st' := [(0, a), (2, 10)]) (by decide +kernel) rfl ?_
      refine zwW_al C.1 (a1 := 10) (a2 := 10) (kd := 20) (n := 400) (t := 0) (lo := -2147483648) (hi := 2147483647) (nx := 25) (by decide +kernel) ⟨by decide, by decide⟩ ⟨by omega, by omega⟩ ?_
      intro v5 ev5 lv5 uv5
      refine zwW_p [(0, 122, 0)] (q := 27) (ls' := [(2, 9), (0, a)]) (st' := [(0, 122), (0, v5)]) (by decide +kernel) rfl ?_
      refine zwic_gt (q := 34) (nx := 30) (by decide +kernel) (fun c6 => ?_) (fun c6 => ?_)
      · refine zwW_p [(0, 0, 0)] (q := 35) (ls' := [(2, 9), (0, a)]) (st' := [(0, 0)]) (by decide +kernel) rfl ?_
        refine zwW_ret (nx := 36) (a := 1) (b := 0) (by decide +kernel) rfl (Or.inr (Or.inl ⟨rfl, by omega⟩)) ?_
        exact ⟨rfl, Or.inr ⟨rfl, by rintro ⟨z1, z2⟩; have q := (B.let (i := a.toNat) (by omega)).mp z2; omega⟩⟩
      · refine zwW_p [(0, 1, 0), (24, 35, 0)] (q := 35) (ls' := [(2, 9), (0, a)]) (st' := [(0, 1)]) (by decide +kernel) rfl ?_
        refine zwW_ret (nx := 36) (a := 1) (b := 0) (by decide +kernel) rfl (Or.inr (Or.inl ⟨rfl, by omega⟩)) ?_
        exact ⟨rfl, Or.inl ⟨rfl, by exact ⟨by omega, (B.let (i := a.toNat) (by omega)).mpr ⟨by omega, by omega⟩⟩⟩⟩
-- WheelLand$Reader.isDigit(I)Z
theorem x238_p {sc : List Int} (h : Hp) (C : CI h) (a : Int) (t : pT) (n : Nat) (q_a : -2147483648 ≤ a ∧ a ≤ 2147483647) (p1 : 0 ≤ a) (B : rB t n h) : zwC sc 1 238 [(2, 9), (0, a)] h (zwRt 0 (fun x g => h = g ∧ ((x = 1 ∧ (a < n ∧ pDig (t a.toNat) = true)) ∨ (x = 0 ∧ (¬ (a < n ∧ pDig (t a.toNat) = true)))))) := by
  refine zwC_of (D := 0) 2 (by decide +kernel) rfl (ls := [(2, 9), (0, a)]) rfl ?_
  have B1 := B.1
  refine zwW_p [(1, 1, 0), (1, 0, 2)] (q := 2) (ls' := [(2, 9), (0, a)]) (st' := [(2, 9), (0, a)]) (by decide +kernel) rfl ?_
  refine zwW_gs C.1 (kd := 7) (bn := 0) (n := 9) (t := 0) (lo := 0) (hi := 400) (nx := 5) (by decide +kernel) ?_
  intro v1 ev1 lv1 uv1
  refine zwic_ge (q := 34) (nx := 8) (by decide +kernel) (fun c2 => ?_) (fun c2 => ?_)
  · refine zwW_p [(0, 0, 0)] (q := 35) (ls' := [(2, 9), (0, a)]) (st' := [(0, 0)]) (by decide +kernel) rfl ?_
    refine zwW_ret (nx := 36) (a := 1) (b := 0) (by decide +kernel) rfl (Or.inr (Or.inl ⟨rfl, by omega⟩)) ?_
    exact ⟨rfl, Or.inr ⟨rfl, by rintro ⟨z1, z2⟩; have q := (B.dig (i := a.toNat) (by omega)).mp z2; omega⟩⟩
  · refine zwW_p [(1, 0, 2)] (q := 9) (ls' := [(2, 9), (0, a)]) (st' := [(2, 9)]) (by decide +kernel) rfl ?_
    refine zwW_gc C.1 (kd := 7) (bn := 1) (n := 9) (c := 10) (nx := 12) (by decide +kernel) ?_
    refine zwW_p [(1, 1, 0)] (q := 13) (ls' := [(2, 9), (0, a)]) (st' := [(0, a), (2, 10)]) (by decide +kernel) rfl ?_
    refine zwW_al C.1 (a1 := 10) (a2 := 10) (kd := 20) (n := 400) (t := 0) (lo := -2147483648) (hi := 2147483647) (nx := 14) (by decide +kernel) ⟨by decide, by decide⟩ ⟨by omega, by omega⟩ ?_
    intro v3 ev3 lv3 uv3
    refine zwW_p [(0, 48, 0)] (q := 16) (ls' := [(2, 9), (0, a)]) (st' := [(0, 48), (0, v3)]) (by decide +kernel) rfl ?_
    refine zwic_lt (q := 34) (nx := 19) (by decide +kernel) (fun c4 => ?_) (fun c4 => ?_)
    · refine zwW_p [(0, 0, 0)] (q := 35) (ls' := [(2, 9), (0, a)]) (st' := [(0, 0)]) (by decide +kernel) rfl ?_
      refine zwW_ret (nx := 36) (a := 1) (b := 0) (by decide +kernel) rfl (Or.inr (Or.inl ⟨rfl, by omega⟩)) ?_
      exact ⟨rfl, Or.inr ⟨rfl, by rintro ⟨z1, z2⟩; have q := (B.dig (i := a.toNat) (by omega)).mp z2; omega⟩⟩
    · refine zwW_p [(1, 0, 2)] (q := 20) (ls' := [(2, 9), (0, a)]) (st' := [(2, 9)]) (by decide +kernel) rfl ?_
      refine zwW_gc C.1 (kd := 7) (bn := 1) (n := 9) (c := 10) (nx := 23) (by decide +kernel) ?_
      refine zwW_p [(1, 1, 0)] (q := 24) (ls' := [(2, 9), (0, a)]) (st' := [(0, a), (2, 10)]) (by decide +kernel) rfl ?_
      refine zwW_al C.1 (a1 := 10) (a2 := 10) (kd := 20) (n := 400) (t := 0) (lo := -2147483648) (hi := 2147483647) (nx := 25) (by decide +kernel) ⟨by decide, by decide⟩ ⟨by omega, by omega⟩ ?_
      intro v5 ev5 lv5 uv5
      refine zwW_p [(0, 57, 0)] (q := 27) (ls' := [(2, 9), (0, a)]) (st' := [(0, 57), (0, v5)]) (by decide +kernel) rfl ?_
      refine zwic_gt (q := 34) (nx := 30) (by decide +kernel) (fun c6 => ?_) (fun c6 => ?_)
      · refine zwW_p [(0, 0, 0)] (q := 35) (ls' := [(2, 9), (0, a)]) (st' := [(0, 0)]) (by decide +kernel) rfl ?_
        refine zwW_ret (nx := 36) (a := 1) (b := 0) (by decide +kernel) rfl (Or.inr (Or.inl ⟨rfl, by omega⟩)) ?_
        exact ⟨rfl, Or.inr ⟨rfl, by rintro ⟨z1, z2⟩; have q := (B.dig (i := a.toNat) (by omega)).mp z2; omega⟩⟩
      · refine zwW_p [(0, 1, 0), (24, 35, 0)] (q := 35) (ls' := [(2, 9), (0, a)]) (st' := [(0, 1)]) (by decide +kernel) rfl ?_
        refine zwW_ret (nx := 36) (a := 1) (b := 0) (by decide +kernel) rfl (Or.inr (Or.inl ⟨rfl, by omega⟩)) ?_
        exact ⟨rfl, Or.inl ⟨rfl, by exact ⟨by omega, (B.dig (i := a.toNat) (by omega)).mpr ⟨by omega, by omega⟩⟩⟩⟩
-- WheelLand$Reader.isSpelled(III)Z
theorem x276_p {sc : List Int} (h : Hp) (C : CI h) (a b c : Int) (t : pT) (n : Nat) (q_a : -2147483648 ≤ a ∧ a ≤ 2147483647) (q_b : -2147483648 ≤ b ∧ b ≤ 2147483647) (q_c : -2147483648 ≤ c ∧ c ≤ 2147483647) (p1 : 0 ≤ a ∧ a ≤ 200) (p2 : 0 ≤ b ∧ b ≤ 400) (B : rB t n h) : zwC sc 5 276 [(2, 9), (0, a), (0, b), (0, c)] h (zwRt 0 (fun x g => h = g ∧ ((x = 1 ∧ (rSp h n a b c)) ∨ (x = 0 ∧ (¬ rSp h n a b c))))) := by
  refine zwC_of (D := 4) 5 (by decide +kernel) rfl (ls := [(2, 9), (0, a), (0, b), (0, c), (9, 0)]) rfl ?_
  have B1 := B.1
  have W0 := rWd_len
  refine zwW_p [(0, 0, 0), (2, 4, 0)] (q := 3) (ls' := [(2, 9), (0, a), (0, b), (0, c), (0, 0)]) (st' := []) (by decide +kernel) rfl ?_
  have L1 : ∀ (n0 : Nat) (v4L1 : Int), n0 = ((1000 - v4L1)).toNat → (∀ j : Nat, (j : Int) < v4L1 → a + j < 114 ∧ b + j < n ∧ (zby (-10)).getD (a + j).toNat 0 = fld h 10 (b + j).toNat) → (0 ≤ v4L1 ∧ v4L1 ≤ 1000) → zwW sc (4) 276 3 [(2, 9), (0, a), (0, b), (0, c), (0, v4L1)] [] h (zwRt 0 (fun x g => h = g ∧ ((x = 1 ∧ (rSp h n a b c)) ∨ (x = 0 ∧ (¬ rSp h n a b c))))) := by
    intro n0
    induction n0 using Nat.strongRecOn with
    | ind n0 IHL1 =>
      intro v4L1 hnL1 iL1_0 iL1_1
      refine zwW_p [(1, 4, 0), (1, 3, 0)] (q := 6) (ls' := [(2, 9), (0, a), (0, b), (0, c), (0, v4L1)]) (st' := [(0, c), (0, v4L1)]) (by decide +kernel) rfl ?_
      refine zwic_ge (q := 61) (nx := 9) (by decide +kernel) (fun c2 => ?_) (fun c2 => ?_)
      · refine zwW_p [(0, 1, 0)] (q := 62) (ls' := [(2, 9), (0, a), (0, b), (0, c), (0, v4L1)]) (st' := [(0, 1)]) (by decide +kernel) rfl ?_
        refine zwW_ret (nx := 63) (a := 1) (b := 0) (by decide +kernel) rfl (Or.inr (Or.inl ⟨rfl, by omega⟩)) ?_
        exact ⟨rfl, Or.inl ⟨rfl, by exact fun j hj => iL1_0 j (by omega)⟩⟩
      · refine zwW_p [(1, 1, 0), (1, 4, 0)] (q := 12) (ls' := [(2, 9), (0, a), (0, b), (0, c), (0, v4L1)]) (st' := [(0, v4L1), (0, a)]) (by decide +kernel) rfl ?_
        refine zwW_add (nx := 13) (by decide +kernel) ⟨by omega, by omega⟩ ?_
        refine zwW_p [(0, -10, 2)] (q := 15) (ls' := [(2, 9), (0, a), (0, b), (0, c), (0, v4L1)]) (st' := [(2, -10), (0, (a + v4L1))]) (by decide +kernel) rfl ?_
        refine zwW_cst (op := 60) (k' := 265) (n := 0) (nx := 18) (w := -10) (tl := []) (st' := [(0, (a + v4L1))]) (by decide +kernel) rfl (by decide +kernel) ⟨by omega, by omega⟩ rfl (m265 h (-10) (by omega)) ?_
        rintro v3 _ ⟨rfl, f4, f5, f6⟩
        refine zwic_ge (q := 53) (nx := 21) (by decide +kernel) (fun c7 => ?_) (fun c7 => ?_)
        · refine zwW_p [(0, 0, 0)] (q := 54) (ls' := [(2, 9), (0, a), (0, b), (0, c), (0, v4L1)]) (st' := [(0, 0)]) (by decide +kernel) rfl ?_
          refine zwW_ret (nx := 55) (a := 1) (b := 0) (by decide +kernel) rfl (Or.inr (Or.inl ⟨rfl, by omega⟩)) ?_
          exact ⟨rfl, Or.inr ⟨rfl, by intro H; obtain ⟨z1, z2, z3⟩ := H (v4L1).toNat (by omega); rw [show (((v4L1).toNat : Nat) : Int) = v4L1 by omega] at z1 z2 z3; omega⟩⟩
        · refine zwW_p [(1, 2, 0), (1, 4, 0)] (q := 24) (ls' := [(2, 9), (0, a), (0, b), (0, c), (0, v4L1)]) (st' := [(0, v4L1), (0, b)]) (by decide +kernel) rfl ?_
          refine zwW_add (nx := 25) (by decide +kernel) ⟨by omega, by omega⟩ ?_
          refine zwW_p [(1, 0, 2)] (q := 26) (ls' := [(2, 9), (0, a), (0, b), (0, c), (0, v4L1)]) (st' := [(2, 9), (0, (b + v4L1))]) (by decide +kernel) rfl ?_
          refine zwW_gs C.1 (kd := 7) (bn := 0) (n := 9) (t := 0) (lo := 0) (hi := 400) (nx := 29) (by decide +kernel) ?_
          intro v8 ev8 lv8 uv8
          refine zwic_ge (q := 53) (nx := 32) (by decide +kernel) (fun c9 => ?_) (fun c9 => ?_)
          · refine zwW_p [(0, 0, 0)] (q := 54) (ls' := [(2, 9), (0, a), (0, b), (0, c), (0, v4L1)]) (st' := [(0, 0)]) (by decide +kernel) rfl ?_
            refine zwW_ret (nx := 55) (a := 1) (b := 0) (by decide +kernel) rfl (Or.inr (Or.inl ⟨rfl, by omega⟩)) ?_
            exact ⟨rfl, Or.inr ⟨rfl, by intro H; obtain ⟨z1, z2, z3⟩ := H (v4L1).toNat (by omega); rw [show (((v4L1).toNat : Nat) : Int) = v4L1 by omega] at z1 z2 z3; omega⟩⟩
          · refine zwW_p [(0, -10, 2), (1, 1, 0), (1, 4, 0)] (q := 37) (ls' := [(2, 9), (0, a), (0, b), (0, c), (0, v4L1)]) (st' := [(0, v4L1), (0, a), (2, -10)]) (by decide +kernel) rfl ?_
            refine zwW_add (nx := 38) (by decide +kernel) ⟨by omega, by omega⟩ ?_
            refine zwW_cst (op := 60) (k' := 266) (n := 1) (nx := 41) (w := -10) (tl := [(0, (a + v4L1))]) (st' := []) (by decide +kernel) rfl (by decide +kernel) ⟨by omega, by omega⟩ rfl (m266 h (-10) (a + v4L1) (by omega) (by omega) (by omega) (by omega)) ?_
            rintro v10 _ ⟨rfl, f11, f12, f13⟩
            refine zwW_p [(1, 0, 2)] (q := 42) (ls' := [(2, 9), (0, a), (0, b), (0, c), (0, v4L1)]) (st' := [(2, 9), (0, v10)]) (by decide +kernel) rfl ?_
            refine zwW_gc C.1 (kd := 7) (bn := 1) (n := 9) (c := 10) (nx := 45) (by decide +kernel) ?_
            refine zwW_p [(1, 2, 0), (1, 4, 0)] (q := 48) (ls' := [(2, 9), (0, a), (0, b), (0, c), (0, v4L1)]) (st' := [(0, v4L1), (0, b), (2, 10), (0, v10)]) (by decide +kernel) rfl ?_
            refine zwW_add (nx := 49) (by decide +kernel) ⟨by omega, by omega⟩ ?_
            refine zwW_al C.1 (a1 := 10) (a2 := 10) (kd := 20) (n := 400) (t := 0) (lo := -2147483648) (hi := 2147483647) (nx := 50) (by decide +kernel) ⟨by decide, by decide⟩ ⟨by omega, by omega⟩ ?_
            intro v14 ev14 lv14 uv14
            refine zwic_eq (q := 55) (nx := 53) (by decide +kernel) (fun c15 => ?_) (fun c15 => ?_)
            · refine zwW_inc (i := 4) (c := 1) (x := v4L1) (nx := 58) (by decide +kernel) rfl ⟨by omega, by omega⟩ (ls' := [(2, 9), (0, a), (0, b), (0, c), (0, (v4L1 + 1))]) rfl ?_
              refine zwW_p [(24, 3, 0)] (q := 3) (ls' := [(2, 9), (0, a), (0, b), (0, c), (0, (v4L1 + 1))]) (st' := []) (by decide +kernel) rfl ?_
              exact IHL1 ((1000 - (v4L1 + 1))).toNat (by omega) (v4L1 + 1) rfl (fun j hj => by by_cases z : (j : Int) < v4L1; exact iL1_0 j z; (rw [show (j : Int) = v4L1 by omega]; exact ⟨by omega, by omega, by omega⟩)) (by omega)
            · refine zwW_p [(0, 0, 0)] (q := 54) (ls' := [(2, 9), (0, a), (0, b), (0, c), (0, v4L1)]) (st' := [(0, 0)]) (by decide +kernel) rfl ?_
              refine zwW_ret (nx := 55) (a := 1) (b := 0) (by decide +kernel) rfl (Or.inr (Or.inl ⟨rfl, by omega⟩)) ?_
              exact ⟨rfl, Or.inr ⟨rfl, by intro H; obtain ⟨z1, z2, z3⟩ := H (v4L1).toNat (by omega); rw [show (((v4L1).toNat : Nat) : Int) = v4L1 by omega] at z1 z2 z3; omega⟩⟩
  exact L1 _ 0 rfl (fun j hj => by omega) (by omega)
-- WheelLand$Reader.wordAt(II)I
theorem x260_p {sc : List Int} (h : Hp) (C : CI h) (a b : Int) (t : pT) (n : Nat) (p : Nat) (q_a : -2147483648 ≤ a ∧ a ≤ 2147483647) (q_b : -2147483648 ≤ b ∧ b ≤ 2147483647) (B : rB t n h) (pa : a = (p : Int)) (pb : 0 ≤ b ∧ a + b ≤ n) : zwC sc 6 260 [(2, 9), (0, a), (0, b)] h (zwRt 0 (fun x g => h = g ∧ (-2147483648 ≤ x ∧ x ≤ 2147483647) ∧ (x = pFd t p b.toNat pWs 0))) := by
  refine zwC_of (D := 5) 6 (by decide +kernel) rfl (ls := [(2, 9), (0, a), (0, b), (9, 0), (9, 0), (9, 0)]) rfl ?_
  have B1 := B.1
  have W0 := rWd_len
  have B2 := B.2.1
  refine zwW_p [(0, 0, 0), (2, 3, 0), (0, 0, 0), (2, 4, 0), (0, 0, 0), (2, 5, 0)] (q := 8) (ls' := [(2, 9), (0, a), (0, b), (0, 0), (0, 0), (0, 0)]) (st' := []) (by decide +kernel) rfl ?_
  have L1 : ∀ (n0 : Nat) (wL1 w3L1 kL1 : Int), n0 = ((1000 - kL1)).toNat → (wL1 = ((rNo (kL1).toNat : Nat) : Int) ∧ w3L1 = ((rSt (kL1).toNat : Nat) : Int) ∧ kL1 ≤ 114) → (pFd t p b.toNat pWs 0 = pFd t p b.toNat (pWs.drop (rNo (kL1).toNat)) (rNo (kL1).toNat)) → (wL1 ≤ kL1 ∧ w3L1 ≤ kL1 + 1) → (0 ≤ wL1 ∧ wL1 ≤ 1000) → (0 ≤ w3L1 ∧ w3L1 ≤ 200) → (0 ≤ kL1 ∧ kL1 ≤ 200) → zwW sc (5) 260 8 [(2, 9), (0, a), (0, b), (0, wL1), (0, w3L1), (0, kL1)] [] h (zwRt 0 (fun x g => h = g ∧ (-2147483648 ≤ x ∧ x ≤ 2147483647) ∧ (x = pFd t p b.toNat pWs 0))) := by
    intro n0
    induction n0 using Nat.strongRecOn with
    | ind n0 IHL1 =>
      intro wL1 w3L1 kL1 hnL1 iL1_0 iL1_1 iL1_2 iL1_3 iL1_4 iL1_5
      refine zwW_p [(1, 5, 0), (0, -10, 2)] (q := 12) (ls' := [(2, 9), (0, a), (0, b), (0, wL1), (0, w3L1), (0, kL1)]) (st' := [(2, -10), (0, kL1)]) (by decide +kernel) rfl ?_
      refine zwW_cst (op := 60) (k' := 265) (n := 0) (nx := 15) (w := -10) (tl := []) (st' := [(0, kL1)]) (by decide +kernel) rfl (by decide +kernel) ⟨by omega, by omega⟩ rfl (m265 h (-10) (by omega)) ?_
      rintro v2 _ ⟨rfl, f3, f4, f5⟩
      refine zwic_ge (q := 67) (nx := 18) (by decide +kernel) (fun c6 => ?_) (fun c6 => ?_)
      · refine zwW_p [(0, -1, 0)] (q := 68) (ls' := [(2, 9), (0, a), (0, b), (0, wL1), (0, w3L1), (0, kL1)]) (st' := [(0, -1)]) (by decide +kernel) rfl ?_
        refine zwW_ret (nx := 69) (a := 0) (b := 0) (by decide +kernel) rfl (Or.inl rfl) ?_
        exact ⟨rfl, by omega, by first | (rw [iL1_1, D50]; omega) | (rw [iL1_1, show (kL1).toNat = 114 by omega, rWd_end.1]; rfl)⟩
      · have KW := rWd_at (k := (kL1).toNat) (by omega)
        refine zwW_p [(0, -10, 2), (1, 5, 0)] (q := 22) (ls' := [(2, 9), (0, a), (0, b), (0, wL1), (0, w3L1), (0, kL1)]) (st' := [(0, kL1), (2, -10)]) (by decide +kernel) rfl ?_
        refine zwW_cst (op := 60) (k' := 266) (n := 1) (nx := 25) (w := -10) (tl := [(0, kL1)]) (st' := []) (by decide +kernel) rfl (by decide +kernel) ⟨by omega, by omega⟩ rfl (m266 h (-10) kL1 (by omega) (by omega) (by omega) (by omega)) ?_
        rintro v7 _ ⟨rfl, f8, f9, f10⟩
        refine zwW_p [(0, 32, 0)] (q := 27) (ls' := [(2, 9), (0, a), (0, b), (0, wL1), (0, w3L1), (0, kL1)]) (st' := [(0, 32), (0, v7)]) (by decide +kernel) rfl ?_
        refine zwic_ne (q := 61) (nx := 30) (by decide +kernel) (fun c11 => ?_) (fun c11 => ?_)
        · refine zwW_inc (i := 5) (c := 1) (x := kL1) (nx := 64) (by decide +kernel) rfl ⟨by omega, by omega⟩ (ls' := [(2, 9), (0, a), (0, b), (0, wL1), (0, w3L1), (0, (kL1 + 1))]) rfl ?_
          refine zwW_p [(24, 8, 0)] (q := 8) (ls' := [(2, 9), (0, a), (0, b), (0, wL1), (0, w3L1), (0, (kL1 + 1))]) (st' := []) (by decide +kernel) rfl ?_
          exact IHL1 ((1000 - (kL1 + 1))).toNat (by omega) wL1 w3L1 (kL1 + 1) rfl (by rw [show (kL1 + 1).toNat = (kL1).toNat + 1 by omega]; first | (rw [KW.2.2.2.1, KW.2.2.2.2.1, if_pos (by omega), if_pos (by omega)]; exact ⟨by omega, by omega, by omega⟩) | (rw [KW.2.2.2.1, KW.2.2.2.2.1, if_neg (by omega), if_neg (by omega)]; exact ⟨by omega, by omega, by omega⟩)) (by rw [show (kL1 + 1).toNat = (kL1).toNat + 1 by omega]; first | (rw [KW.2.2.2.1, if_pos (by omega), iL1_1, D52]) | (rw [KW.2.2.2.1, if_neg (by omega)]; exact iL1_1)) (by omega) (by omega) (by omega) (by omega)
        · refine zwW_p [(1, 5, 0), (1, 4, 0)] (q := 34) (ls' := [(2, 9), (0, a), (0, b), (0, wL1), (0, w3L1), (0, kL1)]) (st' := [(0, w3L1), (0, kL1)]) (by decide +kernel) rfl ?_
          refine zwW_sub (nx := 35) (by decide +kernel) ⟨by omega, by omega⟩ ?_
          refine zwW_p [(1, 2, 0)] (q := 36) (ls' := [(2, 9), (0, a), (0, b), (0, wL1), (0, w3L1), (0, kL1)]) (st' := [(0, b), (0, (kL1 - w3L1))]) (by decide +kernel) rfl ?_
          refine zwic_ne (q := 52) (nx := 39) (by decide +kernel) (fun c12 => ?_) (fun c12 => ?_)
          · have NE : ¬ ((rWs (kL1).toNat).length = b.toNat ∧ pEq t p (rWs (kL1).toNat) = true) := by rintro ⟨z1, z2⟩; have z := KW.1.mp (by omega); first | omega | exact trivial (E47.mpr z2)
            have D52 := rFd t p b.toNat (k := (kL1).toNat) (by omega)
            rw [if_neg NE] at D52
            refine zwW_inc (i := 3) (c := 1) (x := wL1) (nx := 55) (by decide +kernel) rfl ⟨by omega, by omega⟩ (ls' := [(2, 9), (0, a), (0, b), (0, (wL1 + 1)), (0, w3L1), (0, kL1)]) rfl ?_
            refine zwW_p [(1, 5, 0), (0, 1, 0)] (q := 58) (ls' := [(2, 9), (0, a), (0, b), (0, (wL1 + 1)), (0, w3L1), (0, kL1)]) (st' := [(0, 1), (0, kL1)]) (by decide +kernel) rfl ?_
            refine zwW_add (nx := 59) (by decide +kernel) ⟨by omega, by omega⟩ ?_
            refine zwW_p [(2, 4, 0)] (q := 61) (ls' := [(2, 9), (0, a), (0, b), (0, (wL1 + 1)), (0, (kL1 + 1)), (0, kL1)]) (st' := []) (by decide +kernel) rfl ?_
            refine zwW_inc (i := 5) (c := 1) (x := kL1) (nx := 64) (by decide +kernel) rfl ⟨by omega, by omega⟩ (ls' := [(2, 9), (0, a), (0, b), (0, (wL1 + 1)), (0, (kL1 + 1)), (0, (kL1 + 1))]) rfl ?_
            refine zwW_p [(24, 8, 0)] (q := 8) (ls' := [(2, 9), (0, a), (0, b), (0, (wL1 + 1)), (0, (kL1 + 1)), (0, (kL1 + 1))]) (st' := []) (by decide +kernel) rfl ?_
            exact IHL1 ((1000 - (kL1 + 1))).toNat (by omega) (wL1 + 1) (kL1 + 1) (kL1 + 1) rfl (by rw [show (kL1 + 1).toNat = (kL1).toNat + 1 by omega]; first | (rw [KW.2.2.2.1, KW.2.2.2.2.1, if_pos (by omega), if_pos (by omega)]; exact ⟨by omega, by omega, by omega⟩) | (rw [KW.2.2.2.1, KW.2.2.2.2.1, if_neg (by omega), if_neg (by omega)]; exact ⟨by omega, by omega, by omega⟩)) (by rw [show (kL1 + 1).toNat = (kL1).toNat + 1 by omega]; first | (rw [KW.2.2.2.1, if_pos (by omega), iL1_1, D52]) | (rw [KW.2.2.2.1, if_neg (by omega)]; exact iL1_1)) (by omega) (by omega) (by omega) (by omega)
          · refine zwW_p [(1, 0, 2), (1, 4, 0), (1, 1, 0), (1, 2, 0)] (q := 44) (ls' := [(2, 9), (0, a), (0, b), (0, wL1), (0, w3L1), (0, kL1)]) (st' := [(0, b), (0, a), (0, w3L1), (2, 9)]) (by decide +kernel) rfl ?_
            refine zwW_cm C.1 (op := 60) (k' := 276) (n := 3) (kd := 7) (m := 9) (nx := 47) (r := 9) (tl := [(0, w3L1), (0, a), (0, b)]) (st' := []) (by decide +kernel) rfl (by decide +kernel) rfl (x276_p h C w3L1 a b t n (by omega) (by omega) (by omega) (by omega) (by omega) B) ?_
            rintro x _ ⟨rfl, ⟨rfl, c13⟩ | ⟨rfl, c13⟩⟩
            · have L47 : (rWs (kL1).toNat).length = b.toNat := by have z := KW.1.mp (by omega); omega
              have E47 : rSp h n w3L1 a b ↔ pEq t p (rWs (kL1).toNat) = true := by rw [show w3L1 = ((rSt (kL1).toNat : Nat) : Int) by omega, pa]; exact rSp_eq B (by omega) (by omega) (by omega)
              refine zwif_eq (q := 52) (nx := 50) (by decide +kernel) (fun c14 => ?_) (fun c14 => ?_)
              · exfalso; omega
              · have D50 := rFd t p b.toNat (k := (kL1).toNat) (by omega)
                rw [if_pos ⟨L47, E47.mp c13⟩] at D50
                refine zwW_p [(1, 3, 0)] (q := 51) (ls' := [(2, 9), (0, a), (0, b), (0, wL1), (0, w3L1), (0, kL1)]) (st' := [(0, wL1)]) (by decide +kernel) rfl ?_
                refine zwW_ret (nx := 52) (a := 0) (b := 0) (by decide +kernel) rfl (Or.inl rfl) ?_
                exact ⟨rfl, by omega, by first | (rw [iL1_1, D50]; omega) | (rw [iL1_1, show (kL1).toNat = 114 by omega, rWd_end.1]; rfl)⟩
            · have L47 : (rWs (kL1).toNat).length = b.toNat := by have z := KW.1.mp (by omega); omega
              have E47 : rSp h n w3L1 a b ↔ pEq t p (rWs (kL1).toNat) = true := by rw [show w3L1 = ((rSt (kL1).toNat : Nat) : Int) by omega, pa]; exact rSp_eq B (by omega) (by omega) (by omega)
              refine zwif_eq (q := 52) (nx := 50) (by decide +kernel) (fun c15 => ?_) (fun c15 => ?_)
              · have NE : ¬ ((rWs (kL1).toNat).length = b.toNat ∧ pEq t p (rWs (kL1).toNat) = true) := by rintro ⟨z1, z2⟩; have z := KW.1.mp (by omega); first | omega | exact c13 (E47.mpr z2)
                have D52 := rFd t p b.toNat (k := (kL1).toNat) (by omega)
                rw [if_neg NE] at D52
                refine zwW_inc (i := 3) (c := 1) (x := wL1) (nx := 55) (by decide +kernel) rfl ⟨by omega, by omega⟩ (ls' := [(2, 9), (0, a), (0, b), (0, (wL1 + 1)), (0, w3L1), (0, kL1)]) rfl ?_
                refine zwW_p [(1, 5, 0), (0, 1, 0)] (q := 58) (ls' := [(2, 9), (0, a), (0, b), (0, (wL1 + 1)), (0, w3L1), (0, kL1)]) (st' := [(0, 1), (0, kL1)]) (by decide +kernel) rfl ?_
                refine zwW_add (nx := 59) (by decide +kernel) ⟨by omega, by omega⟩ ?_
                refine zwW_p [(2, 4, 0)] (q := 61) (ls' := [(2, 9), (0, a), (0, b), (0, (wL1 + 1)), (0, (kL1 + 1)), (0, kL1)]) (st' := []) (by decide +kernel) rfl ?_
                refine zwW_inc (i := 5) (c := 1) (x := kL1) (nx := 64) (by decide +kernel) rfl ⟨by omega, by omega⟩ (ls' := [(2, 9), (0, a), (0, b), (0, (wL1 + 1)), (0, (kL1 + 1)), (0, (kL1 + 1))]) rfl ?_
                refine zwW_p [(24, 8, 0)] (q := 8) (ls' := [(2, 9), (0, a), (0, b), (0, (wL1 + 1)), (0, (kL1 + 1)), (0, (kL1 + 1))]) (st' := []) (by decide +kernel) rfl ?_
                exact IHL1 ((1000 - (kL1 + 1))).toNat (by omega) (wL1 + 1) (kL1 + 1) (kL1 + 1) rfl (by rw [show (kL1 + 1).toNat = (kL1).toNat + 1 by omega]; first | (rw [KW.2.2.2.1, KW.2.2.2.2.1, if_pos (by omega), if_pos (by omega)]; exact ⟨by omega, by omega, by omega⟩) | (rw [KW.2.2.2.1, KW.2.2.2.2.1, if_neg (by omega), if_neg (by omega)]; exact ⟨by omega, by omega, by omega⟩)) (by rw [show (kL1 + 1).toNat = (kL1).toNat + 1 by omega]; first | (rw [KW.2.2.2.1, if_pos (by omega), iL1_1, D52]) | (rw [KW.2.2.2.1, if_neg (by omega)]; exact iL1_1)) (by omega) (by omega) (by omega) (by omega)
              · exfalso; omega
  exact L1 _ 0 0 0 rfl (by show (0 : Int) = ((rNo 0 : Nat) : Int) ∧ (0 : Int) = ((rSt 0 : Nat) : Int) ∧ (0 : Int) ≤ 114; have q := rWd_end; omega) (by show _ = pFd t p b.toNat (pWs.drop (rNo 0)) (rNo 0); rw [rWd_end.2.2.1]; rfl) (by omega) (by omega) (by omega) (by omega)
def msx237_p : Zms := [(9, 9, 2, 3), (9, 9, 4, 5), (9, 9, 5, 6)]
-- WheelLand$Reader.takeWord()V
theorem x237_p {sc : List Int} (h : Hp) (C : CI h) (t : pT) (n : Nat) (p : Nat) (B : rB t n h) (pn : fld h 9 2 = (p : Int)) (pp : fld h 9 3 = (p : Int)) (pl : p ≤ n) : zwC sc 7 237 [(2, 9)] h (zwRv (fun g => CI g ∧ zXR msx237_p (0) (0) h g ∧ (fld g 9 2 = ((pRun pLet t n p : Nat) : Int)) ∧ (fld g 9 4 = 1) ∧ (fld g 9 5 = pFd t p (pRun pLet t n p - p) pWs 0))) := by
  refine zwC_of (D := 6) 1 (by decide +kernel) rfl (ls := [(2, 9)]) rfl ?_
  have X : zXR msx237_p 0 0 h h := zXR.rf _ _
  have B1 := B.1
  have B2 := B.2.1
  have L1 : ∀ (n0 : Nat) (hL1 : Hp), n0 = ((400 - fld hL1 9 2)).toNat → (rB t n hL1) → (p ≤ fld hL1 9 2 ∧ fld hL1 9 2 ≤ n ∧ fld hL1 9 3 = p) → (pRun pLet t n (fld hL1 9 2).toNat = pRun pLet t n p) → CI hL1 → zXR msx237_p (0) (0) h hL1 → zwW sc (6) 237 0 [(2, 9)] [] hL1 (zwRv (fun g => CI g ∧ zXR msx237_p (0) (0) h g ∧ (fld g 9 2 = ((pRun pLet t n p : Nat) : Int)) ∧ (fld g 9 4 = 1) ∧ (fld g 9 5 = pFd t p (pRun pLet t n p - p) pWs 0))) := by
    intro n0
    induction n0 using Nat.strongRecOn with
    | ind n0 IHL1 =>
      intro hL1 hnL1 iL1_0 iL1_1 iL1_2 ChL1 XhL1
      have BL := iL1_0.1
      refine zwW_p [(1, 0, 2)] (q := 1) (ls' := [(2, 9)]) (st' := [(2, 9)]) (by decide +kernel) rfl ?_
      refine zwW_gs ChL1.1 (kd := 7) (bn := 2) (n := 9) (t := 0) (lo := 0) (hi := 400) (nx := 4) (by decide +kernel) ?_
      intro v2 ev2 lv2 uv2
      refine zwW_p [(1, 0, 2)] (q := 5) (ls' := [(2, 9)]) (st' := [(2, 9), (0, v2)]) (by decide +kernel) rfl ?_
      refine zwW_gs ChL1.1 (kd := 7) (bn := 0) (n := 9) (t := 0) (lo := 0) (hi := 400) (nx := 8) (by decide +kernel) ?_
      intro v3 ev3 lv3 uv3
      refine zwic_ge (q := 35) (nx := 11) (by decide +kernel) (fun c4 => ?_) (fun c4 => ?_)
      · have N35 : pRun pLet t n p = (fld hL1 9 2).toNat := by rw [← iL1_2]; exact pRun_e (fun z => by first | omega | exact trivial ⟨by omega, z.2⟩)
        refine zwW_p [(1, 0, 2), (0, 1, 0)] (q := 37) (ls' := [(2, 9)]) (st' := [(0, 1), (2, 9)]) (by decide +kernel) rfl ?_
        refine zwW_ps ChL1.1 (kd := 7) (bn := 4) (n := 9) (lo := -2147483648) (hi := 2147483647) (nx := 40) (by decide +kernel) ⟨by decide, by decide⟩ ?_
        intro h5 eh5 Ih5
        have Ch5 : CI h5 := ChL1.wc eh5 Ih5 (by decide) (by decide)
        have Qh5 : zXR [(9, 9, 4, 5)] 0 0 hL1 h5 := zXR.wc eh5 rfl ⟨by decide, by decide, Or.inl (by decide)⟩ ⟨by decide, by decide⟩
        have Xh5 : zXR msx237_p (0) (0) h h5 := XhL1.tr (c2 := 0) (s2 := 0) Qh5 (by decide +kernel) (by decide) (by decide)
        have th5_9_0 : fld h5 9 0 = fld hL1 9 0 := Qh5.f (a1 := 9) (a2 := 9) (j1 := 0) (j2 := 1) (by decide +kernel) ⟨by decide, by decide⟩ ⟨by decide, by decide⟩ ⟨by decide, by decide⟩
        have th5_9_2 : fld h5 9 2 = fld hL1 9 2 := Qh5.f (a1 := 9) (a2 := 9) (j1 := 2) (j2 := 3) (by decide +kernel) ⟨by decide, by decide⟩ ⟨by decide, by decide⟩ ⟨by decide, by decide⟩
        have th5_9_3 : fld h5 9 3 = fld hL1 9 3 := Qh5.f (a1 := 9) (a2 := 9) (j1 := 3) (j2 := 4) (by decide +kernel) ⟨by decide, by decide⟩ ⟨by decide, by decide⟩ ⟨by decide, by decide⟩
        have th5_9_5 : fld h5 9 5 = fld hL1 9 5 := Qh5.f (a1 := 9) (a2 := 9) (j1 := 5) (j2 := 6) (by decide +kernel) ⟨by decide, by decide⟩ ⟨by decide, by decide⟩ ⟨by decide, by decide⟩
        have Bh5 : rB t n h5 := iL1_0.fr Qh5 (by decide +kernel)
        have th5_9_4 : fld h5 9 4 = 1 := by rw [eh5]; exact fld_wr_eq (ChL1.1.s (a1 := 9) (a2 := 9) (k := 7) (n := 9) (by decide +kernel) (by decide) (by decide)) (by decide)
        refine zwW_p [(1, 0, 2), (1, 0, 2), (1, 0, 2)] (q := 43) (ls' := [(2, 9)]) (st' := [(2, 9), (2, 9), (2, 9)]) (by decide +kernel) rfl ?_
        refine zwW_gs Ch5.1 (kd := 7) (bn := 3) (n := 9) (t := 0) (lo := 0) (hi := 400) (nx := 46) (by decide +kernel) ?_
        intro v6 ev6 lv6 uv6
        refine zwW_p [(1, 0, 2)] (q := 47) (ls' := [(2, 9)]) (st' := [(2, 9), (0, v6), (2, 9), (2, 9)]) (by decide +kernel) rfl ?_
        refine zwW_gs Ch5.1 (kd := 7) (bn := 2) (n := 9) (t := 0) (lo := 0) (hi := 400) (nx := 50) (by decide +kernel) ?_
        intro v7 ev7 lv7 uv7
        refine zwW_p [(1, 0, 2)] (q := 51) (ls' := [(2, 9)]) (st' := [(2, 9), (0, v7), (0, v6), (2, 9), (2, 9)]) (by decide +kernel) rfl ?_
        refine zwW_gs Ch5.1 (kd := 7) (bn := 3) (n := 9) (t := 0) (lo := 0) (hi := 400) (nx := 54) (by decide +kernel) ?_
        intro v8 ev8 lv8 uv8
        refine zwW_sub (nx := 55) (by decide +kernel) ⟨by omega, by omega⟩ ?_
        refine zwW_cm Ch5.1 (op := 60) (k' := 260) (n := 2) (kd := 7) (m := 9) (nx := 58) (r := 9) (tl := [(0, v6), (0, (v7 - v8))]) (st' := [(2, 9)]) (by decide +kernel) rfl (by decide +kernel) rfl (x260_p h5 Ch5 v6 (v7 - v8) t n p (by omega) (by omega) Bh5 (by omega) (by have := N35; omega)) ?_
        rintro v9 _ ⟨rfl, f10, f11⟩
        refine zwW_ps Ch5.1 (kd := 7) (bn := 5) (n := 9) (lo := -2147483648) (hi := 2147483647) (nx := 61) (by decide +kernel) ⟨by omega, by omega⟩ ?_
        intro h12 eh12 Ih12
        have Ch12 : CI h12 := Ch5.wc eh12 Ih12 (by decide) (by decide)
        have Qh12 : zXR [(9, 9, 5, 6)] 0 0 h5 h12 := zXR.wc eh12 rfl ⟨by decide, by decide, Or.inl (by decide)⟩ ⟨by decide, by decide⟩
        have Xh12 : zXR msx237_p (0) (0) h h12 := Xh5.tr (c2 := 0) (s2 := 0) Qh12 (by decide +kernel) (by decide) (by decide)
        have th12_9_0 : fld h12 9 0 = fld h5 9 0 := Qh12.f (a1 := 9) (a2 := 9) (j1 := 0) (j2 := 1) (by decide +kernel) ⟨by decide, by decide⟩ ⟨by decide, by decide⟩ ⟨by decide, by decide⟩
        have th12_9_2 : fld h12 9 2 = fld h5 9 2 := Qh12.f (a1 := 9) (a2 := 9) (j1 := 2) (j2 := 3) (by decide +kernel) ⟨by decide, by decide⟩ ⟨by decide, by decide⟩ ⟨by decide, by decide⟩
        have th12_9_3 : fld h12 9 3 = fld h5 9 3 := Qh12.f (a1 := 9) (a2 := 9) (j1 := 3) (j2 := 4) (by decide +kernel) ⟨by decide, by decide⟩ ⟨by decide, by decide⟩ ⟨by decide, by decide⟩
        have th12_9_4 : fld h12 9 4 = fld h5 9 4 := Qh12.f (a1 := 9) (a2 := 9) (j1 := 4) (j2 := 5) (by decide +kernel) ⟨by decide, by decide⟩ ⟨by decide, by decide⟩ ⟨by decide, by decide⟩
        have Bh12 : rB t n h12 := Bh5.fr Qh12 (by decide +kernel)
        have th12_9_5 : fld h12 9 5 = v9 := by rw [eh12]; exact fld_wr_eq (Ch5.1.s (a1 := 9) (a2 := 9) (k := 7) (n := 9) (by decide +kernel) (by decide) (by decide)) (by decide)
        refine zwW_retv (nx := 62) (a := 0) (b := 0) (by decide +kernel) ?_
        exact ⟨Ch12, Xh12.le (by decide) (by decide), by rw [N35]; omega, by omega, by rw [show fld h12 9 5 = v9 by omega, f11, N35]; congr 1; omega⟩
      · refine zwW_p [(1, 0, 2), (1, 0, 2)] (q := 13) (ls' := [(2, 9)]) (st' := [(2, 9), (2, 9)]) (by decide +kernel) rfl ?_
        refine zwW_gs ChL1.1 (kd := 7) (bn := 2) (n := 9) (t := 0) (lo := 0) (hi := 400) (nx := 16) (by decide +kernel) ?_
        intro v13 ev13 lv13 uv13
        refine zwW_cm ChL1.1 (op := 60) (k' := 236) (n := 1) (kd := 7) (m := 9) (nx := 19) (r := 9) (tl := [(0, v13)]) (st' := []) (by decide +kernel) rfl (by decide +kernel) rfl (x236_p hL1 ChL1 v13 t n (by omega) (by omega) iL1_0) ?_
        rintro x _ ⟨rfl, ⟨rfl, c14⟩ | ⟨rfl, c14⟩⟩
        · rw [ev13] at c14
          refine zwif_eq (q := 35) (nx := 22) (by decide +kernel) (fun c15 => ?_) (fun c15 => ?_)
          · exfalso; omega
          · refine zwW_p [(1, 0, 2), (12, 0, 0)] (q := 24) (ls' := [(2, 9)]) (st' := [(2, 9), (2, 9)]) (by decide +kernel) rfl ?_
            refine zwW_gs ChL1.1 (kd := 7) (bn := 2) (n := 9) (t := 0) (lo := 0) (hi := 400) (nx := 27) (by decide +kernel) ?_
            intro v16 ev16 lv16 uv16
            refine zwW_p [(0, 1, 0)] (q := 28) (ls' := [(2, 9)]) (st' := [(0, 1), (0, v16), (2, 9)]) (by decide +kernel) rfl ?_
            refine zwW_add (nx := 29) (by decide +kernel) ⟨by omega, by omega⟩ ?_
            refine zwW_ps ChL1.1 (kd := 7) (bn := 2) (n := 9) (lo := 0) (hi := 400) (nx := 32) (by decide +kernel) ⟨by omega, by omega⟩ ?_
            intro h17 eh17 Ih17
            have Ch17 : CI h17 := ChL1.wc eh17 Ih17 (by decide) (by decide)
            have Qh17 : zXR [(9, 9, 2, 3)] 0 0 hL1 h17 := zXR.wc eh17 rfl ⟨by decide, by decide, Or.inl (by decide)⟩ ⟨by decide, by decide⟩
            have Xh17 : zXR msx237_p (0) (0) h h17 := XhL1.tr (c2 := 0) (s2 := 0) Qh17 (by decide +kernel) (by decide) (by decide)
            have th17_9_0 : fld h17 9 0 = fld hL1 9 0 := Qh17.f (a1 := 9) (a2 := 9) (j1 := 0) (j2 := 1) (by decide +kernel) ⟨by decide, by decide⟩ ⟨by decide, by decide⟩ ⟨by decide, by decide⟩
            have th17_9_3 : fld h17 9 3 = fld hL1 9 3 := Qh17.f (a1 := 9) (a2 := 9) (j1 := 3) (j2 := 4) (by decide +kernel) ⟨by decide, by decide⟩ ⟨by decide, by decide⟩ ⟨by decide, by decide⟩
            have th17_9_4 : fld h17 9 4 = fld hL1 9 4 := Qh17.f (a1 := 9) (a2 := 9) (j1 := 4) (j2 := 5) (by decide +kernel) ⟨by decide, by decide⟩ ⟨by decide, by decide⟩ ⟨by decide, by decide⟩
            have th17_9_5 : fld h17 9 5 = fld hL1 9 5 := Qh17.f (a1 := 9) (a2 := 9) (j1 := 5) (j2 := 6) (by decide +kernel) ⟨by decide, by decide⟩ ⟨by decide, by decide⟩ ⟨by decide, by decide⟩
            have Bh17 : rB t n h17 := iL1_0.fr Qh17 (by decide +kernel)
            have th17_9_2 : fld h17 9 2 = (v16 + 1) := by rw [eh17]; exact fld_wr_eq (ChL1.1.s (a1 := 9) (a2 := 9) (k := 7) (n := 9) (by decide +kernel) (by decide) (by decide)) (by decide)
            have PR : pRun pLet t n (fld h17 9 2).toNat = pRun pLet t n p := by rw [← iL1_2, show (fld h17 9 2).toNat = (fld hL1 9 2).toNat + 1 by omega]; exact (pRun_s (by omega) c14.2).symm
            refine zwW_p [(24, 0, 0)] (q := 0) (ls' := [(2, 9)]) (st' := []) (by decide +kernel) rfl ?_
            exact IHL1 ((400 - fld h17 9 2)).toNat (by omega) h17 rfl (Bh17) (by omega) (PR) Ch17 (Xh17.le (by decide) (by decide))
        · rw [ev13] at c14
          refine zwif_eq (q := 35) (nx := 22) (by decide +kernel) (fun c18 => ?_) (fun c18 => ?_)
          · have N35 : pRun pLet t n p = (fld hL1 9 2).toNat := by rw [← iL1_2]; exact pRun_e (fun z => by first | omega | exact c14 ⟨by omega, z.2⟩)
            refine zwW_p [(1, 0, 2), (0, 1, 0)] (q := 37) (ls' := [(2, 9)]) (st' := [(0, 1), (2, 9)]) (by decide +kernel) rfl ?_
            refine zwW_ps ChL1.1 (kd := 7) (bn := 4) (n := 9) (lo := -2147483648) (hi := 2147483647) (nx := 40) (by decide +kernel) ⟨by decide, by decide⟩ ?_
            intro h19 eh19 Ih19
            have Ch19 : CI h19 := ChL1.wc eh19 Ih19 (by decide) (by decide)
            have Qh19 : zXR [(9, 9, 4, 5)] 0 0 hL1 h19 := zXR.wc eh19 rfl ⟨by decide, by decide, Or.inl (by decide)⟩ ⟨by decide, by decide⟩
            have Xh19 : zXR msx237_p (0) (0) h h19 := XhL1.tr (c2 := 0) (s2 := 0) Qh19 (by decide +kernel) (by decide) (by decide)
            have th19_9_0 : fld h19 9 0 = fld hL1 9 0 := Qh19.f (a1 := 9) (a2 := 9) (j1 := 0) (j2 := 1) (by decide +kernel) ⟨by decide, by decide⟩ ⟨by decide, by decide⟩ ⟨by decide, by decide⟩
            have th19_9_2 : fld h19 9 2 = fld hL1 9 2 := Qh19.f (a1 := 9) (a2 := 9) (j1 := 2) (j2 := 3) (by decide +kernel) ⟨by decide, by decide⟩ ⟨by decide, by decide⟩ ⟨by decide, by decide⟩
            have th19_9_3 : fld h19 9 3 = fld hL1 9 3 := Qh19.f (a1 := 9) (a2 := 9) (j1 := 3) (j2 := 4) (by decide +kernel) ⟨by decide, by decide⟩ ⟨by decide, by decide⟩ ⟨by decide, by decide⟩
            have th19_9_5 : fld h19 9 5 = fld hL1 9 5 := Qh19.f (a1 := 9) (a2 := 9) (j1 := 5) (j2 := 6) (by decide +kernel) ⟨by decide, by decide⟩ ⟨by decide, by decide⟩ ⟨by decide, by decide⟩
            have Bh19 : rB t n h19 := iL1_0.fr Qh19 (by decide +kernel)
            have th19_9_4 : fld h19 9 4 = 1 := by rw [eh19]; exact fld_wr_eq (ChL1.1.s (a1 := 9) (a2 := 9) (k := 7) (n := 9) (by decide +kernel) (by decide) (by decide)) (by decide)
            refine zwW_p [(1, 0, 2), (1, 0, 2), (1, 0, 2)] (q := 43) (ls' := [(2, 9)]) (st' := [(2, 9), (2, 9), (2, 9)]) (by decide +kernel) rfl ?_
            refine zwW_gs Ch19.1 (kd := 7) (bn := 3) (n := 9) (t := 0) (lo := 0) (hi := 400) (nx := 46) (by decide +kernel) ?_
            intro v20 ev20 lv20 uv20
            refine zwW_p [(1, 0, 2)] (q := 47) (ls' := [(2, 9)]) (st' := [(2, 9), (0, v20), (2, 9), (2, 9)]) (by decide +kernel) rfl ?_
            refine zwW_gs Ch19.1 (kd := 7) (bn := 2) (n := 9) (t := 0) (lo := 0) (hi := 400) (nx := 50) (by decide +kernel) ?_
            intro v21 ev21 lv21 uv21
            refine zwW_p [(1, 0, 2)] (q := 51) (ls' := [(2, 9)]) (st' := [(2, 9), (0, v21), (0, v20), (2, 9), (2, 9)]) (by decide +kernel) rfl ?_
            refine zwW_gs Ch19.1 (kd := 7) (bn := 3) (n := 9) (t := 0) (lo := 0) (hi := 400) (nx := 54) (by decide +kernel) ?_
            intro v22 ev22 lv22 uv22
            refine zwW_sub (nx := 55) (by decide +kernel) ⟨by omega, by omega⟩ ?_
            refine zwW_cm Ch19.1 (op := 60) (k' := 260) (n := 2) (kd := 7) (m := 9) (nx := 58) (r := 9) (tl := [(0, v20), (0, (v21 - v22))]) (st' := [(2, 9)]) (by decide +kernel) rfl (by decide +kernel) rfl (x260_p h19 Ch19 v20 (v21 - v22) t n p (by omega) (by omega) Bh19 (by omega) (by have := N35; omega)) ?_
            rintro v23 _ ⟨rfl, f24, f25⟩
            refine zwW_ps Ch19.1 (kd := 7) (bn := 5) (n := 9) (lo := -2147483648) (hi := 2147483647) (nx := 61) (by decide +kernel) ⟨by omega, by omega⟩ ?_
            intro h26 eh26 Ih26
            have Ch26 : CI h26 := Ch19.wc eh26 Ih26 (by decide) (by decide)
            have Qh26 : zXR [(9, 9, 5, 6)] 0 0 h19 h26 := zXR.wc eh26 rfl ⟨by decide, by decide, Or.inl (by decide)⟩ ⟨by decide, by decide⟩
            have Xh26 : zXR msx237_p (0) (0) h h26 := Xh19.tr (c2 := 0) (s2 := 0) Qh26 (by decide +kernel) (by decide) (by decide)
            have th26_9_0 : fld h26 9 0 = fld h19 9 0 := Qh26.f (a1 := 9) (a2 := 9) (j1 := 0) (j2 := 1) (by decide +kernel) ⟨by decide, by decide⟩ ⟨by decide, by decide⟩ ⟨by decide, by decide⟩
            have th26_9_2 : fld h26 9 2 = fld h19 9 2 := Qh26.f (a1 := 9) (a2 := 9) (j1 := 2) (j2 := 3) (by decide +kernel) ⟨by decide, by decide⟩ ⟨by decide, by decide⟩ ⟨by decide, by decide⟩
            have th26_9_3 : fld h26 9 3 = fld h19 9 3 := Qh26.f (a1 := 9) (a2 := 9) (j1 := 3) (j2 := 4) (by decide +kernel) ⟨by decide, by decide⟩ ⟨by decide, by decide⟩ ⟨by decide, by decide⟩
            have th26_9_4 : fld h26 9 4 = fld h19 9 4 := Qh26.f (a1 := 9) (a2 := 9) (j1 := 4) (j2 := 5) (by decide +kernel) ⟨by decide, by decide⟩ ⟨by decide, by decide⟩ ⟨by decide, by decide⟩
            have Bh26 : rB t n h26 := Bh19.fr Qh26 (by decide +kernel)
            have th26_9_5 : fld h26 9 5 = v23 := by rw [eh26]; exact fld_wr_eq (Ch19.1.s (a1 := 9) (a2 := 9) (k := 7) (n := 9) (by decide +kernel) (by decide) (by decide)) (by decide)
            refine zwW_retv (nx := 62) (a := 0) (b := 0) (by decide +kernel) ?_
            exact ⟨Ch26, Xh26.le (by decide) (by decide), by rw [N35]; omega, by omega, by rw [show fld h26 9 5 = v23 by omega, f25, N35]; congr 1; omega⟩
          · exfalso; omega
  exact L1 _ h rfl (B) (by omega) (by rw [show (fld h 9 2).toNat = p by omega]) C (X.le (by decide) (by decide))
def msx239_p : Zms := [(9, 9, 2, 3), (9, 9, 4, 5), (9, 9, 5, 6)]
-- WheelLand$Reader.takeNumber()V
theorem x239_p {sc : List Int} (h : Hp) (C : CI h) (t : pT) (n : Nat) (p : Nat) (B : rB t n h) (pn : fld h 9 2 = (p : Int)) (pp : fld h 9 3 = (p : Int)) (pl : p ≤ n) : zwC sc 2 239 [(2, 9)] h (zwRv (fun g => CI g ∧ zXR msx239_p (0) (0) h g ∧ (fld g 9 2 = ((pRun pDig t n p : Nat) : Int)) ∧ (fld g 9 4 = 2) ∧ (fld g 9 5 = pNu t (pRun pDig t n p - p) p 0))) := by
  refine zwC_of (D := 1) 1 (by decide +kernel) rfl (ls := [(2, 9)]) rfl ?_
  have X : zXR msx239_p 0 0 h h := zXR.rf _ _
  have B1 := B.1
  have B2 := B.2.1
  refine zwW_p [(1, 0, 2), (0, 2, 0)] (q := 2) (ls' := [(2, 9)]) (st' := [(0, 2), (2, 9)]) (by decide +kernel) rfl ?_
  refine zwW_ps C.1 (kd := 7) (bn := 4) (n := 9) (lo := -2147483648) (hi := 2147483647) (nx := 5) (by decide +kernel) ⟨by decide, by decide⟩ ?_
  intro h1 eh1 Ih1
  have Ch1 : CI h1 := C.wc eh1 Ih1 (by decide) (by decide)
  have Qh1 : zXR [(9, 9, 4, 5)] 0 0 h h1 := zXR.wc eh1 rfl ⟨by decide, by decide, Or.inl (by decide)⟩ ⟨by decide, by decide⟩
  have Xh1 : zXR msx239_p (0) (0) h h1 := X.tr (c2 := 0) (s2 := 0) Qh1 (by decide +kernel) (by decide) (by decide)
  have th1_9_0 : fld h1 9 0 = fld h 9 0 := Qh1.f (a1 := 9) (a2 := 9) (j1 := 0) (j2 := 1) (by decide +kernel) ⟨by decide, by decide⟩ ⟨by decide, by decide⟩ ⟨by decide, by decide⟩
  have th1_9_2 : fld h1 9 2 = fld h 9 2 := Qh1.f (a1 := 9) (a2 := 9) (j1 := 2) (j2 := 3) (by decide +kernel) ⟨by decide, by decide⟩ ⟨by decide, by decide⟩ ⟨by decide, by decide⟩
  have th1_9_3 : fld h1 9 3 = fld h 9 3 := Qh1.f (a1 := 9) (a2 := 9) (j1 := 3) (j2 := 4) (by decide +kernel) ⟨by decide, by decide⟩ ⟨by decide, by decide⟩ ⟨by decide, by decide⟩
  have th1_9_5 : fld h1 9 5 = fld h 9 5 := Qh1.f (a1 := 9) (a2 := 9) (j1 := 5) (j2 := 6) (by decide +kernel) ⟨by decide, by decide⟩ ⟨by decide, by decide⟩ ⟨by decide, by decide⟩
  have Bh1 : rB t n h1 := B.fr Qh1 (by decide +kernel)
  have th1_9_4 : fld h1 9 4 = 2 := by rw [eh1]; exact fld_wr_eq (C.1.s (a1 := 9) (a2 := 9) (k := 7) (n := 9) (by decide +kernel) (by decide) (by decide)) (by decide)
  refine zwW_p [(1, 0, 2), (0, 0, 0)] (q := 7) (ls' := [(2, 9)]) (st' := [(0, 0), (2, 9)]) (by decide +kernel) rfl ?_
  refine zwW_ps Ch1.1 (kd := 7) (bn := 5) (n := 9) (lo := -2147483648) (hi := 2147483647) (nx := 10) (by decide +kernel) ⟨by decide, by decide⟩ ?_
  intro h2 eh2 Ih2
  have Ch2 : CI h2 := Ch1.wc eh2 Ih2 (by decide) (by decide)
  have Qh2 : zXR [(9, 9, 5, 6)] 0 0 h1 h2 := zXR.wc eh2 rfl ⟨by decide, by decide, Or.inl (by decide)⟩ ⟨by decide, by decide⟩
  have Xh2 : zXR msx239_p (0) (0) h h2 := Xh1.tr (c2 := 0) (s2 := 0) Qh2 (by decide +kernel) (by decide) (by decide)
  have th2_9_0 : fld h2 9 0 = fld h1 9 0 := Qh2.f (a1 := 9) (a2 := 9) (j1 := 0) (j2 := 1) (by decide +kernel) ⟨by decide, by decide⟩ ⟨by decide, by decide⟩ ⟨by decide, by decide⟩
  have th2_9_2 : fld h2 9 2 = fld h1 9 2 := Qh2.f (a1 := 9) (a2 := 9) (j1 := 2) (j2 := 3) (by decide +kernel) ⟨by decide, by decide⟩ ⟨by decide, by decide⟩ ⟨by decide, by decide⟩
  have th2_9_3 : fld h2 9 3 = fld h1 9 3 := Qh2.f (a1 := 9) (a2 := 9) (j1 := 3) (j2 := 4) (by decide +kernel) ⟨by decide, by decide⟩ ⟨by decide, by decide⟩ ⟨by decide, by decide⟩
  have th2_9_4 : fld h2 9 4 = fld h1 9 4 := Qh2.f (a1 := 9) (a2 := 9) (j1 := 4) (j2 := 5) (by decide +kernel) ⟨by decide, by decide⟩ ⟨by decide, by decide⟩ ⟨by decide, by decide⟩
  have Bh2 : rB t n h2 := Bh1.fr Qh2 (by decide +kernel)
  have th2_9_5 : fld h2 9 5 = 0 := by rw [eh2]; exact fld_wr_eq (Ch1.1.s (a1 := 9) (a2 := 9) (k := 7) (n := 9) (by decide +kernel) (by decide) (by decide)) (by decide)
  have L3 : ∀ (n0 : Nat) (hL3 : Hp), n0 = ((400 - fld hL3 9 2)).toNat → (rB t n hL3) → (p ≤ fld hL3 9 2 ∧ fld hL3 9 2 ≤ n ∧ fld hL3 9 3 = p ∧ fld hL3 9 4 = 2 ∧ 0 ≤ fld hL3 9 5 ∧ fld hL3 9 5 ≤ 10000) → (pRun pDig t n (fld hL3 9 2).toNat = pRun pDig t n p) → (fld hL3 9 5 = pNu t ((fld hL3 9 2).toNat - p) p 0) → CI hL3 → zXR msx239_p (0) (0) h hL3 → zwW sc (1) 239 10 [(2, 9)] [] hL3 (zwRv (fun g => CI g ∧ zXR msx239_p (0) (0) h g ∧ (fld g 9 2 = ((pRun pDig t n p : Nat) : Int)) ∧ (fld g 9 4 = 2) ∧ (fld g 9 5 = pNu t (pRun pDig t n p - p) p 0))) := by
    intro n0
    induction n0 using Nat.strongRecOn with
    | ind n0 IHL3 =>
      intro hL3 hnL3 iL3_0 iL3_1 iL3_2 iL3_3 ChL3 XhL3
      have BL := iL3_0.1
      refine zwW_p [(1, 0, 2)] (q := 11) (ls' := [(2, 9)]) (st' := [(2, 9)]) (by decide +kernel) rfl ?_
      refine zwW_gs ChL3.1 (kd := 7) (bn := 2) (n := 9) (t := 0) (lo := 0) (hi := 400) (nx := 14) (by decide +kernel) ?_
      intro v4 ev4 lv4 uv4
      refine zwW_p [(1, 0, 2)] (q := 15) (ls' := [(2, 9)]) (st' := [(2, 9), (0, v4)]) (by decide +kernel) rfl ?_
      refine zwW_gs ChL3.1 (kd := 7) (bn := 0) (n := 9) (t := 0) (lo := 0) (hi := 400) (nx := 18) (by decide +kernel) ?_
      intro v5 ev5 lv5 uv5
      refine zwic_ge (q := 75) (nx := 21) (by decide +kernel) (fun c6 => ?_) (fun c6 => ?_)
      · have N75 : pRun pDig t n p = (fld hL3 9 2).toNat := by rw [← iL3_2]; exact pRun_e (fun z => by first | omega | exact trivial ⟨by omega, z.2⟩)
        refine zwW_retv (nx := 76) (a := 0) (b := 0) (by decide +kernel) ?_
        exact ⟨ChL3, XhL3.le (by decide) (by decide), by rw [N75]; omega, by omega, by rw [N75]; exact iL3_3⟩
      · refine zwW_p [(1, 0, 2), (1, 0, 2)] (q := 23) (ls' := [(2, 9)]) (st' := [(2, 9), (2, 9)]) (by decide +kernel) rfl ?_
        refine zwW_gs ChL3.1 (kd := 7) (bn := 2) (n := 9) (t := 0) (lo := 0) (hi := 400) (nx := 26) (by decide +kernel) ?_
        intro v7 ev7 lv7 uv7
        refine zwW_cm ChL3.1 (op := 60) (k' := 238) (n := 1) (kd := 7) (m := 9) (nx := 29) (r := 9) (tl := [(0, v7)]) (st' := []) (by decide +kernel) rfl (by decide +kernel) rfl (x238_p hL3 ChL3 v7 t n (by omega) (by omega) iL3_0) ?_
        rintro x _ ⟨rfl, ⟨rfl, c8⟩ | ⟨rfl, c8⟩⟩
        · rw [ev7] at c8
          refine zwif_eq (q := 75) (nx := 32) (by decide +kernel) (fun c9 => ?_) (fun c9 => ?_)
          · exfalso; omega
          · refine zwW_p [(1, 0, 2), (1, 0, 2)] (q := 34) (ls' := [(2, 9)]) (st' := [(2, 9), (2, 9)]) (by decide +kernel) rfl ?_
            refine zwW_gs ChL3.1 (kd := 7) (bn := 5) (n := 9) (t := 0) (lo := -2147483648) (hi := 2147483647) (nx := 37) (by decide +kernel) ?_
            intro v10 ev10 lv10 uv10
            refine zwW_p [(0, 10, 0)] (q := 39) (ls' := [(2, 9)]) (st' := [(0, 10), (0, v10), (2, 9)]) (by decide +kernel) rfl ?_
            refine zwW_mul (nx := 40) (by decide +kernel) ⟨by omega, by omega⟩ ?_
            refine zwW_p [(1, 0, 2)] (q := 41) (ls' := [(2, 9)]) (st' := [(2, 9), (0, (v10 * 10)), (2, 9)]) (by decide +kernel) rfl ?_
            refine zwW_gc ChL3.1 (kd := 7) (bn := 1) (n := 9) (c := 10) (nx := 44) (by decide +kernel) ?_
            refine zwW_p [(1, 0, 2)] (q := 45) (ls' := [(2, 9)]) (st' := [(2, 9), (2, 10), (0, (v10 * 10)), (2, 9)]) (by decide +kernel) rfl ?_
            refine zwW_gs ChL3.1 (kd := 7) (bn := 2) (n := 9) (t := 0) (lo := 0) (hi := 400) (nx := 48) (by decide +kernel) ?_
            intro v11 ev11 lv11 uv11
            refine zwW_al ChL3.1 (a1 := 10) (a2 := 10) (kd := 20) (n := 400) (t := 0) (lo := -2147483648) (hi := 2147483647) (nx := 49) (by decide +kernel) ⟨by decide, by decide⟩ ⟨by omega, by omega⟩ ?_
            intro v12 ev12 lv12 uv12
            have E49 : v12 = fld hL3 10 (fld hL3 9 2).toNat := by rw [ev12]; congr 1; omega
            have D49 := (iL3_0.dig (i := (fld hL3 9 2).toNat) (by omega)).mp c8.2
            have L49 := iL3_0.bl (i := (fld hL3 9 2).toNat) (by omega)
            refine zwW_add (nx := 50) (by decide +kernel) ⟨by omega, by omega⟩ ?_
            refine zwW_p [(0, 48, 0)] (q := 52) (ls' := [(2, 9)]) (st' := [(0, 48), (0, ((v10 * 10) + v12)), (2, 9)]) (by decide +kernel) rfl ?_
            refine zwW_sub (nx := 53) (by decide +kernel) ⟨by omega, by omega⟩ ?_
            refine zwW_p [(0, 10000, 0)] (q := 56) (ls' := [(2, 9)]) (st' := [(0, 10000), (0, (((v10 * 10) + v12) - 48)), (2, 9)]) (by decide +kernel) rfl ?_
            refine zwW_min (nx := 59) (by decide +kernel) rfl ?_
            intro v13 ev13
            refine zwW_ps ChL3.1 (kd := 7) (bn := 5) (n := 9) (lo := -2147483648) (hi := 2147483647) (nx := 62) (by decide +kernel) ⟨by omega, by omega⟩ ?_
            intro h14 eh14 Ih14
            have Ch14 : CI h14 := ChL3.wc eh14 Ih14 (by decide) (by decide)
            have Qh14 : zXR [(9, 9, 5, 6)] 0 0 hL3 h14 := zXR.wc eh14 rfl ⟨by decide, by decide, Or.inl (by decide)⟩ ⟨by decide, by decide⟩
            have Xh14 : zXR msx239_p (0) (0) h h14 := XhL3.tr (c2 := 0) (s2 := 0) Qh14 (by decide +kernel) (by decide) (by decide)
            have th14_9_0 : fld h14 9 0 = fld hL3 9 0 := Qh14.f (a1 := 9) (a2 := 9) (j1 := 0) (j2 := 1) (by decide +kernel) ⟨by decide, by decide⟩ ⟨by decide, by decide⟩ ⟨by decide, by decide⟩
            have th14_9_2 : fld h14 9 2 = fld hL3 9 2 := Qh14.f (a1 := 9) (a2 := 9) (j1 := 2) (j2 := 3) (by decide +kernel) ⟨by decide, by decide⟩ ⟨by decide, by decide⟩ ⟨by decide, by decide⟩
            have th14_9_3 : fld h14 9 3 = fld hL3 9 3 := Qh14.f (a1 := 9) (a2 := 9) (j1 := 3) (j2 := 4) (by decide +kernel) ⟨by decide, by decide⟩ ⟨by decide, by decide⟩ ⟨by decide, by decide⟩
            have th14_9_4 : fld h14 9 4 = fld hL3 9 4 := Qh14.f (a1 := 9) (a2 := 9) (j1 := 4) (j2 := 5) (by decide +kernel) ⟨by decide, by decide⟩ ⟨by decide, by decide⟩ ⟨by decide, by decide⟩
            have Bh14 : rB t n h14 := iL3_0.fr Qh14 (by decide +kernel)
            have th14_9_5 : fld h14 9 5 = v13 := by rw [eh14]; exact fld_wr_eq (ChL3.1.s (a1 := 9) (a2 := 9) (k := 7) (n := 9) (by decide +kernel) (by decide) (by decide)) (by decide)
            refine zwW_p [(1, 0, 2), (12, 0, 0)] (q := 64) (ls' := [(2, 9)]) (st' := [(2, 9), (2, 9)]) (by decide +kernel) rfl ?_
            refine zwW_gs Ch14.1 (kd := 7) (bn := 2) (n := 9) (t := 0) (lo := 0) (hi := 400) (nx := 67) (by decide +kernel) ?_
            intro v15 ev15 lv15 uv15
            refine zwW_p [(0, 1, 0)] (q := 68) (ls' := [(2, 9)]) (st' := [(0, 1), (0, v15), (2, 9)]) (by decide +kernel) rfl ?_
            refine zwW_add (nx := 69) (by decide +kernel) ⟨by omega, by omega⟩ ?_
            refine zwW_ps Ch14.1 (kd := 7) (bn := 2) (n := 9) (lo := 0) (hi := 400) (nx := 72) (by decide +kernel) ⟨by omega, by omega⟩ ?_
            intro h16 eh16 Ih16
            have Ch16 : CI h16 := Ch14.wc eh16 Ih16 (by decide) (by decide)
            have Qh16 : zXR [(9, 9, 2, 3)] 0 0 h14 h16 := zXR.wc eh16 rfl ⟨by decide, by decide, Or.inl (by decide)⟩ ⟨by decide, by decide⟩
            have Xh16 : zXR msx239_p (0) (0) h h16 := Xh14.tr (c2 := 0) (s2 := 0) Qh16 (by decide +kernel) (by decide) (by decide)
            have th16_9_0 : fld h16 9 0 = fld h14 9 0 := Qh16.f (a1 := 9) (a2 := 9) (j1 := 0) (j2 := 1) (by decide +kernel) ⟨by decide, by decide⟩ ⟨by decide, by decide⟩ ⟨by decide, by decide⟩
            have th16_9_3 : fld h16 9 3 = fld h14 9 3 := Qh16.f (a1 := 9) (a2 := 9) (j1 := 3) (j2 := 4) (by decide +kernel) ⟨by decide, by decide⟩ ⟨by decide, by decide⟩ ⟨by decide, by decide⟩
            have th16_9_4 : fld h16 9 4 = fld h14 9 4 := Qh16.f (a1 := 9) (a2 := 9) (j1 := 4) (j2 := 5) (by decide +kernel) ⟨by decide, by decide⟩ ⟨by decide, by decide⟩ ⟨by decide, by decide⟩
            have th16_9_5 : fld h16 9 5 = fld h14 9 5 := Qh16.f (a1 := 9) (a2 := 9) (j1 := 5) (j2 := 6) (by decide +kernel) ⟨by decide, by decide⟩ ⟨by decide, by decide⟩ ⟨by decide, by decide⟩
            have Bh16 : rB t n h16 := Bh14.fr Qh16 (by decide +kernel)
            have th16_9_2 : fld h16 9 2 = (v15 + 1) := by rw [eh16]; exact fld_wr_eq (Ch14.1.s (a1 := 9) (a2 := 9) (k := 7) (n := 9) (by decide +kernel) (by decide) (by decide)) (by decide)
            have PR : pRun pDig t n (fld h16 9 2).toNat = pRun pDig t n p := by rw [← iL3_2, show (fld h16 9 2).toNat = (fld hL3 9 2).toNat + 1 by omega]; exact (pRun_s (by omega) c8.2).symm
            have PN : fld h16 9 5 = pNu t ((fld h16 9 2).toNat - p) p 0 := by rw [show (fld h16 9 2).toNat - p = ((fld hL3 9 2).toNat - p) + 1 by omega, pNu_s, ← iL3_3, show p + ((fld hL3 9 2).toNat - p) = (fld hL3 9 2).toNat by omega]; omega
            refine zwW_p [(24, 10, 0)] (q := 10) (ls' := [(2, 9)]) (st' := []) (by decide +kernel) rfl ?_
            exact IHL3 ((400 - fld h16 9 2)).toNat (by omega) h16 rfl (Bh16) (by omega) (PR) (PN) Ch16 (Xh16.le (by decide) (by decide))
        · rw [ev7] at c8
          refine zwif_eq (q := 75) (nx := 32) (by decide +kernel) (fun c17 => ?_) (fun c17 => ?_)
          · have N75 : pRun pDig t n p = (fld hL3 9 2).toNat := by rw [← iL3_2]; exact pRun_e (fun z => by first | omega | exact c8 ⟨by omega, z.2⟩)
            refine zwW_retv (nx := 76) (a := 0) (b := 0) (by decide +kernel) ?_
            exact ⟨ChL3, XhL3.le (by decide) (by decide), by rw [N75]; omega, by omega, by rw [N75]; exact iL3_3⟩
          · exfalso; omega
  exact L3 _ h2 rfl (Bh2) (by omega) (by rw [show (fld h2 9 2).toNat = p by omega]) (by rw [show (fld h2 9 2).toNat - p = 0 by omega]; show fld h2 9 5 = 0; omega) Ch2 (Xh2.le (by decide) (by decide))
-- WheelLand$Reader.isWord(I)Z
theorem x264_p {sc : List Int} (h : Hp) (C : CI h) (a : Int) (t : pT) (n : Nat) (p : Nat) (q_a : -2147483648 ≤ a ∧ a ≤ 2147483647) (K : rTok t n h p) : zwC sc 1 264 [(2, 9), (0, a)] h (zwRt 0 (fun x g => h = g ∧ ((x = 1 ∧ (pK t n p = 1 ∧ pV t n p = a)) ∨ (x = 0 ∧ (¬ (pK t n p = 1 ∧ pV t n p = a)))))) := by
  refine zwC_of (D := 0) 2 (by decide +kernel) rfl (ls := [(2, 9), (0, a)]) rfl ?_
  have K4 := K.2.2.2.1
  refine zwW_p [(1, 0, 2)] (q := 1) (ls' := [(2, 9), (0, a)]) (st' := [(2, 9)]) (by decide +kernel) rfl ?_
  refine zwW_gs C.1 (kd := 7) (bn := 4) (n := 9) (t := 0) (lo := -2147483648) (hi := 2147483647) (nx := 4) (by decide +kernel) ?_
  intro v1 ev1 lv1 uv1
  refine zwW_p [(0, 1, 0)] (q := 5) (ls' := [(2, 9), (0, a)]) (st' := [(0, 1), (0, v1)]) (by decide +kernel) rfl ?_
  refine zwic_ne (q := 20) (nx := 8) (by decide +kernel) (fun c2 => ?_) (fun c2 => ?_)
  · refine zwW_p [(0, 0, 0)] (q := 21) (ls' := [(2, 9), (0, a)]) (st' := [(0, 0)]) (by decide +kernel) rfl ?_
    refine zwW_ret (nx := 22) (a := 1) (b := 0) (by decide +kernel) rfl (Or.inr (Or.inl ⟨rfl, by omega⟩)) ?_
    exact ⟨rfl, Or.inr ⟨rfl, by rintro ⟨z1, z2⟩; have z := K.2.2.2.2 (Or.inl z1); omega⟩⟩
  · refine zwW_p [(1, 0, 2)] (q := 9) (ls' := [(2, 9), (0, a)]) (st' := [(2, 9)]) (by decide +kernel) rfl ?_
    refine zwW_gs C.1 (kd := 7) (bn := 5) (n := 9) (t := 0) (lo := -2147483648) (hi := 2147483647) (nx := 12) (by decide +kernel) ?_
    intro v3 ev3 lv3 uv3
    refine zwW_p [(1, 1, 0)] (q := 13) (ls' := [(2, 9), (0, a)]) (st' := [(0, a), (0, v3)]) (by decide +kernel) rfl ?_
    refine zwic_ne (q := 20) (nx := 16) (by decide +kernel) (fun c4 => ?_) (fun c4 => ?_)
    · refine zwW_p [(0, 0, 0)] (q := 21) (ls' := [(2, 9), (0, a)]) (st' := [(0, 0)]) (by decide +kernel) rfl ?_
      refine zwW_ret (nx := 22) (a := 1) (b := 0) (by decide +kernel) rfl (Or.inr (Or.inl ⟨rfl, by omega⟩)) ?_
      exact ⟨rfl, Or.inr ⟨rfl, by rintro ⟨z1, z2⟩; have z := K.2.2.2.2 (Or.inl z1); omega⟩⟩
    · refine zwW_p [(0, 1, 0), (24, 21, 0)] (q := 21) (ls' := [(2, 9), (0, a)]) (st' := [(0, 1)]) (by decide +kernel) rfl ?_
      refine zwW_ret (nx := 22) (a := 1) (b := 0) (by decide +kernel) rfl (Or.inr (Or.inl ⟨rfl, by omega⟩)) ?_
      exact ⟨rfl, Or.inl ⟨rfl, by exact ⟨by omega, by have z := K.2.2.2.2 (Or.inl (by omega)); omega⟩⟩⟩
def msx243_q : Zms := [(9, 9, 6, 7), (11, 11, 0, 400)]
-- WheelLand$Reader.write(I)Z
theorem x243_q {sc : List Int} (h : Hp) (C : CI h) (a : Int) (t : pT) (n : Nat) (s : pQ) (q_a : -2147483648 ≤ a ∧ a ≤ 2147483647) (Q0 : rQ t n h s) (pw : fld h 9 6 < 400) : zwC sc 1 243 [(2, 9), (0, a)] h (zwRt 0 (fun x g => CI g ∧ zXR msx243_q (0) (0) h g ∧ x = 1 ∧ (rQ t n g (pW a s)))) := by
  refine zwC_of (D := 0) 2 (by decide +kernel) rfl (ls := [(2, 9), (0, a)]) rfl ?_
  have X : zXR msx243_q 0 0 h h := zXR.rf _ _
  refine zwW_p [(1, 0, 2)] (q := 1) (ls' := [(2, 9), (0, a)]) (st' := [(2, 9)]) (by decide +kernel) rfl ?_
  refine zwW_gs C.1 (kd := 7) (bn := 6) (n := 9) (t := 0) (lo := 0) (hi := 400) (nx := 4) (by decide +kernel) ?_
  intro v1 ev1 lv1 uv1
  refine zwW_p [(1, 0, 2)] (q := 5) (ls' := [(2, 9), (0, a)]) (st' := [(2, 9), (0, v1)]) (by decide +kernel) rfl ?_
  refine zwW_gc C.1 (kd := 7) (bn := 7) (n := 9) (c := 11) (nx := 8) (by decide +kernel) ?_
  refine zwW_len (kd := 20) (n := 400) (nx := 9) (by decide +kernel) (C.1.s (a1 := 11) (a2 := 11) (by decide +kernel) (by omega) (by omega)) rfl ?_
  refine zwic_lt (q := 14) (nx := 12) (by decide +kernel) (fun c2 => ?_) (fun c2 => ?_)
  · refine zwW_p [(1, 0, 2)] (q := 15) (ls' := [(2, 9), (0, a)]) (st' := [(2, 9)]) (by decide +kernel) rfl ?_
    refine zwW_gc C.1 (kd := 7) (bn := 7) (n := 9) (c := 11) (nx := 18) (by decide +kernel) ?_
    refine zwW_p [(1, 0, 2)] (q := 19) (ls' := [(2, 9), (0, a)]) (st' := [(2, 9), (2, 11)]) (by decide +kernel) rfl ?_
    refine zwW_gs C.1 (kd := 7) (bn := 6) (n := 9) (t := 0) (lo := 0) (hi := 400) (nx := 22) (by decide +kernel) ?_
    intro v3 ev3 lv3 uv3
    refine zwW_p [(1, 1, 0)] (q := 23) (ls' := [(2, 9), (0, a)]) (st' := [(0, a), (0, v3), (2, 11)]) (by decide +kernel) rfl ?_
    refine zwW_as C.1 (a1 := 11) (a2 := 11) (n := 400) (lo := -2147483648) (hi := 2147483647) (nx := 24) (by decide +kernel) ⟨by decide, by decide⟩ ⟨by omega, by omega⟩ ⟨by omega, by omega⟩ ?_
    intro h4 eh4 Ih4
    have Ch4 : CI h4 := C.wc eh4 Ih4 (by decide) (by decide)
    have Qh4 : zXR [(11, 11, 0, 400)] 0 0 h h4 := zXR.wc eh4 rfl ⟨by decide, by decide, Or.inl (by decide)⟩ ⟨by omega, by omega⟩
    have kh4_11 : fld h4 11 = (zu (fld h 11) v3.toNat a) := by rw [fld_zu (C.1.s (a1 := 11) (a2 := 11) (k := 20) (n := 400) (by decide +kernel) (by decide) (by decide)) (by omega) eh4]
    have Xh4 : zXR msx243_q (0) (0) h h4 := X.tr (c2 := 0) (s2 := 0) Qh4 (by decide +kernel) (by decide) (by decide)
    have th4_9_6 : fld h4 9 6 = fld h 9 6 := Qh4.f (a1 := 9) (a2 := 9) (j1 := 6) (j2 := 7) (by decide +kernel) ⟨by decide, by decide⟩ ⟨by decide, by decide⟩ ⟨by decide, by decide⟩
    refine zwW_p [(1, 0, 2), (12, 0, 0)] (q := 26) (ls' := [(2, 9), (0, a)]) (st' := [(2, 9), (2, 9)]) (by decide +kernel) rfl ?_
    refine zwW_gs Ch4.1 (kd := 7) (bn := 6) (n := 9) (t := 0) (lo := 0) (hi := 400) (nx := 29) (by decide +kernel) ?_
    intro v5 ev5 lv5 uv5
    refine zwW_p [(0, 1, 0)] (q := 30) (ls' := [(2, 9), (0, a)]) (st' := [(0, 1), (0, v5), (2, 9)]) (by decide +kernel) rfl ?_
    refine zwW_add (nx := 31) (by decide +kernel) ⟨by omega, by omega⟩ ?_
    refine zwW_ps Ch4.1 (kd := 7) (bn := 6) (n := 9) (lo := 0) (hi := 400) (nx := 34) (by decide +kernel) ⟨by omega, by omega⟩ ?_
    intro h6 eh6 Ih6
    have Ch6 : CI h6 := Ch4.wc eh6 Ih6 (by decide) (by decide)
    have Qh6 : zXR [(9, 9, 6, 7)] 0 0 h4 h6 := zXR.wc eh6 rfl ⟨by decide, by decide, Or.inl (by decide)⟩ ⟨by decide, by decide⟩
    have Xh6 : zXR msx243_q (0) (0) h h6 := Xh4.tr (c2 := 0) (s2 := 0) Qh6 (by decide +kernel) (by decide) (by decide)
    have kh6_11 : fld h6 11 = (zu (fld h 11) v3.toNat a) := (Qh6.fa (a := 11) (by decide +kernel) (by decide)).trans kh4_11
    have th6_9_6 : fld h6 9 6 = (v5 + 1) := by rw [eh6]; exact fld_wr_eq (Ch4.1.s (a1 := 9) (a2 := 9) (k := 7) (n := 9) (by decide +kernel) (by decide) (by decide)) (by decide)
    refine zwW_p [(0, 1, 0)] (q := 35) (ls' := [(2, 9), (0, a)]) (st' := [(0, 1)]) (by decide +kernel) rfl ?_
    refine zwW_ret (nx := 36) (a := 1) (b := 0) (by decide +kernel) rfl (Or.inr (Or.inl ⟨rfl, by omega⟩)) ?_
    exact ⟨Ch6, Xh6.le (by decide) (by decide), rfl, by first | exact Q0.wt Xh6 (by decide +kernel) kh6_11 (by omega) (by omega) | (exfalso; omega)⟩
  · exfalso; omega
