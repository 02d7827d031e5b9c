/-! contracts of the class -/
-- WheelLand.outside(III)Z
theorem x98 {sc : List Int} (h : Hp) (C : CI h) (a b c : Int) (q_a : -2147483648 ≤ a ∧ a ≤ 2147483647) (q_b : -2147483648 ≤ b ∧ b ≤ 2147483647) (q_c : -2147483648 ≤ c ∧ c ≤ 2147483647) : zwC sc 1 98 [(0, a), (0, b), (0, c)] h (zwRt 0 (fun x g => h = g ∧ ((x = 1 ∧ (a < b ∨ c < a)) ∨ (x = 0 ∧ (b ≤ a ∧ a ≤ c))))) := by
  refine zwC_of (D := 0) 3 (by decide +kernel) rfl (ls := [(0, a), (0, b), (0, c)]) rfl ?_
  refine zwW_p [(1, 0, 0), (1, 1, 0)] (q := 2) (ls' := [(0, a), (0, b), (0, c)]) (st' := [(0, b), (0, a)]) (by decide +kernel) rfl ?_
  refine zwic_lt (q := 10) (nx := 5) (by decide +kernel) (fun c1 => ?_) (fun c1 => ?_)
  · refine zwW_p [(0, 1, 0), (24, 15, 0)] (q := 15) (ls' := [(0, a), (0, b), (0, c)]) (st' := [(0, 1)]) (by decide +kernel) rfl ?_
    refine zwW_ret (nx := 16) (a := 1) (b := 0) (by decide +kernel) rfl (Or.inr (Or.inl ⟨rfl, by omega⟩)) ?_
    exact ⟨rfl, Or.inl ⟨rfl, by omega⟩⟩
  · refine zwW_p [(1, 0, 0), (1, 2, 0)] (q := 7) (ls' := [(0, a), (0, b), (0, c)]) (st' := [(0, c), (0, a)]) (by decide +kernel) rfl ?_
    refine zwic_le (q := 14) (nx := 10) (by decide +kernel) (fun c2 => ?_) (fun c2 => ?_)
    · refine zwW_p [(0, 0, 0)] (q := 15) (ls' := [(0, a), (0, b), (0, c)]) (st' := [(0, 0)]) (by decide +kernel) rfl ?_
      refine zwW_ret (nx := 16) (a := 1) (b := 0) (by decide +kernel) rfl (Or.inr (Or.inl ⟨rfl, by omega⟩)) ?_
      exact ⟨rfl, Or.inr ⟨rfl, by omega⟩⟩
    · refine zwW_p [(0, 1, 0), (24, 15, 0)] (q := 15) (ls' := [(0, a), (0, b), (0, c)]) (st' := [(0, 1)]) (by decide +kernel) rfl ?_
      refine zwW_ret (nx := 16) (a := 1) (b := 0) (by decide +kernel) rfl (Or.inr (Or.inl ⟨rfl, by omega⟩)) ?_
      exact ⟨rfl, Or.inl ⟨rfl, by omega⟩⟩
-- WheelLand$Village.idleCanBe(I)Z
theorem x97 {sc : List Int} (h : Hp) (C : CI h) (a : Int) (q_a : -2147483648 ≤ a ∧ a ≤ 2147483647) : zwC sc 1 97 [(0, a)] h (zwRt 0 (fun x g => h = g ∧ ((x = 1 ∧ (0 ≤ a ∧ a / 1000000 ≤ 40 ∧ a / 10000 % 100 ≤ 40 ∧ a / 100 % 100 ≤ 40 ∧ a % 100 ≤ 40)) ∨ (x = 0 ∧ (a < 0 ∨ 40 < a / 1000000 ∨ 40 < a / 10000 % 100 ∨ 40 < a / 100 % 100 ∨ 40 < a % 100))))) := by
  refine zwC_of (D := 0) 1 (by decide +kernel) rfl (ls := [(0, a)]) rfl ?_
  refine zwW_p [(1, 0, 0)] (q := 1) (ls' := [(0, a)]) (st' := [(0, a)]) (by decide +kernel) rfl ?_
  refine zwif_lt (q := 51) (nx := 4) (by decide +kernel) (fun c1 => ?_) (fun c1 => ?_)
  · refine zwW_p [(0, 0, 0)] (q := 52) (ls' := [(0, a)]) (st' := [(0, 0)]) (by decide +kernel) rfl ?_
    refine zwW_ret (nx := 53) (a := 1) (b := 0) (by decide +kernel) rfl (Or.inr (Or.inl ⟨rfl, by omega⟩)) ?_
    exact ⟨rfl, Or.inr ⟨rfl, by omega⟩⟩
  · refine zwW_p [(1, 0, 0), (0, 1000000, 0)] (q := 7) (ls' := [(0, a)]) (st' := [(0, 1000000), (0, a)]) (by decide +kernel) rfl ?_
    refine zwW_div (nx := 8) (by decide +kernel) (by omega) (by omega) (by omega) ?_
    refine zwW_p [(0, 40, 0)] (q := 10) (ls' := [(0, a)]) (st' := [(0, 40), (0, (a / 1000000))]) (by decide +kernel) rfl ?_
    refine zwic_gt (q := 51) (nx := 13) (by decide +kernel) (fun c2 => ?_) (fun c2 => ?_)
    · refine zwW_p [(0, 0, 0)] (q := 52) (ls' := [(0, a)]) (st' := [(0, 0)]) (by decide +kernel) rfl ?_
      refine zwW_ret (nx := 53) (a := 1) (b := 0) (by decide +kernel) rfl (Or.inr (Or.inl ⟨rfl, by omega⟩)) ?_
      exact ⟨rfl, Or.inr ⟨rfl, by omega⟩⟩
    · refine zwW_p [(1, 0, 0), (0, 10000, 0)] (q := 17) (ls' := [(0, a)]) (st' := [(0, 10000), (0, a)]) (by decide +kernel) rfl ?_
      refine zwW_div (nx := 18) (by decide +kernel) (by omega) (by omega) (by omega) ?_
      refine zwW_p [(0, 100, 0)] (q := 20) (ls' := [(0, a)]) (st' := [(0, 100), (0, (a / 10000))]) (by decide +kernel) rfl ?_
      refine zwW_rem (nx := 21) (by decide +kernel) (by omega) (by omega) ?_
      refine zwW_p [(0, 40, 0)] (q := 23) (ls' := [(0, a)]) (st' := [(0, 40), (0, ((a / 10000) % 100))]) (by decide +kernel) rfl ?_
      refine zwic_gt (q := 51) (nx := 26) (by decide +kernel) (fun c3 => ?_) (fun c3 => ?_)
      · refine zwW_p [(0, 0, 0)] (q := 52) (ls' := [(0, a)]) (st' := [(0, 0)]) (by decide +kernel) rfl ?_
        refine zwW_ret (nx := 53) (a := 1) (b := 0) (by decide +kernel) rfl (Or.inr (Or.inl ⟨rfl, by omega⟩)) ?_
        exact ⟨rfl, Or.inr ⟨rfl, by omega⟩⟩
      · refine zwW_p [(1, 0, 0), (0, 100, 0)] (q := 29) (ls' := [(0, a)]) (st' := [(0, 100), (0, a)]) (by decide +kernel) rfl ?_
        refine zwW_div (nx := 30) (by decide +kernel) (by omega) (by omega) (by omega) ?_
        refine zwW_p [(0, 100, 0)] (q := 32) (ls' := [(0, a)]) (st' := [(0, 100), (0, (a / 100))]) (by decide +kernel) rfl ?_
        refine zwW_rem (nx := 33) (by decide +kernel) (by omega) (by omega) ?_
        refine zwW_p [(0, 40, 0)] (q := 35) (ls' := [(0, a)]) (st' := [(0, 40), (0, ((a / 100) % 100))]) (by decide +kernel) rfl ?_
        refine zwic_gt (q := 51) (nx := 38) (by decide +kernel) (fun c4 => ?_) (fun c4 => ?_)
        · refine zwW_p [(0, 0, 0)] (q := 52) (ls' := [(0, a)]) (st' := [(0, 0)]) (by decide +kernel) rfl ?_
          refine zwW_ret (nx := 53) (a := 1) (b := 0) (by decide +kernel) rfl (Or.inr (Or.inl ⟨rfl, by omega⟩)) ?_
          exact ⟨rfl, Or.inr ⟨rfl, by omega⟩⟩
        · refine zwW_p [(1, 0, 0), (0, 100, 0)] (q := 41) (ls' := [(0, a)]) (st' := [(0, 100), (0, a)]) (by decide +kernel) rfl ?_
          refine zwW_rem (nx := 42) (by decide +kernel) (by omega) (by omega) ?_
          refine zwW_p [(0, 40, 0)] (q := 44) (ls' := [(0, a)]) (st' := [(0, 40), (0, (a % 100))]) (by decide +kernel) rfl ?_
          refine zwic_gt (q := 51) (nx := 47) (by decide +kernel) (fun c5 => ?_) (fun c5 => ?_)
          · refine zwW_p [(0, 0, 0)] (q := 52) (ls' := [(0, a)]) (st' := [(0, 0)]) (by decide +kernel) rfl ?_
            refine zwW_ret (nx := 53) (a := 1) (b := 0) (by decide +kernel) rfl (Or.inr (Or.inl ⟨rfl, by omega⟩)) ?_
            exact ⟨rfl, Or.inr ⟨rfl, by omega⟩⟩
          · refine zwW_p [(0, 1, 0), (24, 52, 0)] (q := 52) (ls' := [(0, a)]) (st' := [(0, 1)]) (by decide +kernel) rfl ?_
            refine zwW_ret (nx := 53) (a := 1) (b := 0) (by decide +kernel) rfl (Or.inr (Or.inl ⟨rfl, by omega⟩)) ?_
            exact ⟨rfl, Or.inl ⟨rfl, by omega⟩⟩
-- WheelLand$House.canBe(I)Z
theorem x107 {sc : List Int} (h : Hp) (C : CI h) (a : Int) (q_a : -2147483648 ≤ a ∧ a ≤ 2147483647) : zwC sc 1 107 [(0, a)] h (zwRt 0 (fun x g => h = g ∧ ((x = 1 ∧ (0 ≤ a ∧ a / 1000 ≤ 5 ∧ 1 ≤ a / 100 % 10 ∧ a / 10 % 10 ≤ 5 ∧ 1 ≤ a % 10)) ∨ (x = 0 ∧ (a < 0 ∨ 5 < a / 1000 ∨ a / 100 % 10 < 1 ∨ 5 < a / 10 % 10 ∨ a % 10 < 1))))) := by
  refine zwC_of (D := 0) 1 (by decide +kernel) rfl (ls := [(0, a)]) rfl ?_
  refine zwW_p [(1, 0, 0)] (q := 1) (ls' := [(0, a)]) (st' := [(0, a)]) (by decide +kernel) rfl ?_
  refine zwif_lt (q := 47) (nx := 4) (by decide +kernel) (fun c1 => ?_) (fun c1 => ?_)
  · refine zwW_p [(0, 0, 0)] (q := 48) (ls' := [(0, a)]) (st' := [(0, 0)]) (by decide +kernel) rfl ?_
    refine zwW_ret (nx := 49) (a := 1) (b := 0) (by decide +kernel) rfl (Or.inr (Or.inl ⟨rfl, by omega⟩)) ?_
    exact ⟨rfl, Or.inr ⟨rfl, by omega⟩⟩
  · refine zwW_p [(1, 0, 0), (0, 1000, 0)] (q := 8) (ls' := [(0, a)]) (st' := [(0, 1000), (0, a)]) (by decide +kernel) rfl ?_
    refine zwW_div (nx := 9) (by decide +kernel) (by omega) (by omega) (by omega) ?_
    refine zwW_p [(0, 5, 0)] (q := 10) (ls' := [(0, a)]) (st' := [(0, 5), (0, (a / 1000))]) (by decide +kernel) rfl ?_
    refine zwic_gt (q := 47) (nx := 13) (by decide +kernel) (fun c2 => ?_) (fun c2 => ?_)
    · refine zwW_p [(0, 0, 0)] (q := 48) (ls' := [(0, a)]) (st' := [(0, 0)]) (by decide +kernel) rfl ?_
      refine zwW_ret (nx := 49) (a := 1) (b := 0) (by decide +kernel) rfl (Or.inr (Or.inl ⟨rfl, by omega⟩)) ?_
      exact ⟨rfl, Or.inr ⟨rfl, by omega⟩⟩
    · refine zwW_p [(1, 0, 0), (0, 100, 0)] (q := 16) (ls' := [(0, a)]) (st' := [(0, 100), (0, a)]) (by decide +kernel) rfl ?_
      refine zwW_div (nx := 17) (by decide +kernel) (by omega) (by omega) (by omega) ?_
      refine zwW_p [(0, 10, 0)] (q := 19) (ls' := [(0, a)]) (st' := [(0, 10), (0, (a / 100))]) (by decide +kernel) rfl ?_
      refine zwW_rem (nx := 20) (by decide +kernel) (by omega) (by omega) ?_
      refine zwW_p [(0, 1, 0)] (q := 21) (ls' := [(0, a)]) (st' := [(0, 1), (0, ((a / 100) % 10))]) (by decide +kernel) rfl ?_
      refine zwic_lt (q := 47) (nx := 24) (by decide +kernel) (fun c3 => ?_) (fun c3 => ?_)
      · refine zwW_p [(0, 0, 0)] (q := 48) (ls' := [(0, a)]) (st' := [(0, 0)]) (by decide +kernel) rfl ?_
        refine zwW_ret (nx := 49) (a := 1) (b := 0) (by decide +kernel) rfl (Or.inr (Or.inl ⟨rfl, by omega⟩)) ?_
        exact ⟨rfl, Or.inr ⟨rfl, by omega⟩⟩
      · refine zwW_p [(1, 0, 0), (0, 10, 0)] (q := 27) (ls' := [(0, a)]) (st' := [(0, 10), (0, a)]) (by decide +kernel) rfl ?_
        refine zwW_div (nx := 28) (by decide +kernel) (by omega) (by omega) (by omega) ?_
        refine zwW_p [(0, 10, 0)] (q := 30) (ls' := [(0, a)]) (st' := [(0, 10), (0, (a / 10))]) (by decide +kernel) rfl ?_
        refine zwW_rem (nx := 31) (by decide +kernel) (by omega) (by omega) ?_
        refine zwW_p [(0, 5, 0)] (q := 32) (ls' := [(0, a)]) (st' := [(0, 5), (0, ((a / 10) % 10))]) (by decide +kernel) rfl ?_
        refine zwic_gt (q := 47) (nx := 35) (by decide +kernel) (fun c4 => ?_) (fun c4 => ?_)
        · refine zwW_p [(0, 0, 0)] (q := 48) (ls' := [(0, a)]) (st' := [(0, 0)]) (by decide +kernel) rfl ?_
          refine zwW_ret (nx := 49) (a := 1) (b := 0) (by decide +kernel) rfl (Or.inr (Or.inl ⟨rfl, by omega⟩)) ?_
          exact ⟨rfl, Or.inr ⟨rfl, by omega⟩⟩
        · refine zwW_p [(1, 0, 0), (0, 10, 0)] (q := 38) (ls' := [(0, a)]) (st' := [(0, 10), (0, a)]) (by decide +kernel) rfl ?_
          refine zwW_rem (nx := 39) (by decide +kernel) (by omega) (by omega) ?_
          refine zwW_p [(0, 1, 0)] (q := 40) (ls' := [(0, a)]) (st' := [(0, 1), (0, (a % 10))]) (by decide +kernel) rfl ?_
          refine zwic_lt (q := 47) (nx := 43) (by decide +kernel) (fun c5 => ?_) (fun c5 => ?_)
          · refine zwW_p [(0, 0, 0)] (q := 48) (ls' := [(0, a)]) (st' := [(0, 0)]) (by decide +kernel) rfl ?_
            refine zwW_ret (nx := 49) (a := 1) (b := 0) (by decide +kernel) rfl (Or.inr (Or.inl ⟨rfl, by omega⟩)) ?_
            exact ⟨rfl, Or.inr ⟨rfl, by omega⟩⟩
          · refine zwW_p [(0, 1, 0), (24, 48, 0)] (q := 48) (ls' := [(0, a)]) (st' := [(0, 1)]) (by decide +kernel) rfl ?_
            refine zwW_ret (nx := 49) (a := 1) (b := 0) (by decide +kernel) rfl (Or.inr (Or.inl ⟨rfl, by omega⟩)) ?_
            exact ⟨rfl, Or.inl ⟨rfl, by omega⟩⟩
-- WheelLand.canBeWoven(I)Z
theorem x130 {sc : List Int} (h : Hp) (C : CI h) (a : Int) (q_a : -2147483648 ≤ a ∧ a ≤ 2147483647) : zwC sc 2 130 [(0, a)] h (zwRt 0 (fun x g => h = g ∧ ((x = 1 ∧ (2 ≤ a ∧ a ≤ 100)) ∨ (x = 0 ∧ (0 ≤ 1))))) := by
  refine zwC_of (D := 1) 1 (by decide +kernel) rfl (ls := [(0, a)]) rfl ?_
  refine zwW_p [(1, 0, 0), (0, 2, 0)] (q := 2) (ls' := [(0, a)]) (st' := [(0, 2), (0, a)]) (by decide +kernel) rfl ?_
  refine zwW_tmw (nx := 3) (by decide +kernel) ⟨by omega, by omega⟩ (by omega) ?_
  intro v1 ev1 lv1 uv1
  refine zwif_ne (q := 20) (nx := 6) (by decide +kernel) (fun c2 => ?_) (fun c2 => ?_)
  · refine zwW_p [(0, 0, 0)] (q := 21) (ls' := [(0, a)]) (st' := [(0, 0)]) (by decide +kernel) rfl ?_
    refine zwW_ret (nx := 22) (a := 1) (b := 0) (by decide +kernel) rfl (Or.inr (Or.inl ⟨rfl, by omega⟩)) ?_
    exact ⟨rfl, Or.inr ⟨rfl, by omega⟩⟩
  · refine zwW_p [(1, 0, 0), (0, 2, 0), (0, 100, 0)] (q := 10) (ls' := [(0, a)]) (st' := [(0, 100), (0, 2), (0, a)]) (by decide +kernel) rfl ?_
    refine zwW_cs (k' := 98) (n := 3) (nx := 13) (as := [(0, a), (0, 2), (0, 100)]) (st' := []) (by decide +kernel) rfl (x98 h C a 2 100 (by omega) (by omega) (by omega)) rfl ?_
    rintro x _ ⟨rfl, ⟨rfl, c3⟩ | ⟨rfl, c3⟩⟩
    · refine zwif_ne (q := 20) (nx := 16) (by decide +kernel) (fun c4 => ?_) (fun c4 => ?_)
      · refine zwW_p [(0, 0, 0)] (q := 21) (ls' := [(0, a)]) (st' := [(0, 0)]) (by decide +kernel) rfl ?_
        refine zwW_ret (nx := 22) (a := 1) (b := 0) (by decide +kernel) rfl (Or.inr (Or.inl ⟨rfl, by omega⟩)) ?_
        exact ⟨rfl, Or.inr ⟨rfl, by omega⟩⟩
      · exfalso; omega
    · refine zwif_ne (q := 20) (nx := 16) (by decide +kernel) (fun c5 => ?_) (fun c5 => ?_)
      · exfalso; omega
      · refine zwW_p [(0, 1, 0), (24, 21, 0)] (q := 21) (ls' := [(0, a)]) (st' := [(0, 1)]) (by decide +kernel) rfl ?_
        refine zwW_ret (nx := 22) (a := 1) (b := 0) (by decide +kernel) rfl (Or.inr (Or.inl ⟨rfl, by omega⟩)) ?_
        exact ⟨rfl, Or.inl ⟨rfl, by omega⟩⟩
-- WheelLand.seasonOf(I)I
theorem x162 {sc : List Int} (h : Hp) (C : CI h) (a : Int) (q_a : -2147483648 ≤ a ∧ a ≤ 2147483647) (p1 : 0 ≤ a) : zwC sc 1 162 [(0, a)] h (zwRt 0 (fun x g => h = g ∧ (-2147483648 ≤ x ∧ x ≤ 2147483647) ∧ (x = a / 13 % 4) ∧ (0 ≤ x ∧ x ≤ 3))) := by
  refine zwC_of (D := 0) 1 (by decide +kernel) rfl (ls := [(0, a)]) rfl ?_
  refine zwW_p [(1, 0, 0), (0, 13, 0)] (q := 3) (ls' := [(0, a)]) (st' := [(0, 13), (0, a)]) (by decide +kernel) rfl ?_
  refine zwW_div (nx := 4) (by decide +kernel) (by omega) (by omega) (by omega) ?_
  refine zwW_p [(0, 4, 0)] (q := 5) (ls' := [(0, a)]) (st' := [(0, 4), (0, (a / 13))]) (by decide +kernel) rfl ?_
  refine zwW_rem (nx := 6) (by decide +kernel) (by omega) (by omega) ?_
  refine zwW_ret (nx := 7) (a := 0) (b := 0) (by decide +kernel) rfl (Or.inl rfl) ?_
  exact ⟨rfl, by omega, by omega, by omega⟩
-- WheelLand.cut(II)I
theorem x173 {sc : List Int} (h : Hp) (C : CI h) (a b : Int) (q_a : -2147483648 ≤ a ∧ a ≤ 2147483647) (q_b : -2147483648 ≤ b ∧ b ≤ 2147483647) : zwC sc 1 173 [(0, a), (0, b)] h (zwRt 0 (fun x g => h = g ∧ (-2147483648 ≤ x ∧ x ≤ 2147483647))) := by
  refine zwC_of (D := 0) 2 (by decide +kernel) rfl (ls := [(0, a), (0, b)]) rfl ?_
  refine zwW_p [(1, 1, 0)] (q := 1) (ls' := [(0, a), (0, b)]) (st' := [(0, b)]) (by decide +kernel) rfl ?_
  refine zwif_ne (q := 8) (nx := 4) (by decide +kernel) (fun c1 => ?_) (fun c1 => ?_)
  · refine zwW_p [(1, 0, 0), (1, 1, 0)] (q := 10) (ls' := [(0, a), (0, b)]) (st' := [(0, b), (0, a)]) (by decide +kernel) rfl ?_
    refine zwW_any2 (a := 3) (nx := 11) (by decide +kernel) rfl ⟨by omega, by omega⟩ (Or.inl (by omega)) ?_
    intro v2 lv2 uv2
    refine zwW_ret (nx := 12) (a := 0) (b := 0) (by decide +kernel) rfl (Or.inl rfl) ?_
    exact ⟨rfl, by omega⟩
  · refine zwW_p [(0, 0, 0), (24, 11, 0)] (q := 11) (ls' := [(0, a), (0, b)]) (st' := [(0, 0)]) (by decide +kernel) rfl ?_
    refine zwW_ret (nx := 12) (a := 0) (b := 0) (by decide +kernel) rfl (Or.inl rfl) ?_
    exact ⟨rfl, by omega⟩
-- WheelLand.cutUp(II)I
theorem x151 {sc : List Int} (h : Hp) (C : CI h) (a b : Int) (q_a : -2147483648 ≤ a ∧ a ≤ 2147483647) (q_b : -2147483648 ≤ b ∧ b ≤ 2147483647) : zwC sc 1 151 [(0, a), (0, b)] h (zwRt 0 (fun x g => h = g ∧ (-2147483648 ≤ x ∧ x ≤ 2147483647))) := by
  refine zwC_of (D := 0) 2 (by decide +kernel) rfl (ls := [(0, a), (0, b)]) rfl ?_
  refine zwW_p [(1, 1, 0)] (q := 1) (ls' := [(0, a), (0, b)]) (st' := [(0, b)]) (by decide +kernel) rfl ?_
  refine zwif_ne (q := 8) (nx := 4) (by decide +kernel) (fun c1 => ?_) (fun c1 => ?_)
  · refine zwW_p [(1, 0, 0), (1, 1, 0)] (q := 10) (ls' := [(0, a), (0, b)]) (st' := [(0, b), (0, a)]) (by decide +kernel) rfl ?_
    refine zwW_adw (nx := 11) (by decide +kernel) ?_
    intro v2 ev2 lv2 uv2
    refine zwW_p [(0, 1, 0)] (q := 12) (ls' := [(0, a), (0, b)]) (st' := [(0, 1), (0, v2)]) (by decide +kernel) rfl ?_
    refine zwW_sbw (nx := 13) (by decide +kernel) ?_
    intro v3 ev3 lv3 uv3
    have Ev3 : v3 = w32 ((w32 (a + b)) - 1) := by rw [ev3, ev2]
    refine zwW_p [(1, 1, 0)] (q := 14) (ls' := [(0, a), (0, b)]) (st' := [(0, b), (0, v3)]) (by decide +kernel) rfl ?_
    refine zwW_any2 (a := 3) (nx := 15) (by decide +kernel) rfl ⟨by omega, by omega⟩ (Or.inl (by omega)) ?_
    intro v4 lv4 uv4
    refine zwW_ret (nx := 16) (a := 0) (b := 0) (by decide +kernel) rfl (Or.inl rfl) ?_
    exact ⟨rfl, by omega⟩
  · refine zwW_p [(0, 0, 0), (24, 15, 0)] (q := 15) (ls' := [(0, a), (0, b)]) (st' := [(0, 0)]) (by decide +kernel) rfl ?_
    refine zwW_ret (nx := 16) (a := 0) (b := 0) (by decide +kernel) rfl (Or.inl rfl) ?_
    exact ⟨rfl, by omega⟩
-- WheelLand.hanksOf(IIII)I
theorem x223 {sc : List Int} (h : Hp) (C : CI h) (a b c d : Int) (q_a : -2147483648 ≤ a ∧ a ≤ 2147483647) (q_b : -2147483648 ≤ b ∧ b ≤ 2147483647) (q_c : -2147483648 ≤ c ∧ c ≤ 2147483647) (q_d : -2147483648 ≤ d ∧ d ≤ 2147483647) : zwC sc 2 223 [(0, a), (0, b), (0, c), (0, d)] h (zwRt 0 (fun x g => h = g ∧ (-2147483648 ≤ x ∧ x ≤ 2147483647))) := by
  refine zwC_of (D := 1) 4 (by decide +kernel) rfl (ls := [(0, a), (0, b), (0, c), (0, d)]) rfl ?_
  refine zwW_p [(1, 0, 0), (0, 10, 0), (1, 1, 0)] (q := 4) (ls' := [(0, a), (0, b), (0, c), (0, d)]) (st' := [(0, b), (0, 10), (0, a)]) (by decide +kernel) rfl ?_
  refine zwW_adw (nx := 5) (by decide +kernel) ?_
  intro v1 ev1 lv1 uv1
  refine zwW_mlw (nx := 6) (by decide +kernel) ?_
  intro v2 ev2 lv2 uv2
  have Ev2 : v2 = w32 (a * (w32 (10 + b))) := by rw [ev2, ev1]
  refine zwW_p [(1, 2, 0), (0, 20, 0)] (q := 9) (ls' := [(0, a), (0, b), (0, c), (0, d)]) (st' := [(0, 20), (0, c), (0, v2)]) (by decide +kernel) rfl ?_
  refine zwW_adw (nx := 10) (by decide +kernel) ?_
  intro v3 ev3 lv3 uv3
  refine zwW_cs (k' := 173) (n := 2) (nx := 13) (as := [(0, v2), (0, v3)]) (st' := []) (by decide +kernel) rfl (x173 h C v2 v3 (by omega) (by omega)) rfl ?_
  rintro v4 _ ⟨rfl, f5⟩
  refine zwW_p [(1, 3, 0), (1, 2, 0)] (q := 15) (ls' := [(0, a), (0, b), (0, c), (0, d)]) (st' := [(0, c), (0, d), (0, v4)]) (by decide +kernel) rfl ?_
  refine zwW_mlw (nx := 16) (by decide +kernel) ?_
  intro v6 ev6 lv6 uv6
  refine zwW_min (nx := 19) (by decide +kernel) rfl ?_
  intro v7 ev7
  refine zwW_ret (nx := 20) (a := 0) (b := 0) (by decide +kernel) rfl (Or.inl rfl) ?_
  exact ⟨rfl, by omega⟩
-- WheelLand$Village.hasRoomFor(IZ)Z
theorem x149 {sc : List Int} (h : Hp) (C : CI h) (r a b : Int) (G_r : gV h r) (q_a : -2147483648 ≤ a ∧ a ≤ 2147483647) : zwC sc 1 149 [(2, r), (0, a), (0, b)] h (zwRt 0 (fun x g => h = g ∧ ((x = 1 ∧ (0 ≤ 1)) ∨ (x = 0 ∧ (0 ≤ 1))))) := by
  refine zwC_of (D := 0) 3 (by decide +kernel) rfl (ls := [(2, r), (0, a), (0, b)]) rfl ?_
  have lw_r := G_r.1
  refine zwW_p [(1, 2, 0)] (q := 1) (ls' := [(2, r), (0, a), (0, b)]) (st' := [(0, b)]) (by decide +kernel) rfl ?_
  refine zwif_eq (q := 11) (nx := 4) (by decide +kernel) (fun c1 => ?_) (fun c1 => ?_)
  · refine zwW_p [(1, 0, 2)] (q := 12) (ls' := [(2, r), (0, a), (0, b)]) (st' := [(2, r)]) (by decide +kernel) rfl ?_
    refine zwX_gi C (kd := 11) (bn := 6) (n := 17) (nx := 15) (by decide +kernel) G_r.2.1 G_r.1 rfl ?_
    intro v2 ev2 lv2 uv2
    refine zwW_p [(1, 1, 0)] (q := 16) (ls' := [(2, r), (0, a), (0, b)]) (st' := [(0, a), (0, v2)]) (by decide +kernel) rfl ?_
    refine zwW_adw (nx := 17) (by decide +kernel) ?_
    intro v3 ev3 lv3 uv3
    have Ev3 : v3 = w32 ((fld h r 6) + a) := by rw [ev3, ev2]
    refine zwW_p [(0, 9999, 0)] (q := 20) (ls' := [(2, r), (0, a), (0, b)]) (st' := [(0, 9999), (0, v3)]) (by decide +kernel) rfl ?_
    refine zwic_gt (q := 27) (nx := 23) (by decide +kernel) (fun c4 => ?_) (fun c4 => ?_)
    · refine zwW_p [(0, 0, 0)] (q := 28) (ls' := [(2, r), (0, a), (0, b)]) (st' := [(0, 0)]) (by decide +kernel) rfl ?_
      refine zwW_ret (nx := 29) (a := 1) (b := 0) (by decide +kernel) rfl (Or.inr (Or.inl ⟨rfl, by omega⟩)) ?_
      exact ⟨rfl, Or.inr ⟨rfl, by omega⟩⟩
    · refine zwW_p [(0, 1, 0), (24, 28, 0)] (q := 28) (ls' := [(2, r), (0, a), (0, b)]) (st' := [(0, 1)]) (by decide +kernel) rfl ?_
      refine zwW_ret (nx := 29) (a := 1) (b := 0) (by decide +kernel) rfl (Or.inr (Or.inl ⟨rfl, by omega⟩)) ?_
      exact ⟨rfl, Or.inl ⟨rfl, by omega⟩⟩
  · refine zwW_p [(1, 0, 2)] (q := 5) (ls' := [(2, r), (0, a), (0, b)]) (st' := [(2, r)]) (by decide +kernel) rfl ?_
    refine zwX_gi C (kd := 11) (bn := 5) (n := 17) (nx := 8) (by decide +kernel) G_r.2.1 G_r.1 rfl ?_
    intro v5 ev5 lv5 uv5
    refine zwW_p [(24, 15, 0), (1, 1, 0)] (q := 16) (ls' := [(2, r), (0, a), (0, b)]) (st' := [(0, a), (0, v5)]) (by decide +kernel) rfl ?_
    refine zwW_adw (nx := 17) (by decide +kernel) ?_
    intro v6 ev6 lv6 uv6
    have Ev6 : v6 = w32 ((fld h r 5) + a) := by rw [ev6, ev5]
    refine zwW_p [(0, 9999, 0)] (q := 20) (ls' := [(2, r), (0, a), (0, b)]) (st' := [(0, 9999), (0, v6)]) (by decide +kernel) rfl ?_
    refine zwic_gt (q := 27) (nx := 23) (by decide +kernel) (fun c7 => ?_) (fun c7 => ?_)
    · refine zwW_p [(0, 0, 0)] (q := 28) (ls' := [(2, r), (0, a), (0, b)]) (st' := [(0, 0)]) (by decide +kernel) rfl ?_
      refine zwW_ret (nx := 29) (a := 1) (b := 0) (by decide +kernel) rfl (Or.inr (Or.inl ⟨rfl, by omega⟩)) ?_
      exact ⟨rfl, Or.inr ⟨rfl, by omega⟩⟩
    · refine zwW_p [(0, 1, 0), (24, 28, 0)] (q := 28) (ls' := [(2, r), (0, a), (0, b)]) (st' := [(0, 1)]) (by decide +kernel) rfl ?_
      refine zwW_ret (nx := 29) (a := 1) (b := 0) (by decide +kernel) rfl (Or.inr (Or.inl ⟨rfl, by omega⟩)) ?_
      exact ⟨rfl, Or.inl ⟨rfl, by omega⟩⟩
def msx150 : Zms := [(1011, 1011, 5, 6), (1011, 1011, 6, 7), (1011, 1011, 12, 13)]
-- WheelLand$Village.putHand(IZ)V
theorem x150 {sc : List Int} (h : Hp) (C : CI h) (r a b : Int) (G_r : gV h r) (q_a : -2147483648 ≤ a ∧ a ≤ 2147483647) : zwC sc 1 150 [(2, r), (0, a), (0, b)] h (zwRv (fun g => CI g ∧ zXR msx150 (0) (0) h g)) := by
  refine zwC_of (D := 0) 3 (by decide +kernel) rfl (ls := [(2, r), (0, a), (0, b)]) rfl ?_
  have lw_r := G_r.1
  have X : zXR msx150 0 0 h h := zXR.rf _ _
  refine zwW_p [(1, 2, 0)] (q := 1) (ls' := [(2, r), (0, a), (0, b)]) (st' := [(0, b)]) (by decide +kernel) rfl ?_
  refine zwif_eq (q := 27) (nx := 4) (by decide +kernel) (fun c1 => ?_) (fun c1 => ?_)
  · refine zwW_p [(1, 0, 2), (12, 0, 0)] (q := 29) (ls' := [(2, r), (0, a), (0, b)]) (st' := [(2, r), (2, r)]) (by decide +kernel) rfl ?_
    refine zwX_gi C (kd := 11) (bn := 6) (n := 17) (nx := 32) (by decide +kernel) G_r.2.1 G_r.1 rfl ?_
    intro v2 ev2 lv2 uv2
    refine zwW_p [(1, 1, 0)] (q := 33) (ls' := [(2, r), (0, a), (0, b)]) (st' := [(0, a), (0, v2), (2, r)]) (by decide +kernel) rfl ?_
    refine zwW_adw (nx := 34) (by decide +kernel) ?_
    intro v3 ev3 lv3 uv3
    have Ev3 : v3 = w32 ((fld h r 6) + a) := by rw [ev3, ev2]
    refine zwX_pi C (kd := 11) (bn := 6) (n := 17) (nx := 37) (by decide +kernel) G_r.2.1 G_r.1 ⟨by omega, by omega⟩ ?_
    rintro h4 eh4 Ch4 Qh4
    have Xh4 : zXR msx150 (0) (0) h h4 := X.tr (c2 := 0) (s2 := 0) Qh4 (by decide +kernel) (by decide) (by decide)
    have Gh4_0 : gV h4 r := G_r.x Qh4
    refine zwW_retv (nx := 38) (a := 0) (b := 0) (by decide +kernel) ?_
    exact ⟨Ch4, Xh4.le (by decide) (by decide)⟩
  · refine zwW_p [(1, 0, 2), (12, 0, 0)] (q := 6) (ls' := [(2, r), (0, a), (0, b)]) (st' := [(2, r), (2, r)]) (by decide +kernel) rfl ?_
    refine zwX_gi C (kd := 11) (bn := 5) (n := 17) (nx := 9) (by decide +kernel) G_r.2.1 G_r.1 rfl ?_
    intro v5 ev5 lv5 uv5
    refine zwW_p [(1, 1, 0)] (q := 10) (ls' := [(2, r), (0, a), (0, b)]) (st' := [(0, a), (0, v5), (2, r)]) (by decide +kernel) rfl ?_
    refine zwW_adw (nx := 11) (by decide +kernel) ?_
    intro v6 ev6 lv6 uv6
    have Ev6 : v6 = w32 ((fld h r 5) + a) := by rw [ev6, ev5]
    refine zwX_pi C (kd := 11) (bn := 5) (n := 17) (nx := 14) (by decide +kernel) G_r.2.1 G_r.1 ⟨by omega, by omega⟩ ?_
    rintro h7 eh7 Ch7 Qh7
    have Xh7 : zXR msx150 (0) (0) h h7 := X.tr (c2 := 0) (s2 := 0) Qh7 (by decide +kernel) (by decide) (by decide)
    have Gh7_0 : gV h7 r := G_r.x Qh7
    refine zwW_p [(1, 0, 2), (12, 0, 0)] (q := 16) (ls' := [(2, r), (0, a), (0, b)]) (st' := [(2, r), (2, r)]) (by decide +kernel) rfl ?_
    refine zwX_gi Ch7 (kd := 11) (bn := 12) (n := 17) (nx := 19) (by decide +kernel) Gh7_0.2.1 Gh7_0.1 rfl ?_
    intro v8 ev8 lv8 uv8
    refine zwW_p [(1, 1, 0)] (q := 20) (ls' := [(2, r), (0, a), (0, b)]) (st' := [(0, a), (0, v8), (2, r)]) (by decide +kernel) rfl ?_
    refine zwW_adw (nx := 21) (by decide +kernel) ?_
    intro v9 ev9 lv9 uv9
    have Ev9 : v9 = w32 ((fld h7 r 12) + a) := by rw [ev9, ev8]
    refine zwX_pi Ch7 (kd := 11) (bn := 12) (n := 17) (nx := 24) (by decide +kernel) Gh7_0.2.1 Gh7_0.1 ⟨by omega, by omega⟩ ?_
    rintro h10 eh10 Ch10 Qh10
    have Xh10 : zXR msx150 (0) (0) h h10 := Xh7.tr (c2 := 0) (s2 := 0) Qh10 (by decide +kernel) (by decide) (by decide)
    have Gh10_0 : gV h10 r := Gh7_0.x Qh10
    refine zwW_p [(24, 37, 0)] (q := 37) (ls' := [(2, r), (0, a), (0, b)]) (st' := []) (by decide +kernel) rfl ?_
    refine zwW_retv (nx := 38) (a := 0) (b := 0) (by decide +kernel) ?_
    exact ⟨Ch10, Xh10.le (by decide) (by decide)⟩
-- WheelLand$Village.millPriceAsBegan(I)I
theorem x152 {sc : List Int} (h : Hp) (C : CI h) (r a : Int) (G_r : gV h r) (q_a : -2147483648 ≤ a ∧ a ≤ 2147483647) : zwC sc 1 152 [(2, r), (0, a)] h (zwRt 0 (fun x g => h = g ∧ (-2147483648 ≤ x ∧ x ≤ 2147483647))) := by
  refine zwC_of (D := 0) 2 (by decide +kernel) rfl (ls := [(2, r), (0, a)]) rfl ?_
  have lw_r := G_r.1
  refine zwW_p [(1, 1, 0)] (q := 1) (ls' := [(2, r), (0, a)]) (st' := [(0, a)]) (by decide +kernel) rfl ?_
  refine zwif_lt (q := 22) (nx := 4) (by decide +kernel) (fun c1 => ?_) (fun c1 => ?_)
  · refine zwW_p [(0, 10, 0)] (q := 24) (ls' := [(2, r), (0, a)]) (st' := [(0, 10)]) (by decide +kernel) rfl ?_
    refine zwW_ret (nx := 25) (a := 0) (b := 0) (by decide +kernel) rfl (Or.inl rfl) ?_
    exact ⟨rfl, by omega⟩
  · refine zwW_p [(1, 1, 0), (1, 0, 2)] (q := 6) (ls' := [(2, r), (0, a)]) (st' := [(2, r), (0, a)]) (by decide +kernel) rfl ?_
    refine zwW_get (kd := 11) (bn := 16) (t := 2) (n := 17) (nx := 9) (by decide +kernel) G_r.2.1 rfl ?_
    obtain ⟨v2, ev2⟩ : ∃ z, z = fld h r 16 := ⟨_, rfl⟩
    rw [← ev2]
    have Gv2 : gA 157 h v2 := by rw [ev2]; exact G_r.2.2
    have lv2 := Gv2.1
    refine zwW_len (n := 157) (nx := 10) (by decide +kernel) Gv2.2 rfl ?_
    refine zwic_ge (q := 22) (nx := 13) (by decide +kernel) (fun c3 => ?_) (fun c3 => ?_)
    · refine zwW_p [(0, 10, 0)] (q := 24) (ls' := [(2, r), (0, a)]) (st' := [(0, 10)]) (by decide +kernel) rfl ?_
      refine zwW_ret (nx := 25) (a := 0) (b := 0) (by decide +kernel) rfl (Or.inl rfl) ?_
      exact ⟨rfl, by omega⟩
    · refine zwW_p [(1, 0, 2)] (q := 14) (ls' := [(2, r), (0, a)]) (st' := [(2, r)]) (by decide +kernel) rfl ?_
      refine zwW_get (kd := 11) (bn := 16) (t := 2) (n := 17) (nx := 17) (by decide +kernel) G_r.2.1 rfl ?_
      rw [← ev2]
      refine zwW_p [(1, 1, 0)] (q := 18) (ls' := [(2, r), (0, a)]) (st' := [(0, a), (2, v2)]) (by decide +kernel) rfl ?_
      refine zwX_ai C (n := 157) (nx := 19) (by decide +kernel) Gv2.2 Gv2.1 ⟨by omega, by omega⟩ ?_
      intro v5 ev5 lv5 uv5
      refine zwW_p [(24, 24, 0)] (q := 24) (ls' := [(2, r), (0, a)]) (st' := [(0, v5)]) (by decide +kernel) rfl ?_
      refine zwW_ret (nx := 25) (a := 0) (b := 0) (by decide +kernel) rfl (Or.inl rfl) ?_
      exact ⟨rfl, by omega⟩
-- WheelLand$Village.choiceOf(II)I
theorem x154 {sc : List Int} (h : Hp) (C : CI h) (r a b : Int) (G_r : gV h r) (q_a : -2147483648 ≤ a ∧ a ≤ 2147483647) (q_b : -2147483648 ≤ b ∧ b ≤ 2147483647) : zwC sc 1 154 [(2, r), (0, a), (0, b)] h (zwRt 0 (fun x g => h = g ∧ (-2147483648 ≤ x ∧ x ≤ 2147483647))) := by
  refine zwC_of (D := 0) 5 (by decide +kernel) rfl (ls := [(2, r), (0, a), (0, b), (9, 0), (9, 0)]) rfl ?_
  have lw_r := G_r.1
  refine zwW_p [(1, 0, 2)] (q := 1) (ls' := [(2, r), (0, a), (0, b), (9, 0), (9, 0)]) (st' := [(2, r)]) (by decide +kernel) rfl ?_
  refine zwX_gi C (kd := 11) (bn := 5) (n := 17) (nx := 4) (by decide +kernel) G_r.2.1 G_r.1 rfl ?_
  intro v1 ev1 lv1 uv1
  refine zwW_p [(1, 0, 2)] (q := 5) (ls' := [(2, r), (0, a), (0, b), (9, 0), (9, 0)]) (st' := [(2, r), (0, v1)]) (by decide +kernel) rfl ?_
  refine zwX_gi C (kd := 11) (bn := 6) (n := 17) (nx := 8) (by decide +kernel) G_r.2.1 G_r.1 rfl ?_
  intro v2 ev2 lv2 uv2
  refine zwW_adw (nx := 9) (by decide +kernel) ?_
  intro v3 ev3 lv3 uv3
  have Ev3 : v3 = w32 ((fld h r 5) + (fld h r 6)) := by rw [ev3, ev1, ev2]
  refine zwif_le (q := 24) (nx := 12) (by decide +kernel) (fun c4 => ?_) (fun c4 => ?_)
  · refine zwW_p [(0, 0, 0), (2, 3, 0), (1, 0, 2)] (q := 27) (ls' := [(2, r), (0, a), (0, b), (0, 0), (9, 0)]) (st' := [(2, r)]) (by decide +kernel) rfl ?_
    refine zwX_gi C (kd := 11) (bn := 7) (n := 17) (nx := 30) (by decide +kernel) G_r.2.1 G_r.1 rfl ?_
    intro v5 ev5 lv5 uv5
    refine zwif_le (q := 47) (nx := 33) (by decide +kernel) (fun c6 => ?_) (fun c6 => ?_)
    · refine zwW_p [(0, 0, 0), (2, 4, 0), (1, 3, 0)] (q := 51) (ls' := [(2, r), (0, a), (0, b), (0, 0), (0, 0)]) (st' := [(0, 0)]) (by decide +kernel) rfl ?_
      refine zwif_eq (q := 83) (nx := 54) (by decide +kernel) (fun c7 => ?_) (fun c7 => ?_)
      · refine zwW_p [(1, 3, 0)] (q := 84) (ls' := [(2, r), (0, a), (0, b), (0, 0), (0, 0)]) (st' := [(0, 0)]) (by decide +kernel) rfl ?_
        refine zwif_eq (q := 89) (nx := 87) (by decide +kernel) (fun c8 => ?_) (fun c8 => ?_)
        · refine zwW_p [(1, 4, 0)] (q := 91) (ls' := [(2, r), (0, a), (0, b), (0, 0), (0, 0)]) (st' := [(0, 0)]) (by decide +kernel) rfl ?_
          refine zwif_eq (q := 98) (nx := 94) (by decide +kernel) (fun c9 => ?_) (fun c9 => ?_)
          · refine zwW_p [(0, -1, 0)] (q := 99) (ls' := [(2, r), (0, a), (0, b), (0, 0), (0, 0)]) (st' := [(0, -1)]) (by decide +kernel) rfl ?_
            refine zwW_ret (nx := 100) (a := 0) (b := 0) (by decide +kernel) rfl (Or.inl rfl) ?_
            exact ⟨rfl, by omega⟩
          · exfalso; omega
        · exfalso; omega
      · exfalso; omega
    · refine zwW_p [(1, 1, 0), (1, 0, 2)] (q := 35) (ls' := [(2, r), (0, a), (0, b), (0, 0), (9, 0)]) (st' := [(2, r), (0, a)]) (by decide +kernel) rfl ?_
      refine zwX_gi C (kd := 11) (bn := 9) (n := 17) (nx := 38) (by decide +kernel) G_r.2.1 G_r.1 rfl ?_
      intro v10 ev10 lv10 uv10
      refine zwW_p [(1, 2, 0)] (q := 39) (ls' := [(2, r), (0, a), (0, b), (0, 0), (9, 0)]) (st' := [(0, b), (0, v10), (0, a)]) (by decide +kernel) rfl ?_
      refine zwW_adw (nx := 40) (by decide +kernel) ?_
      intro v11 ev11 lv11 uv11
      have Ev11 : v11 = w32 ((fld h r 9) + b) := by rw [ev11, ev10]
      refine zwic_lt (q := 47) (nx := 43) (by decide +kernel) (fun c12 => ?_) (fun c12 => ?_)
      · refine zwW_p [(0, 0, 0), (2, 4, 0), (1, 3, 0)] (q := 51) (ls' := [(2, r), (0, a), (0, b), (0, 0), (0, 0)]) (st' := [(0, 0)]) (by decide +kernel) rfl ?_
        refine zwif_eq (q := 83) (nx := 54) (by decide +kernel) (fun c13 => ?_) (fun c13 => ?_)
        · refine zwW_p [(1, 3, 0)] (q := 84) (ls' := [(2, r), (0, a), (0, b), (0, 0), (0, 0)]) (st' := [(0, 0)]) (by decide +kernel) rfl ?_
          refine zwif_eq (q := 89) (nx := 87) (by decide +kernel) (fun c14 => ?_) (fun c14 => ?_)
          · refine zwW_p [(1, 4, 0)] (q := 91) (ls' := [(2, r), (0, a), (0, b), (0, 0), (0, 0)]) (st' := [(0, 0)]) (by decide +kernel) rfl ?_
            refine zwif_eq (q := 98) (nx := 94) (by decide +kernel) (fun c15 => ?_) (fun c15 => ?_)
            · refine zwW_p [(0, -1, 0)] (q := 99) (ls' := [(2, r), (0, a), (0, b), (0, 0), (0, 0)]) (st' := [(0, -1)]) (by decide +kernel) rfl ?_
              refine zwW_ret (nx := 100) (a := 0) (b := 0) (by decide +kernel) rfl (Or.inl rfl) ?_
              exact ⟨rfl, by omega⟩
            · exfalso; omega
          · exfalso; omega
        · exfalso; omega
      · refine zwW_p [(0, 1, 0), (24, 48, 0), (2, 4, 0), (1, 3, 0)] (q := 51) (ls' := [(2, r), (0, a), (0, b), (0, 0), (0, 1)]) (st' := [(0, 0)]) (by decide +kernel) rfl ?_
        refine zwif_eq (q := 83) (nx := 54) (by decide +kernel) (fun c16 => ?_) (fun c16 => ?_)
        · refine zwW_p [(1, 3, 0)] (q := 84) (ls' := [(2, r), (0, a), (0, b), (0, 0), (0, 1)]) (st' := [(0, 0)]) (by decide +kernel) rfl ?_
          refine zwif_eq (q := 89) (nx := 87) (by decide +kernel) (fun c17 => ?_) (fun c17 => ?_)
          · refine zwW_p [(1, 4, 0)] (q := 91) (ls' := [(2, r), (0, a), (0, b), (0, 0), (0, 1)]) (st' := [(0, 1)]) (by decide +kernel) rfl ?_
            refine zwif_eq (q := 98) (nx := 94) (by decide +kernel) (fun c18 => ?_) (fun c18 => ?_)
            · exfalso; omega
            · refine zwW_p [(0, 1, 0), (24, 99, 0)] (q := 99) (ls' := [(2, r), (0, a), (0, b), (0, 0), (0, 1)]) (st' := [(0, 1)]) (by decide +kernel) rfl ?_
              refine zwW_ret (nx := 100) (a := 0) (b := 0) (by decide +kernel) rfl (Or.inl rfl) ?_
              exact ⟨rfl, by omega⟩
          · exfalso; omega
        · exfalso; omega
  · refine zwW_p [(1, 1, 0), (1, 0, 2)] (q := 14) (ls' := [(2, r), (0, a), (0, b), (9, 0), (9, 0)]) (st' := [(2, r), (0, a)]) (by decide +kernel) rfl ?_
    refine zwX_gi C (kd := 11) (bn := 8) (n := 17) (nx := 17) (by decide +kernel) G_r.2.1 G_r.1 rfl ?_
    intro v19 ev19 lv19 uv19
    refine zwic_lt (q := 24) (nx := 20) (by decide +kernel) (fun c20 => ?_) (fun c20 => ?_)
    · refine zwW_p [(0, 0, 0), (2, 3, 0), (1, 0, 2)] (q := 27) (ls' := [(2, r), (0, a), (0, b), (0, 0), (9, 0)]) (st' := [(2, r)]) (by decide +kernel) rfl ?_
      refine zwX_gi C (kd := 11) (bn := 7) (n := 17) (nx := 30) (by decide +kernel) G_r.2.1 G_r.1 rfl ?_
      intro v21 ev21 lv21 uv21
      refine zwif_le (q := 47) (nx := 33) (by decide +kernel) (fun c22 => ?_) (fun c22 => ?_)
      · refine zwW_p [(0, 0, 0), (2, 4, 0), (1, 3, 0)] (q := 51) (ls' := [(2, r), (0, a), (0, b), (0, 0), (0, 0)]) (st' := [(0, 0)]) (by decide +kernel) rfl ?_
        refine zwif_eq (q := 83) (nx := 54) (by decide +kernel) (fun c23 => ?_) (fun c23 => ?_)
        · refine zwW_p [(1, 3, 0)] (q := 84) (ls' := [(2, r), (0, a), (0, b), (0, 0), (0, 0)]) (st' := [(0, 0)]) (by decide +kernel) rfl ?_
          refine zwif_eq (q := 89) (nx := 87) (by decide +kernel) (fun c24 => ?_) (fun c24 => ?_)
          · refine zwW_p [(1, 4, 0)] (q := 91) (ls' := [(2, r), (0, a), (0, b), (0, 0), (0, 0)]) (st' := [(0, 0)]) (by decide +kernel) rfl ?_
            refine zwif_eq (q := 98) (nx := 94) (by decide +kernel) (fun c25 => ?_) (fun c25 => ?_)
            · refine zwW_p [(0, -1, 0)] (q := 99) (ls' := [(2, r), (0, a), (0, b), (0, 0), (0, 0)]) (st' := [(0, -1)]) (by decide +kernel) rfl ?_
              refine zwW_ret (nx := 100) (a := 0) (b := 0) (by decide +kernel) rfl (Or.inl rfl) ?_
              exact ⟨rfl, by omega⟩
            · exfalso; omega
          · exfalso; omega
        · exfalso; omega
      · refine zwW_p [(1, 1, 0), (1, 0, 2)] (q := 35) (ls' := [(2, r), (0, a), (0, b), (0, 0), (9, 0)]) (st' := [(2, r), (0, a)]) (by decide +kernel) rfl ?_
        refine zwX_gi C (kd := 11) (bn := 9) (n := 17) (nx := 38) (by decide +kernel) G_r.2.1 G_r.1 rfl ?_
        intro v26 ev26 lv26 uv26
        refine zwW_p [(1, 2, 0)] (q := 39) (ls' := [(2, r), (0, a), (0, b), (0, 0), (9, 0)]) (st' := [(0, b), (0, v26), (0, a)]) (by decide +kernel) rfl ?_
        refine zwW_adw (nx := 40) (by decide +kernel) ?_
        intro v27 ev27 lv27 uv27
        have Ev27 : v27 = w32 ((fld h r 9) + b) := by rw [ev27, ev26]
        refine zwic_lt (q := 47) (nx := 43) (by decide +kernel) (fun c28 => ?_) (fun c28 => ?_)
        · refine zwW_p [(0, 0, 0), (2, 4, 0), (1, 3, 0)] (q := 51) (ls' := [(2, r), (0, a), (0, b), (0, 0), (0, 0)]) (st' := [(0, 0)]) (by decide +kernel) rfl ?_
          refine zwif_eq (q := 83) (nx := 54) (by decide +kernel) (fun c29 => ?_) (fun c29 => ?_)
          · refine zwW_p [(1, 3, 0)] (q := 84) (ls' := [(2, r), (0, a), (0, b), (0, 0), (0, 0)]) (st' := [(0, 0)]) (by decide +kernel) rfl ?_
            refine zwif_eq (q := 89) (nx := 87) (by decide +kernel) (fun c30 => ?_) (fun c30 => ?_)
            · refine zwW_p [(1, 4, 0)] (q := 91) (ls' := [(2, r), (0, a), (0, b), (0, 0), (0, 0)]) (st' := [(0, 0)]) (by decide +kernel) rfl ?_
              refine zwif_eq (q := 98) (nx := 94) (by decide +kernel) (fun c31 => ?_) (fun c31 => ?_)
              · refine zwW_p [(0, -1, 0)] (q := 99) (ls' := [(2, r), (0, a), (0, b), (0, 0), (0, 0)]) (st' := [(0, -1)]) (by decide +kernel) rfl ?_
                refine zwW_ret (nx := 100) (a := 0) (b := 0) (by decide +kernel) rfl (Or.inl rfl) ?_
                exact ⟨rfl, by omega⟩
              · exfalso; omega
            · exfalso; omega
          · exfalso; omega
        · refine zwW_p [(0, 1, 0), (24, 48, 0), (2, 4, 0), (1, 3, 0)] (q := 51) (ls' := [(2, r), (0, a), (0, b), (0, 0), (0, 1)]) (st' := [(0, 0)]) (by decide +kernel) rfl ?_
          refine zwif_eq (q := 83) (nx := 54) (by decide +kernel) (fun c32 => ?_) (fun c32 => ?_)
          · refine zwW_p [(1, 3, 0)] (q := 84) (ls' := [(2, r), (0, a), (0, b), (0, 0), (0, 1)]) (st' := [(0, 0)]) (by decide +kernel) rfl ?_
            refine zwif_eq (q := 89) (nx := 87) (by decide +kernel) (fun c33 => ?_) (fun c33 => ?_)
            · refine zwW_p [(1, 4, 0)] (q := 91) (ls' := [(2, r), (0, a), (0, b), (0, 0), (0, 1)]) (st' := [(0, 1)]) (by decide +kernel) rfl ?_
              refine zwif_eq (q := 98) (nx := 94) (by decide +kernel) (fun c34 => ?_) (fun c34 => ?_)
              · exfalso; omega
              · refine zwW_p [(0, 1, 0), (24, 99, 0)] (q := 99) (ls' := [(2, r), (0, a), (0, b), (0, 0), (0, 1)]) (st' := [(0, 1)]) (by decide +kernel) rfl ?_
                refine zwW_ret (nx := 100) (a := 0) (b := 0) (by decide +kernel) rfl (Or.inl rfl) ?_
                exact ⟨rfl, by omega⟩
            · exfalso; omega
          · exfalso; omega
    · refine zwW_p [(0, 1, 0), (24, 25, 0), (2, 3, 0), (1, 0, 2)] (q := 27) (ls' := [(2, r), (0, a), (0, b), (0, 1), (9, 0)]) (st' := [(2, r)]) (by decide +kernel) rfl ?_
      refine zwX_gi C (kd := 11) (bn := 7) (n := 17) (nx := 30) (by decide +kernel) G_r.2.1 G_r.1 rfl ?_
      intro v35 ev35 lv35 uv35
      refine zwif_le (q := 47) (nx := 33) (by decide +kernel) (fun c36 => ?_) (fun c36 => ?_)
      · refine zwW_p [(0, 0, 0), (2, 4, 0), (1, 3, 0)] (q := 51) (ls' := [(2, r), (0, a), (0, b), (0, 1), (0, 0)]) (st' := [(0, 1)]) (by decide +kernel) rfl ?_
        refine zwif_eq (q := 83) (nx := 54) (by decide +kernel) (fun c37 => ?_) (fun c37 => ?_)
        · exfalso; omega
        · refine zwW_p [(1, 4, 0)] (q := 56) (ls' := [(2, r), (0, a), (0, b), (0, 1), (0, 0)]) (st' := [(0, 0)]) (by decide +kernel) rfl ?_
          refine zwif_eq (q := 83) (nx := 59) (by decide +kernel) (fun c38 => ?_) (fun c38 => ?_)
          · refine zwW_p [(1, 3, 0)] (q := 84) (ls' := [(2, r), (0, a), (0, b), (0, 1), (0, 0)]) (st' := [(0, 1)]) (by decide +kernel) rfl ?_
            refine zwif_eq (q := 89) (nx := 87) (by decide +kernel) (fun c39 => ?_) (fun c39 => ?_)
            · exfalso; omega
            · refine zwW_p [(0, 0, 0)] (q := 88) (ls' := [(2, r), (0, a), (0, b), (0, 1), (0, 0)]) (st' := [(0, 0)]) (by decide +kernel) rfl ?_
              refine zwW_ret (nx := 89) (a := 0) (b := 0) (by decide +kernel) rfl (Or.inl rfl) ?_
              exact ⟨rfl, by omega⟩
          · exfalso; omega
      · refine zwW_p [(1, 1, 0), (1, 0, 2)] (q := 35) (ls' := [(2, r), (0, a), (0, b), (0, 1), (9, 0)]) (st' := [(2, r), (0, a)]) (by decide +kernel) rfl ?_
        refine zwX_gi C (kd := 11) (bn := 9) (n := 17) (nx := 38) (by decide +kernel) G_r.2.1 G_r.1 rfl ?_
        intro v40 ev40 lv40 uv40
        refine zwW_p [(1, 2, 0)] (q := 39) (ls' := [(2, r), (0, a), (0, b), (0, 1), (9, 0)]) (st' := [(0, b), (0, v40), (0, a)]) (by decide +kernel) rfl ?_
        refine zwW_adw (nx := 40) (by decide +kernel) ?_
        intro v41 ev41 lv41 uv41
        have Ev41 : v41 = w32 ((fld h r 9) + b) := by rw [ev41, ev40]
        refine zwic_lt (q := 47) (nx := 43) (by decide +kernel) (fun c42 => ?_) (fun c42 => ?_)
        · refine zwW_p [(0, 0, 0), (2, 4, 0), (1, 3, 0)] (q := 51) (ls' := [(2, r), (0, a), (0, b), (0, 1), (0, 0)]) (st' := [(0, 1)]) (by decide +kernel) rfl ?_
          refine zwif_eq (q := 83) (nx := 54) (by decide +kernel) (fun c43 => ?_) (fun c43 => ?_)
          · exfalso; omega
          · refine zwW_p [(1, 4, 0)] (q := 56) (ls' := [(2, r), (0, a), (0, b), (0, 1), (0, 0)]) (st' := [(0, 0)]) (by decide +kernel) rfl ?_
            refine zwif_eq (q := 83) (nx := 59) (by decide +kernel) (fun c44 => ?_) (fun c44 => ?_)
            · refine zwW_p [(1, 3, 0)] (q := 84) (ls' := [(2, r), (0, a), (0, b), (0, 1), (0, 0)]) (st' := [(0, 1)]) (by decide +kernel) rfl ?_
              refine zwif_eq (q := 89) (nx := 87) (by decide +kernel) (fun c45 => ?_) (fun c45 => ?_)
              · exfalso; omega
              · refine zwW_p [(0, 0, 0)] (q := 88) (ls' := [(2, r), (0, a), (0, b), (0, 1), (0, 0)]) (st' := [(0, 0)]) (by decide +kernel) rfl ?_
                refine zwW_ret (nx := 89) (a := 0) (b := 0) (by decide +kernel) rfl (Or.inl rfl) ?_
                exact ⟨rfl, by omega⟩
            · exfalso; omega
        · refine zwW_p [(0, 1, 0), (24, 48, 0), (2, 4, 0), (1, 3, 0)] (q := 51) (ls' := [(2, r), (0, a), (0, b), (0, 1), (0, 1)]) (st' := [(0, 1)]) (by decide +kernel) rfl ?_
          refine zwif_eq (q := 83) (nx := 54) (by decide +kernel) (fun c46 => ?_) (fun c46 => ?_)
          · exfalso; omega
          · refine zwW_p [(1, 4, 0)] (q := 56) (ls' := [(2, r), (0, a), (0, b), (0, 1), (0, 1)]) (st' := [(0, 1)]) (by decide +kernel) rfl ?_
            refine zwif_eq (q := 83) (nx := 59) (by decide +kernel) (fun c47 => ?_) (fun c47 => ?_)
            · exfalso; omega
            · refine zwW_p [(1, 0, 2)] (q := 60) (ls' := [(2, r), (0, a), (0, b), (0, 1), (0, 1)]) (st' := [(2, r)]) (by decide +kernel) rfl ?_
              refine zwX_gi C (kd := 11) (bn := 8) (n := 17) (nx := 63) (by decide +kernel) G_r.2.1 G_r.1 rfl ?_
              intro v48 ev48 lv48 uv48
              refine zwW_p [(1, 0, 2)] (q := 64) (ls' := [(2, r), (0, a), (0, b), (0, 1), (0, 1)]) (st' := [(2, r), (0, v48)]) (by decide +kernel) rfl ?_
              refine zwX_gi C (kd := 11) (bn := 9) (n := 17) (nx := 67) (by decide +kernel) G_r.2.1 G_r.1 rfl ?_
              intro v49 ev49 lv49 uv49
              refine zwW_p [(1, 2, 0)] (q := 68) (ls' := [(2, r), (0, a), (0, b), (0, 1), (0, 1)]) (st' := [(0, b), (0, v49), (0, v48)]) (by decide +kernel) rfl ?_
              refine zwW_adw (nx := 69) (by decide +kernel) ?_
              intro v50 ev50 lv50 uv50
              have Ev50 : v50 = w32 ((fld h r 9) + b) := by rw [ev50, ev49]
              refine zwW_p [(1, 0, 2)] (q := 70) (ls' := [(2, r), (0, a), (0, b), (0, 1), (0, 1)]) (st' := [(2, r), (0, v50), (0, v48)]) (by decide +kernel) rfl ?_
              refine zwX_gi C (kd := 11) (bn := 4) (n := 17) (nx := 73) (by decide +kernel) G_r.2.1 G_r.1 rfl ?_
              intro v51 ev51 lv51 uv51
              refine zwW_adw (nx := 74) (by decide +kernel) ?_
              intro v52 ev52 lv52 uv52
              have Ev52 : v52 = w32 ((w32 ((fld h r 9) + b)) + (fld h r 4)) := by rw [ev52, Ev50, ev51]
              refine zwic_gt (q := 81) (nx := 77) (by decide +kernel) (fun c53 => ?_) (fun c53 => ?_)
              · refine zwW_p [(0, 1, 0)] (q := 82) (ls' := [(2, r), (0, a), (0, b), (0, 1), (0, 1)]) (st' := [(0, 1)]) (by decide +kernel) rfl ?_
                refine zwW_ret (nx := 83) (a := 0) (b := 0) (by decide +kernel) rfl (Or.inl rfl) ?_
                exact ⟨rfl, by omega⟩
              · refine zwW_p [(0, 0, 0), (24, 82, 0)] (q := 82) (ls' := [(2, r), (0, a), (0, b), (0, 1), (0, 1)]) (st' := [(0, 0)]) (by decide +kernel) rfl ?_
                refine zwW_ret (nx := 83) (a := 0) (b := 0) (by decide +kernel) rfl (Or.inl rfl) ?_
                exact ⟨rfl, by omega⟩
-- WheelLand$Village.mostFalse()I
theorem x158 {sc : List Int} (h : Hp) (C : CI h) (r : Int) (G_r : gV h r) : zwC sc 1 158 [(2, r)] h (zwRt 0 (fun x g => h = g ∧ (-2147483648 ≤ x ∧ x ≤ 2147483647))) := by
  refine zwC_of (D := 0) 1 (by decide +kernel) rfl (ls := [(2, r)]) rfl ?_
  have lw_r := G_r.1
  refine zwW_p [(1, 0, 2)] (q := 1) (ls' := [(2, r)]) (st' := [(2, r)]) (by decide +kernel) rfl ?_
  refine zwX_gi C (kd := 11) (bn := 11) (n := 17) (nx := 4) (by decide +kernel) G_r.2.1 G_r.1 rfl ?_
  intro v1 ev1 lv1 uv1
  refine zwW_p [(1, 0, 2)] (q := 5) (ls' := [(2, r)]) (st' := [(2, r), (0, v1)]) (by decide +kernel) rfl ?_
  refine zwX_gi C (kd := 11) (bn := 13) (n := 17) (nx := 8) (by decide +kernel) G_r.2.1 G_r.1 rfl ?_
  intro v2 ev2 lv2 uv2
  refine zwW_sbw (nx := 9) (by decide +kernel) ?_
  intro v3 ev3 lv3 uv3
  have Ev3 : v3 = w32 ((fld h r 11) - (fld h r 13)) := by rw [ev3, ev1, ev2]
  refine zwW_p [(0, 0, 0)] (q := 10) (ls' := [(2, r)]) (st' := [(0, 0), (0, v3)]) (by decide +kernel) rfl ?_
  refine zwW_max (nx := 13) (by decide +kernel) rfl ?_
  intro v4 ev4
  refine zwW_ret (nx := 14) (a := 0) (b := 0) (by decide +kernel) rfl (Or.inl rfl) ?_
  exact ⟨rfl, by omega⟩
-- WheelLand$Village.surelyFalse()I
theorem x159 {sc : List Int} (h : Hp) (C : CI h) (r : Int) (G_r : gV h r) : zwC sc 1 159 [(2, r)] h (zwRt 0 (fun x g => h = g ∧ (-2147483648 ≤ x ∧ x ≤ 2147483647))) := by
  refine zwC_of (D := 0) 1 (by decide +kernel) rfl (ls := [(2, r)]) rfl ?_
  have lw_r := G_r.1
  refine zwW_p [(1, 0, 2)] (q := 1) (ls' := [(2, r)]) (st' := [(2, r)]) (by decide +kernel) rfl ?_
  refine zwX_gi C (kd := 11) (bn := 11) (n := 17) (nx := 4) (by decide +kernel) G_r.2.1 G_r.1 rfl ?_
  intro v1 ev1 lv1 uv1
  refine zwW_p [(1, 0, 2)] (q := 5) (ls' := [(2, r)]) (st' := [(2, r), (0, v1)]) (by decide +kernel) rfl ?_
  refine zwX_gi C (kd := 11) (bn := 12) (n := 17) (nx := 8) (by decide +kernel) G_r.2.1 G_r.1 rfl ?_
  intro v2 ev2 lv2 uv2
  refine zwW_sbw (nx := 9) (by decide +kernel) ?_
  intro v3 ev3 lv3 uv3
  have Ev3 : v3 = w32 ((fld h r 11) - (fld h r 12)) := by rw [ev3, ev1, ev2]
  refine zwW_p [(0, 0, 0)] (q := 10) (ls' := [(2, r)]) (st' := [(0, 0), (0, v3)]) (by decide +kernel) rfl ?_
  refine zwW_max (nx := 13) (by decide +kernel) rfl ?_
  intro v4 ev4
  refine zwW_ret (nx := 14) (a := 0) (b := 0) (by decide +kernel) rfl (Or.inl rfl) ?_
  exact ⟨rfl, by omega⟩
-- WheelLand$Village.idleIn(I)I
theorem x222 {sc : List Int} (h : Hp) (C : CI h) (r a : Int) (G_r : gV h r) (q_a : -2147483648 ≤ a ∧ a ≤ 2147483647) : zwC sc 1 222 [(2, r), (0, a)] h (zwRt 0 (fun x g => h = g ∧ (-2147483648 ≤ x ∧ x ≤ 2147483647))) := by
  refine zwC_of (D := 0) 2 (by decide +kernel) rfl (ls := [(2, r), (0, a)]) rfl ?_
  have lw_r := G_r.1
  refine zwW_p [(1, 1, 0)] (q := 1) (ls' := [(2, r), (0, a)]) (st' := [(0, a)]) (by decide +kernel) rfl ?_
  refine zwW_sw (d := 59) (os := [0, 28, 1, 36, 2, 48]) (by decide +kernel) ?_
  refine ⟨fun c1 => ?_, fun c1 => ?_⟩
  · show zwW _ _ _ 28 _ _ _ _
    refine zwW_p [(1, 0, 2)] (q := 29) (ls' := [(2, r), (0, a)]) (st' := [(2, r)]) (by decide +kernel) rfl ?_
    refine zwX_gi C (kd := 11) (bn := 1) (n := 17) (nx := 32) (by decide +kernel) G_r.2.1 G_r.1 rfl ?_
    intro v2 ev2 lv2 uv2
    refine zwW_p [(0, 1000000, 0)] (q := 34) (ls' := [(2, r), (0, a)]) (st' := [(0, 1000000), (0, v2)]) (by decide +kernel) rfl ?_
    refine zwW_tdw (nx := 35) (by decide +kernel) (by omega) ?_
    intro v3 ev3 lv3 uv3
    refine zwW_ret (nx := 36) (a := 0) (b := 0) (by decide +kernel) rfl (Or.inl rfl) ?_
    exact ⟨rfl, by omega⟩
  refine ⟨fun c4 => ?_, fun c4 => ?_⟩
  · show zwW _ _ _ 36 _ _ _ _
    refine zwW_p [(1, 0, 2)] (q := 37) (ls' := [(2, r), (0, a)]) (st' := [(2, r)]) (by decide +kernel) rfl ?_
    refine zwX_gi C (kd := 11) (bn := 1) (n := 17) (nx := 40) (by decide +kernel) G_r.2.1 G_r.1 rfl ?_
    intro v5 ev5 lv5 uv5
    refine zwW_p [(0, 10000, 0)] (q := 43) (ls' := [(2, r), (0, a)]) (st' := [(0, 10000), (0, v5)]) (by decide +kernel) rfl ?_
    refine zwW_tdw (nx := 44) (by decide +kernel) (by omega) ?_
    intro v6 ev6 lv6 uv6
    refine zwW_p [(0, 100, 0)] (q := 46) (ls' := [(2, r), (0, a)]) (st' := [(0, 100), (0, v6)]) (by decide +kernel) rfl ?_
    refine zwW_tmw (nx := 47) (by decide +kernel) ⟨by omega, by omega⟩ (by omega) ?_
    intro v7 ev7 lv7 uv7
    refine zwW_ret (nx := 48) (a := 0) (b := 0) (by decide +kernel) rfl (Or.inl rfl) ?_
    exact ⟨rfl, by omega⟩
  refine ⟨fun c8 => ?_, fun c8 => ?_⟩
  · show zwW _ _ _ 48 _ _ _ _
    refine zwW_p [(1, 0, 2)] (q := 49) (ls' := [(2, r), (0, a)]) (st' := [(2, r)]) (by decide +kernel) rfl ?_
    refine zwX_gi C (kd := 11) (bn := 1) (n := 17) (nx := 52) (by decide +kernel) G_r.2.1 G_r.1 rfl ?_
    intro v9 ev9 lv9 uv9
    refine zwW_p [(0, 100, 0)] (q := 54) (ls' := [(2, r), (0, a)]) (st' := [(0, 100), (0, v9)]) (by decide +kernel) rfl ?_
    refine zwW_tdw (nx := 55) (by decide +kernel) (by omega) ?_
    intro v10 ev10 lv10 uv10
    refine zwW_p [(0, 100, 0)] (q := 57) (ls' := [(2, r), (0, a)]) (st' := [(0, 100), (0, v10)]) (by decide +kernel) rfl ?_
    refine zwW_tmw (nx := 58) (by decide +kernel) ⟨by omega, by omega⟩ (by omega) ?_
    intro v11 ev11 lv11 uv11
    refine zwW_ret (nx := 59) (a := 0) (b := 0) (by decide +kernel) rfl (Or.inl rfl) ?_
    exact ⟨rfl, by omega⟩
  show zwW _ _ _ 59 _ _ _ _
  refine zwW_p [(1, 0, 2)] (q := 60) (ls' := [(2, r), (0, a)]) (st' := [(2, r)]) (by decide +kernel) rfl ?_
  refine zwX_gi C (kd := 11) (bn := 1) (n := 17) (nx := 63) (by decide +kernel) G_r.2.1 G_r.1 rfl ?_
  intro v12 ev12 lv12 uv12
  refine zwW_p [(0, 100, 0)] (q := 65) (ls' := [(2, r), (0, a)]) (st' := [(0, 100), (0, v12)]) (by decide +kernel) rfl ?_
  refine zwW_tmw (nx := 66) (by decide +kernel) ⟨by omega, by omega⟩ (by omega) ?_
  intro v13 ev13 lv13 uv13
  refine zwW_ret (nx := 67) (a := 0) (b := 0) (by decide +kernel) rfl (Or.inl rfl) ?_
  exact ⟨rfl, by omega⟩
def msx234 : Zms := [(1011, 1011, 9, 10), (1011, 1011, 14, 15), (1011, 1011, 15, 16)]
-- WheelLand$Village.endSeason()V
theorem x234 {sc : List Int} (h : Hp) (C : CI h) (r : Int) (G_r : gV h r) : zwC sc 1 234 [(2, r)] h (zwRv (fun g => CI g ∧ zXR msx234 (0) (0) h g)) := by
  refine zwC_of (D := 0) 1 (by decide +kernel) rfl (ls := [(2, r)]) rfl ?_
  have lw_r := G_r.1
  have X : zXR msx234 0 0 h h := zXR.rf _ _
  refine zwW_p [(1, 0, 2), (1, 0, 2)] (q := 2) (ls' := [(2, r)]) (st' := [(2, r), (2, r)]) (by decide +kernel) rfl ?_
  refine zwX_gi C (kd := 11) (bn := 14) (n := 17) (nx := 5) (by decide +kernel) G_r.2.1 G_r.1 rfl ?_
  intro v1 ev1 lv1 uv1
  refine zwW_p [(1, 0, 2)] (q := 6) (ls' := [(2, r)]) (st' := [(2, r), (0, v1), (2, r)]) (by decide +kernel) rfl ?_
  refine zwX_gi C (kd := 11) (bn := 15) (n := 17) (nx := 9) (by decide +kernel) G_r.2.1 G_r.1 rfl ?_
  intro v2 ev2 lv2 uv2
  refine zwic_ge (q := 25) (nx := 12) (by decide +kernel) (fun c3 => ?_) (fun c3 => ?_)
  · refine zwW_p [(1, 0, 2)] (q := 26) (ls' := [(2, r)]) (st' := [(2, r), (2, r)]) (by decide +kernel) rfl ?_
    refine zwX_gi C (kd := 11) (bn := 9) (n := 17) (nx := 29) (by decide +kernel) G_r.2.1 G_r.1 rfl ?_
    intro v4 ev4 lv4 uv4
    refine zwW_p [(0, 1, 0)] (q := 30) (ls' := [(2, r)]) (st' := [(0, 1), (0, v4), (2, r)]) (by decide +kernel) rfl ?_
    refine zwW_adw (nx := 31) (by decide +kernel) ?_
    intro v5 ev5 lv5 uv5
    have Ev5 : v5 = w32 ((fld h r 9) + 1) := by rw [ev5, ev4]
    refine zwW_p [(0, 99, 0)] (q := 33) (ls' := [(2, r)]) (st' := [(0, 99), (0, v5), (2, r)]) (by decide +kernel) rfl ?_
    refine zwW_min (nx := 36) (by decide +kernel) rfl ?_
    intro v6 ev6
    refine zwX_pi C (kd := 11) (bn := 9) (n := 17) (nx := 39) (by decide +kernel) G_r.2.1 G_r.1 ⟨by omega, by omega⟩ ?_
    rintro h7 eh7 Ch7 Qh7
    have Xh7 : zXR msx234 (0) (0) h h7 := X.tr (c2 := 0) (s2 := 0) Qh7 (by decide +kernel) (by decide) (by decide)
    have Gh7_0 : gV h7 r := G_r.x Qh7
    refine zwW_p [(1, 0, 2), (1, 0, 2)] (q := 41) (ls' := [(2, r)]) (st' := [(2, r), (2, r)]) (by decide +kernel) rfl ?_
    refine zwX_gi Ch7 (kd := 11) (bn := 14) (n := 17) (nx := 44) (by decide +kernel) Gh7_0.2.1 Gh7_0.1 rfl ?_
    intro v8 ev8 lv8 uv8
    refine zwX_pi Ch7 (kd := 11) (bn := 15) (n := 17) (nx := 47) (by decide +kernel) Gh7_0.2.1 Gh7_0.1 ⟨by omega, by omega⟩ ?_
    rintro h9 eh9 Ch9 Qh9
    have Xh9 : zXR msx234 (0) (0) h h9 := Xh7.tr (c2 := 0) (s2 := 0) Qh9 (by decide +kernel) (by decide) (by decide)
    have Gh9_0 : gV h9 r := Gh7_0.x Qh9
    refine zwW_p [(1, 0, 2), (0, 0, 0)] (q := 49) (ls' := [(2, r)]) (st' := [(0, 0), (2, r)]) (by decide +kernel) rfl ?_
    refine zwX_pi Ch9 (kd := 11) (bn := 14) (n := 17) (nx := 52) (by decide +kernel) Gh9_0.2.1 Gh9_0.1 ⟨by decide, by decide⟩ ?_
    rintro h10 eh10 Ch10 Qh10
    have Xh10 : zXR msx234 (0) (0) h h10 := Xh9.tr (c2 := 0) (s2 := 0) Qh10 (by decide +kernel) (by decide) (by decide)
    have Gh10_0 : gV h10 r := Gh9_0.x Qh10
    refine zwW_retv (nx := 53) (a := 0) (b := 0) (by decide +kernel) ?_
    exact ⟨Ch10, Xh10.le (by decide) (by decide)⟩
  · refine zwW_p [(1, 0, 2)] (q := 13) (ls' := [(2, r)]) (st' := [(2, r), (2, r)]) (by decide +kernel) rfl ?_
    refine zwX_gi C (kd := 11) (bn := 9) (n := 17) (nx := 16) (by decide +kernel) G_r.2.1 G_r.1 rfl ?_
    intro v11 ev11 lv11 uv11
    refine zwW_p [(0, 1, 0)] (q := 17) (ls' := [(2, r)]) (st' := [(0, 1), (0, v11), (2, r)]) (by decide +kernel) rfl ?_
    refine zwW_sbw (nx := 18) (by decide +kernel) ?_
    intro v12 ev12 lv12 uv12
    have Ev12 : v12 = w32 ((fld h r 9) - 1) := by rw [ev12, ev11]
    refine zwW_p [(0, 1, 0)] (q := 19) (ls' := [(2, r)]) (st' := [(0, 1), (0, v12), (2, r)]) (by decide +kernel) rfl ?_
    refine zwW_max (nx := 22) (by decide +kernel) rfl ?_
    intro v13 ev13
    refine zwW_p [(24, 36, 0)] (q := 36) (ls' := [(2, r)]) (st' := [(0, v13), (2, r)]) (by decide +kernel) rfl ?_
    refine zwX_pi C (kd := 11) (bn := 9) (n := 17) (nx := 39) (by decide +kernel) G_r.2.1 G_r.1 ⟨by omega, by omega⟩ ?_
    rintro h14 eh14 Ch14 Qh14
    have Xh14 : zXR msx234 (0) (0) h h14 := X.tr (c2 := 0) (s2 := 0) Qh14 (by decide +kernel) (by decide) (by decide)
    have Gh14_0 : gV h14 r := G_r.x Qh14
    refine zwW_p [(1, 0, 2), (1, 0, 2)] (q := 41) (ls' := [(2, r)]) (st' := [(2, r), (2, r)]) (by decide +kernel) rfl ?_
    refine zwX_gi Ch14 (kd := 11) (bn := 14) (n := 17) (nx := 44) (by decide +kernel) Gh14_0.2.1 Gh14_0.1 rfl ?_
    intro v15 ev15 lv15 uv15
    refine zwX_pi Ch14 (kd := 11) (bn := 15) (n := 17) (nx := 47) (by decide +kernel) Gh14_0.2.1 Gh14_0.1 ⟨by omega, by omega⟩ ?_
    rintro h16 eh16 Ch16 Qh16
    have Xh16 : zXR msx234 (0) (0) h h16 := Xh14.tr (c2 := 0) (s2 := 0) Qh16 (by decide +kernel) (by decide) (by decide)
    have Gh16_0 : gV h16 r := Gh14_0.x Qh16
    refine zwW_p [(1, 0, 2), (0, 0, 0)] (q := 49) (ls' := [(2, r)]) (st' := [(0, 0), (2, r)]) (by decide +kernel) rfl ?_
    refine zwX_pi Ch16 (kd := 11) (bn := 14) (n := 17) (nx := 52) (by decide +kernel) Gh16_0.2.1 Gh16_0.1 ⟨by decide, by decide⟩ ?_
    rintro h17 eh17 Ch17 Qh17
    have Xh17 : zXR msx234 (0) (0) h h17 := Xh16.tr (c2 := 0) (s2 := 0) Qh17 (by decide +kernel) (by decide) (by decide)
    have Gh17_0 : gV h17 r := Gh16_0.x Qh17
    refine zwW_retv (nx := 53) (a := 0) (b := 0) (by decide +kernel) ?_
    exact ⟨Ch17, Xh17.le (by decide) (by decide)⟩
def msx235 : Zms := [(1020, 1020, 0, 100000)]
-- WheelLand$Village.noteMillPrice(I)V
theorem x235 {sc : List Int} (h : Hp) (C : CI h) (r a : Int) (G_r : gV h r) (q_a : -2147483648 ≤ a ∧ a ≤ 2147483647) : zwC sc 1 235 [(2, r), (0, a)] h (zwRv (fun g => CI g ∧ zXR msx235 (0) (0) h g)) := by
  refine zwC_of (D := 0) 2 (by decide +kernel) rfl (ls := [(2, r), (0, a)]) rfl ?_
  have lw_r := G_r.1
  have X : zXR msx235 0 0 h h := zXR.rf _ _
  refine zwW_p [(1, 1, 0)] (q := 1) (ls' := [(2, r), (0, a)]) (st' := [(0, a)]) (by decide +kernel) rfl ?_
  refine zwif_lt (q := 23) (nx := 4) (by decide +kernel) (fun c1 => ?_) (fun c1 => ?_)
  · refine zwW_retv (nx := 24) (a := 0) (b := 0) (by decide +kernel) ?_
    exact ⟨C, X.le (by decide) (by decide)⟩
  · refine zwW_p [(1, 1, 0), (1, 0, 2)] (q := 6) (ls' := [(2, r), (0, a)]) (st' := [(2, r), (0, a)]) (by decide +kernel) rfl ?_
    refine zwW_get (kd := 11) (bn := 16) (t := 2) (n := 17) (nx := 9) (by decide +kernel) G_r.2.1 rfl ?_
    obtain ⟨v2, ev2⟩ : ∃ z, z = fld h r 16 := ⟨_, rfl⟩
    rw [← ev2]
    have Gv2 : gA 157 h v2 := by rw [ev2]; exact G_r.2.2
    have lv2 := Gv2.1
    refine zwW_len (n := 157) (nx := 10) (by decide +kernel) Gv2.2 rfl ?_
    refine zwic_ge (q := 23) (nx := 13) (by decide +kernel) (fun c3 => ?_) (fun c3 => ?_)
    · refine zwW_retv (nx := 24) (a := 0) (b := 0) (by decide +kernel) ?_
      exact ⟨C, X.le (by decide) (by decide)⟩
    · refine zwW_p [(1, 0, 2)] (q := 14) (ls' := [(2, r), (0, a)]) (st' := [(2, r)]) (by decide +kernel) rfl ?_
      refine zwW_get (kd := 11) (bn := 16) (t := 2) (n := 17) (nx := 17) (by decide +kernel) G_r.2.1 rfl ?_
      rw [← ev2]
      refine zwW_p [(1, 1, 0), (1, 0, 2)] (q := 19) (ls' := [(2, r), (0, a)]) (st' := [(2, r), (0, a), (2, v2)]) (by decide +kernel) rfl ?_
      refine zwX_gi C (kd := 11) (bn := 9) (n := 17) (nx := 22) (by decide +kernel) G_r.2.1 G_r.1 rfl ?_
      intro v5 ev5 lv5 uv5
      refine zwX_si C (n := 157) (nx := 23) (by decide +kernel) Gv2.2 Gv2.1 ⟨by omega, by omega⟩ ⟨by omega, by omega⟩ (by omega) ?_
      rintro h6 eh6 Ch6 Qh6
      have Xh6 : zXR msx235 (0) (0) h h6 := X.tr (c2 := 0) (s2 := 0) Qh6 (by decide +kernel) (by decide) (by decide)
      have Gh6_0 : gV h6 r := G_r.x Qh6
      refine zwW_retv (nx := 24) (a := 0) (b := 0) (by decide +kernel) ?_
      exact ⟨Ch6, Xh6.le (by decide) (by decide)⟩
def msx258 : Zms := [(1011, 1011, 5, 6), (1011, 1011, 6, 7), (1011, 1011, 10, 11), (1011, 1011, 13, 14)]
-- WheelLand$Village.sellHand()V
theorem x258 {sc : List Int} (h : Hp) (C : CI h) (r : Int) (G_r : gV h r) : zwC sc 1 258 [(2, r)] h (zwRv (fun g => CI g ∧ zXR msx258 (0) (0) h g)) := by
  refine zwC_of (D := 0) 1 (by decide +kernel) rfl (ls := [(2, r)]) rfl ?_
  have lw_r := G_r.1
  have X : zXR msx258 0 0 h h := zXR.rf _ _
  refine zwW_p [(1, 0, 2)] (q := 1) (ls' := [(2, r)]) (st' := [(2, r)]) (by decide +kernel) rfl ?_
  refine zwX_gi C (kd := 11) (bn := 5) (n := 17) (nx := 4) (by decide +kernel) G_r.2.1 G_r.1 rfl ?_
  intro v1 ev1 lv1 uv1
  refine zwif_le (q := 30) (nx := 7) (by decide +kernel) (fun c2 => ?_) (fun c2 => ?_)
  · refine zwW_p [(1, 0, 2), (12, 0, 0)] (q := 32) (ls' := [(2, r)]) (st' := [(2, r), (2, r)]) (by decide +kernel) rfl ?_
    refine zwX_gi C (kd := 11) (bn := 6) (n := 17) (nx := 35) (by decide +kernel) G_r.2.1 G_r.1 rfl ?_
    intro v3 ev3 lv3 uv3
    refine zwW_p [(0, 1, 0)] (q := 36) (ls' := [(2, r)]) (st' := [(0, 1), (0, v3), (2, r)]) (by decide +kernel) rfl ?_
    refine zwW_sbw (nx := 37) (by decide +kernel) ?_
    intro v4 ev4 lv4 uv4
    have Ev4 : v4 = w32 ((fld h r 6) - 1) := by rw [ev4, ev3]
    refine zwX_pi C (kd := 11) (bn := 6) (n := 17) (nx := 40) (by decide +kernel) G_r.2.1 G_r.1 ⟨by omega, by omega⟩ ?_
    rintro h5 eh5 Ch5 Qh5
    have Xh5 : zXR msx258 (0) (0) h h5 := X.tr (c2 := 0) (s2 := 0) Qh5 (by decide +kernel) (by decide) (by decide)
    have Gh5_0 : gV h5 r := G_r.x Qh5
    refine zwW_p [(1, 0, 2), (12, 0, 0)] (q := 42) (ls' := [(2, r)]) (st' := [(2, r), (2, r)]) (by decide +kernel) rfl ?_
    refine zwX_gi Ch5 (kd := 11) (bn := 10) (n := 17) (nx := 45) (by decide +kernel) Gh5_0.2.1 Gh5_0.1 rfl ?_
    intro v6 ev6 lv6 uv6
    refine zwW_p [(1, 0, 2)] (q := 46) (ls' := [(2, r)]) (st' := [(2, r), (0, v6), (2, r)]) (by decide +kernel) rfl ?_
    refine zwX_gi Ch5 (kd := 11) (bn := 8) (n := 17) (nx := 49) (by decide +kernel) Gh5_0.2.1 Gh5_0.1 rfl ?_
    intro v7 ev7 lv7 uv7
    refine zwW_adw (nx := 50) (by decide +kernel) ?_
    intro v8 ev8 lv8 uv8
    have Ev8 : v8 = w32 ((fld h5 r 10) + (fld h5 r 8)) := by rw [ev8, ev6, ev7]
    refine zwX_pi Ch5 (kd := 11) (bn := 10) (n := 17) (nx := 53) (by decide +kernel) Gh5_0.2.1 Gh5_0.1 ⟨by omega, by omega⟩ ?_
    rintro h9 eh9 Ch9 Qh9
    have Xh9 : zXR msx258 (0) (0) h h9 := Xh5.tr (c2 := 0) (s2 := 0) Qh9 (by decide +kernel) (by decide) (by decide)
    have Gh9_0 : gV h9 r := Gh5_0.x Qh9
    refine zwW_retv (nx := 54) (a := 0) (b := 0) (by decide +kernel) ?_
    exact ⟨Ch9, Xh9.le (by decide) (by decide)⟩
  · refine zwW_p [(1, 0, 2), (12, 0, 0)] (q := 9) (ls' := [(2, r)]) (st' := [(2, r), (2, r)]) (by decide +kernel) rfl ?_
    refine zwX_gi C (kd := 11) (bn := 5) (n := 17) (nx := 12) (by decide +kernel) G_r.2.1 G_r.1 rfl ?_
    intro v10 ev10 lv10 uv10
    refine zwW_p [(0, 1, 0)] (q := 13) (ls' := [(2, r)]) (st' := [(0, 1), (0, v10), (2, r)]) (by decide +kernel) rfl ?_
    refine zwW_sbw (nx := 14) (by decide +kernel) ?_
    intro v11 ev11 lv11 uv11
    have Ev11 : v11 = w32 ((fld h r 5) - 1) := by rw [ev11, ev10]
    refine zwX_pi C (kd := 11) (bn := 5) (n := 17) (nx := 17) (by decide +kernel) G_r.2.1 G_r.1 ⟨by omega, by omega⟩ ?_
    rintro h12 eh12 Ch12 Qh12
    have Xh12 : zXR msx258 (0) (0) h h12 := X.tr (c2 := 0) (s2 := 0) Qh12 (by decide +kernel) (by decide) (by decide)
    have Gh12_0 : gV h12 r := G_r.x Qh12
    refine zwW_p [(1, 0, 2), (12, 0, 0)] (q := 19) (ls' := [(2, r)]) (st' := [(2, r), (2, r)]) (by decide +kernel) rfl ?_
    refine zwX_gi Ch12 (kd := 11) (bn := 13) (n := 17) (nx := 22) (by decide +kernel) Gh12_0.2.1 Gh12_0.1 rfl ?_
    intro v13 ev13 lv13 uv13
    refine zwW_p [(0, 1, 0)] (q := 23) (ls' := [(2, r)]) (st' := [(0, 1), (0, v13), (2, r)]) (by decide +kernel) rfl ?_
    refine zwW_adw (nx := 24) (by decide +kernel) ?_
    intro v14 ev14 lv14 uv14
    have Ev14 : v14 = w32 ((fld h12 r 13) + 1) := by rw [ev14, ev13]
    refine zwX_pi Ch12 (kd := 11) (bn := 13) (n := 17) (nx := 27) (by decide +kernel) Gh12_0.2.1 Gh12_0.1 ⟨by omega, by omega⟩ ?_
    rintro h15 eh15 Ch15 Qh15
    have Xh15 : zXR msx258 (0) (0) h h15 := Xh12.tr (c2 := 0) (s2 := 0) Qh15 (by decide +kernel) (by decide) (by decide)
    have Gh15_0 : gV h15 r := Gh12_0.x Qh15
    refine zwW_p [(24, 40, 0), (1, 0, 2), (12, 0, 0)] (q := 42) (ls' := [(2, r)]) (st' := [(2, r), (2, r)]) (by decide +kernel) rfl ?_
    refine zwX_gi Ch15 (kd := 11) (bn := 10) (n := 17) (nx := 45) (by decide +kernel) Gh15_0.2.1 Gh15_0.1 rfl ?_
    intro v16 ev16 lv16 uv16
    refine zwW_p [(1, 0, 2)] (q := 46) (ls' := [(2, r)]) (st' := [(2, r), (0, v16), (2, r)]) (by decide +kernel) rfl ?_
    refine zwX_gi Ch15 (kd := 11) (bn := 8) (n := 17) (nx := 49) (by decide +kernel) Gh15_0.2.1 Gh15_0.1 rfl ?_
    intro v17 ev17 lv17 uv17
    refine zwW_adw (nx := 50) (by decide +kernel) ?_
    intro v18 ev18 lv18 uv18
    have Ev18 : v18 = w32 ((fld h15 r 10) + (fld h15 r 8)) := by rw [ev18, ev16, ev17]
    refine zwX_pi Ch15 (kd := 11) (bn := 10) (n := 17) (nx := 53) (by decide +kernel) Gh15_0.2.1 Gh15_0.1 ⟨by omega, by omega⟩ ?_
    rintro h19 eh19 Ch19 Qh19
    have Xh19 : zXR msx258 (0) (0) h h19 := Xh15.tr (c2 := 0) (s2 := 0) Qh19 (by decide +kernel) (by decide) (by decide)
    have Gh19_0 : gV h19 r := Gh15_0.x Qh19
    refine zwW_retv (nx := 54) (a := 0) (b := 0) (by decide +kernel) ?_
    exact ⟨Ch19, Xh19.le (by decide) (by decide)⟩
def msx259 : Zms := [(1011, 1011, 7, 8), (1011, 1011, 10, 11), (1011, 1011, 14, 15)]
-- WheelLand$Village.sellMill()V
theorem x259 {sc : List Int} (h : Hp) (C : CI h) (r : Int) (G_r : gV h r) : zwC sc 1 259 [(2, r)] h (zwRv (fun g => CI g ∧ zXR msx259 (0) (0) h g)) := by
  refine zwC_of (D := 0) 1 (by decide +kernel) rfl (ls := [(2, r)]) rfl ?_
  have lw_r := G_r.1
  have X : zXR msx259 0 0 h h := zXR.rf _ _
  refine zwW_p [(1, 0, 2), (12, 0, 0)] (q := 2) (ls' := [(2, r)]) (st' := [(2, r), (2, r)]) (by decide +kernel) rfl ?_
  refine zwX_gi C (kd := 11) (bn := 7) (n := 17) (nx := 5) (by decide +kernel) G_r.2.1 G_r.1 rfl ?_
  intro v1 ev1 lv1 uv1
  refine zwW_p [(0, 1, 0)] (q := 6) (ls' := [(2, r)]) (st' := [(0, 1), (0, v1), (2, r)]) (by decide +kernel) rfl ?_
  refine zwW_sbw (nx := 7) (by decide +kernel) ?_
  intro v2 ev2 lv2 uv2
  have Ev2 : v2 = w32 ((fld h r 7) - 1) := by rw [ev2, ev1]
  refine zwX_pi C (kd := 11) (bn := 7) (n := 17) (nx := 10) (by decide +kernel) G_r.2.1 G_r.1 ⟨by omega, by omega⟩ ?_
  rintro h3 eh3 Ch3 Qh3
  have Xh3 : zXR msx259 (0) (0) h h3 := X.tr (c2 := 0) (s2 := 0) Qh3 (by decide +kernel) (by decide) (by decide)
  have Gh3_0 : gV h3 r := G_r.x Qh3
  refine zwW_p [(1, 0, 2), (12, 0, 0)] (q := 12) (ls' := [(2, r)]) (st' := [(2, r), (2, r)]) (by decide +kernel) rfl ?_
  refine zwX_gi Ch3 (kd := 11) (bn := 14) (n := 17) (nx := 15) (by decide +kernel) Gh3_0.2.1 Gh3_0.1 rfl ?_
  intro v4 ev4 lv4 uv4
  refine zwW_p [(0, 1, 0)] (q := 16) (ls' := [(2, r)]) (st' := [(0, 1), (0, v4), (2, r)]) (by decide +kernel) rfl ?_
  refine zwW_adw (nx := 17) (by decide +kernel) ?_
  intro v5 ev5 lv5 uv5
  have Ev5 : v5 = w32 ((fld h3 r 14) + 1) := by rw [ev5, ev4]
  refine zwX_pi Ch3 (kd := 11) (bn := 14) (n := 17) (nx := 20) (by decide +kernel) Gh3_0.2.1 Gh3_0.1 ⟨by omega, by omega⟩ ?_
  rintro h6 eh6 Ch6 Qh6
  have Xh6 : zXR msx259 (0) (0) h h6 := Xh3.tr (c2 := 0) (s2 := 0) Qh6 (by decide +kernel) (by decide) (by decide)
  have Gh6_0 : gV h6 r := Gh3_0.x Qh6
  refine zwW_p [(1, 0, 2), (12, 0, 0)] (q := 22) (ls' := [(2, r)]) (st' := [(2, r), (2, r)]) (by decide +kernel) rfl ?_
  refine zwX_gi Ch6 (kd := 11) (bn := 10) (n := 17) (nx := 25) (by decide +kernel) Gh6_0.2.1 Gh6_0.1 rfl ?_
  intro v7 ev7 lv7 uv7
  refine zwW_p [(1, 0, 2)] (q := 26) (ls' := [(2, r)]) (st' := [(2, r), (0, v7), (2, r)]) (by decide +kernel) rfl ?_
  refine zwX_gi Ch6 (kd := 11) (bn := 9) (n := 17) (nx := 29) (by decide +kernel) Gh6_0.2.1 Gh6_0.1 rfl ?_
  intro v8 ev8 lv8 uv8
  refine zwW_adw (nx := 30) (by decide +kernel) ?_
  intro v9 ev9 lv9 uv9
  have Ev9 : v9 = w32 ((fld h6 r 10) + (fld h6 r 9)) := by rw [ev9, ev7, ev8]
  refine zwX_pi Ch6 (kd := 11) (bn := 10) (n := 17) (nx := 33) (by decide +kernel) Gh6_0.2.1 Gh6_0.1 ⟨by omega, by omega⟩ ?_
  rintro h10 eh10 Ch10 Qh10
  have Xh10 : zXR msx259 (0) (0) h h10 := Xh6.tr (c2 := 0) (s2 := 0) Qh10 (by decide +kernel) (by decide) (by decide)
  have Gh10_0 : gV h10 r := Gh6_0.x Qh10
  refine zwW_retv (nx := 34) (a := 0) (b := 0) (by decide +kernel) ?_
  exact ⟨Ch10, Xh10.le (by decide) (by decide)⟩
-- WheelLand$House.hasLoom()Z
theorem x110 {sc : List Int} (h : Hp) (C : CI h) (r : Int) (G_r : gH h r) : zwC sc 1 110 [(2, r)] h (zwRt 0 (fun x g => h = g ∧ ((x = 1 ∧ (0 < fld h r 13)) ∨ (x = 0 ∧ (fld h r 13 ≤ 0))))) := by
  refine zwC_of (D := 0) 1 (by decide +kernel) rfl (ls := [(2, r)]) rfl ?_
  have lw_r := G_r.1
  refine zwW_p [(1, 0, 2)] (q := 1) (ls' := [(2, r)]) (st' := [(2, r)]) (by decide +kernel) rfl ?_
  refine zwX_gi C (kd := 4) (bn := 13) (n := 19) (nx := 4) (by decide +kernel) G_r.2.1 G_r.1 rfl ?_
  intro v1 ev1 lv1 uv1
  refine zwif_le (q := 11) (nx := 7) (by decide +kernel) (fun c2 => ?_) (fun c2 => ?_)
  · refine zwW_p [(0, 0, 0)] (q := 12) (ls' := [(2, r)]) (st' := [(0, 0)]) (by decide +kernel) rfl ?_
    refine zwW_ret (nx := 13) (a := 1) (b := 0) (by decide +kernel) rfl (Or.inr (Or.inl ⟨rfl, by omega⟩)) ?_
    exact ⟨rfl, Or.inr ⟨rfl, by omega⟩⟩
  · refine zwW_p [(0, 1, 0), (24, 12, 0)] (q := 12) (ls' := [(2, r)]) (st' := [(0, 1)]) (by decide +kernel) rfl ?_
    refine zwW_ret (nx := 13) (a := 1) (b := 0) (by decide +kernel) rfl (Or.inr (Or.inl ⟨rfl, by omega⟩)) ?_
    exact ⟨rfl, Or.inl ⟨rfl, by omega⟩⟩
-- WheelLand$House.couldSpin(I)I
theorem x230 {sc : List Int} (h : Hp) (C : CI h) (r a : Int) (G_r : gH h r) (q_a : -2147483648 ≤ a ∧ a ≤ 2147483647) : zwC sc 2 230 [(2, r), (0, a)] h (zwRt 0 (fun x g => h = g ∧ (-2147483648 ≤ x ∧ x ≤ 2147483647))) := by
  refine zwC_of (D := 1) 2 (by decide +kernel) rfl (ls := [(2, r), (0, a)]) rfl ?_
  have lw_r := G_r.1
  refine zwW_p [(1, 0, 2)] (q := 1) (ls' := [(2, r), (0, a)]) (st' := [(2, r)]) (by decide +kernel) rfl ?_
  refine zwX_gi C (kd := 4) (bn := 2) (n := 19) (nx := 4) (by decide +kernel) G_r.2.1 G_r.1 rfl ?_
  intro v1 ev1 lv1 uv1
  refine zwW_p [(1, 0, 2)] (q := 5) (ls' := [(2, r), (0, a)]) (st' := [(2, r), (0, v1)]) (by decide +kernel) rfl ?_
  refine zwW_get (kd := 4) (bn := 1) (t := 2) (n := 19) (nx := 8) (by decide +kernel) G_r.2.1 rfl ?_
  obtain ⟨v2, ev2⟩ : ∃ z, z = fld h r 1 := ⟨_, rfl⟩
  rw [← ev2]
  have Gv2 : gV h v2 := by rw [ev2]; exact G_r.2.2
  have lv2 := Gv2.1
  refine zwW_p [(1, 1, 0)] (q := 9) (ls' := [(2, r), (0, a)]) (st' := [(0, a), (2, v2), (0, v1)]) (by decide +kernel) rfl ?_
  refine zwW_cv (op := 60) (k' := 222) (n := 1) (kd := 11) (m := 17) (nx := 12) (r := v2) (tl := [(0, a)]) (st' := [(0, v1)]) (by decide +kernel) rfl (by decide +kernel) Gv2.2.1 (x222 h C v2 a Gv2 (by omega)) rfl ?_
  rintro v3 _ ⟨rfl, f4⟩
  refine zwW_mlw (nx := 13) (by decide +kernel) ?_
  intro v5 ev5 lv5 uv5
  have Ev5 : v5 = w32 ((fld h r 2) * v3) := by rw [ev5, ev1]
  refine zwW_p [(0, 10, 0), (1, 0, 2)] (q := 16) (ls' := [(2, r), (0, a)]) (st' := [(2, r), (0, 10), (0, v5)]) (by decide +kernel) rfl ?_
  refine zwX_gi C (kd := 4) (bn := 3) (n := 19) (nx := 19) (by decide +kernel) G_r.2.1 G_r.1 rfl ?_
  intro v6 ev6 lv6 uv6
  refine zwW_adw (nx := 20) (by decide +kernel) ?_
  intro v7 ev7 lv7 uv7
  have Ev7 : v7 = w32 (10 + (fld h r 3)) := by rw [ev7, ev6]
  refine zwW_mlw (nx := 21) (by decide +kernel) ?_
  intro v8 ev8 lv8 uv8
  have Ev8 : v8 = w32 ((w32 ((fld h r 2) * v3)) * (w32 (10 + (fld h r 3)))) := by rw [ev8, Ev5, Ev7]
  refine zwW_p [(0, 24, 0)] (q := 23) (ls' := [(2, r), (0, a)]) (st' := [(0, 24), (0, v8)]) (by decide +kernel) rfl ?_
  refine zwW_tdw (nx := 24) (by decide +kernel) (by omega) ?_
  intro v9 ev9 lv9 uv9
  refine zwW_ret (nx := 25) (a := 0) (b := 0) (by decide +kernel) rfl (Or.inl rfl) ?_
  exact ⟨rfl, by omega⟩
-- WheelLand$House.strength()I
theorem x169 {sc : List Int} (h : Hp) (C : CI h) (r : Int) (G_r : gH h r) : zwC sc 1 169 [(2, r)] h (zwRt 0 (fun x g => h = g ∧ (-2147483648 ≤ x ∧ x ≤ 2147483647))) := by
  refine zwC_of (D := 0) 1 (by decide +kernel) rfl (ls := [(2, r)]) rfl ?_
  have lw_r := G_r.1
  refine zwW_p [(0, 20, 0), (1, 0, 2)] (q := 3) (ls' := [(2, r)]) (st' := [(2, r), (0, 20)]) (by decide +kernel) rfl ?_
  refine zwW_get (kd := 4) (bn := 1) (t := 2) (n := 19) (nx := 6) (by decide +kernel) G_r.2.1 rfl ?_
  obtain ⟨v1, ev1⟩ : ∃ z, z = fld h r 1 := ⟨_, rfl⟩
  rw [← ev1]
  have Gv1 : gV h v1 := by rw [ev1]; exact G_r.2.2
  have lv1 := Gv1.1
  refine zwX_gi C (kd := 11) (bn := 2) (n := 17) (nx := 9) (by decide +kernel) Gv1.2.1 Gv1.1 rfl ?_
  intro v2 ev2 lv2 uv2
  refine zwW_mlw (nx := 10) (by decide +kernel) ?_
  intro v3 ev3 lv3 uv3
  have Ev3 : v3 = w32 (20 * (fld h v1 2)) := by rw [ev3, ev2]
  refine zwW_p [(0, 3, 0), (1, 0, 2)] (q := 12) (ls' := [(2, r)]) (st' := [(2, r), (0, 3), (0, v3)]) (by decide +kernel) rfl ?_
  refine zwX_gi C (kd := 4) (bn := 3) (n := 19) (nx := 15) (by decide +kernel) G_r.2.1 G_r.1 rfl ?_
  intro v4 ev4 lv4 uv4
  refine zwW_mlw (nx := 16) (by decide +kernel) ?_
  intro v5 ev5 lv5 uv5
  have Ev5 : v5 = w32 (3 * (fld h r 3)) := by rw [ev5, ev4]
  refine zwW_adw (nx := 17) (by decide +kernel) ?_
  intro v6 ev6 lv6 uv6
  have Ev6 : v6 = w32 ((w32 (20 * (fld h v1 2))) + (w32 (3 * (fld h r 3)))) := by rw [ev6, Ev3, Ev5]
  refine zwW_p [(0, 2, 0), (1, 0, 2)] (q := 19) (ls' := [(2, r)]) (st' := [(2, r), (0, 2), (0, v6)]) (by decide +kernel) rfl ?_
  refine zwX_gi C (kd := 4) (bn := 7) (n := 19) (nx := 22) (by decide +kernel) G_r.2.1 G_r.1 rfl ?_
  intro v7 ev7 lv7 uv7
  refine zwW_mlw (nx := 23) (by decide +kernel) ?_
  intro v8 ev8 lv8 uv8
  have Ev8 : v8 = w32 (2 * (fld h r 7)) := by rw [ev8, ev7]
  refine zwW_sbw (nx := 24) (by decide +kernel) ?_
  intro v9 ev9 lv9 uv9
  have Ev9 : v9 = w32 ((w32 ((w32 (20 * (fld h v1 2))) + (w32 (3 * (fld h r 3))))) - (w32 (2 * (fld h r 7)))) := by rw [ev9, Ev6, Ev8]
  refine zwW_p [(0, 0, 0)] (q := 25) (ls' := [(2, r)]) (st' := [(0, 0), (0, v9)]) (by decide +kernel) rfl ?_
  refine zwW_max (nx := 28) (by decide +kernel) rfl ?_
  intro v10 ev10
  refine zwW_ret (nx := 29) (a := 0) (b := 0) (by decide +kernel) rfl (Or.inl rfl) ?_
  exact ⟨rfl, by omega⟩
-- WheelLand$Roads.known(I)Z
theorem x182 {sc : List Int} (h : Hp) (C : CI h) (a : Int) (q_a : -2147483648 ≤ a ∧ a ≤ 2147483647) : zwC sc 1 182 [(0, a)] h (zwRt 0 (fun x g => h = g ∧ ((x = 1 ∧ (0 ≤ a ∧ a < 8)) ∨ (x = 0 ∧ (a < 0 ∨ 8 ≤ a))))) := by
  refine zwC_of (D := 0) 1 (by decide +kernel) rfl (ls := [(0, a)]) rfl ?_
  refine zwW_p [(1, 0, 0)] (q := 1) (ls' := [(0, a)]) (st' := [(0, a)]) (by decide +kernel) rfl ?_
  refine zwif_lt (q := 14) (nx := 4) (by decide +kernel) (fun c1 => ?_) (fun c1 => ?_)
  · refine zwW_p [(0, 0, 0)] (q := 15) (ls' := [(0, a)]) (st' := [(0, 0)]) (by decide +kernel) rfl ?_
    refine zwW_ret (nx := 16) (a := 1) (b := 0) (by decide +kernel) rfl (Or.inr (Or.inl ⟨rfl, by omega⟩)) ?_
    exact ⟨rfl, Or.inr ⟨rfl, by omega⟩⟩
  · refine zwW_p [(1, 0, 0), (0, 8, 0)] (q := 7) (ls' := [(0, a)]) (st' := [(0, 8), (0, a)]) (by decide +kernel) rfl ?_
    refine zwic_ge (q := 14) (nx := 10) (by decide +kernel) (fun c2 => ?_) (fun c2 => ?_)
    · refine zwW_p [(0, 0, 0)] (q := 15) (ls' := [(0, a)]) (st' := [(0, 0)]) (by decide +kernel) rfl ?_
      refine zwW_ret (nx := 16) (a := 1) (b := 0) (by decide +kernel) rfl (Or.inr (Or.inl ⟨rfl, by omega⟩)) ?_
      exact ⟨rfl, Or.inr ⟨rfl, by omega⟩⟩
    · refine zwW_p [(0, 1, 0), (24, 15, 0)] (q := 15) (ls' := [(0, a)]) (st' := [(0, 1)]) (by decide +kernel) rfl ?_
      refine zwW_ret (nx := 16) (a := 1) (b := 0) (by decide +kernel) rfl (Or.inr (Or.inl ⟨rfl, by omega⟩)) ?_
      exact ⟨rfl, Or.inl ⟨rfl, by omega⟩⟩
-- WheelLand$Roads.days(II)I
theorem x184 {sc : List Int} (h : Hp) (C : CI h) (a b : Int) (q_a : -2147483648 ≤ a ∧ a ≤ 2147483647) (q_b : -2147483648 ≤ b ∧ b ≤ 2147483647) : zwC sc 2 184 [(2, 6), (0, a), (0, b)] h (zwRt 0 (fun x g => h = g ∧ (-2147483648 ≤ x ∧ x ≤ 2147483647) ∧ (0 ≤ a ∧ a < 8 ∧ 0 ≤ b ∧ b < 8 → x = zDa h a.toNat b.toNat))) := by
  refine zwC_of (D := 1) 4 (by decide +kernel) rfl (ls := [(2, 6), (0, a), (0, b), (9, 0)]) rfl ?_
  refine zwW_p [(1, 1, 0)] (q := 1) (ls' := [(2, 6), (0, a), (0, b), (9, 0)]) (st' := [(0, a)]) (by decide +kernel) rfl ?_
  refine zwW_cs (k' := 182) (n := 1) (nx := 4) (as := [(0, a)]) (st' := []) (by decide +kernel) rfl (x182 h C a (by omega)) rfl ?_
  rintro x _ ⟨rfl, ⟨rfl, c1⟩ | ⟨rfl, c1⟩⟩
  · refine zwif_eq (q := 14) (nx := 7) (by decide +kernel) (fun c2 => ?_) (fun c2 => ?_)
    · exfalso; omega
    · refine zwW_p [(1, 2, 0)] (q := 8) (ls' := [(2, 6), (0, a), (0, b), (9, 0)]) (st' := [(0, b)]) (by decide +kernel) rfl ?_
      refine zwW_cs (k' := 182) (n := 1) (nx := 11) (as := [(0, b)]) (st' := []) (by decide +kernel) rfl (x182 h C b (by omega)) rfl ?_
      rintro x _ ⟨rfl, ⟨rfl, c3⟩ | ⟨rfl, c3⟩⟩
      · refine zwif_ne (q := 16) (nx := 14) (by decide +kernel) (fun c4 => ?_) (fun c4 => ?_)
        · refine zwW_p [(1, 0, 2)] (q := 17) (ls' := [(2, 6), (0, a), (0, b), (9, 0)]) (st' := [(2, 6)]) (by decide +kernel) rfl ?_
          refine zwW_gc C.1 (kd := 8) (bn := 1) (n := 2) (c := 8) (nx := 20) (by decide +kernel) ?_
          refine zwW_p [(1, 1, 0), (0, 8, 0)] (q := 23) (ls' := [(2, 6), (0, a), (0, b), (9, 0)]) (st' := [(0, 8), (0, a), (2, 8)]) (by decide +kernel) rfl ?_
          refine zwW_mul (nx := 24) (by decide +kernel) ⟨by omega, by omega⟩ ?_
          refine zwW_p [(1, 2, 0)] (q := 25) (ls' := [(2, 6), (0, a), (0, b), (9, 0)]) (st' := [(0, b), (0, (a * 8)), (2, 8)]) (by decide +kernel) rfl ?_
          refine zwW_add (nx := 26) (by decide +kernel) ⟨by omega, by omega⟩ ?_
          refine zwW_al C.1 (a1 := 8) (a2 := 8) (kd := 20) (n := 64) (t := 0) (lo := -2147483648) (hi := 2147483647) (nx := 27) (by decide +kernel) ⟨by decide, by decide⟩ ⟨by omega, by omega⟩ ?_
          intro v5 ev5 lv5 uv5
          have N27 : 0 ≤ a → a < 8 → 0 ≤ b → b < 8 → v5 = zLe h a.toNat b.toNat := fun p1 p2 p3 p4 => by rw [ev5]; show fld h 8 _ = fld h 8 _; congr 1; omega
          refine zwW_p [(2, 3, 0), (1, 3, 0), (0, 1000000, 0)] (q := 31) (ls' := [(2, 6), (0, a), (0, b), (0, v5)]) (st' := [(0, 1000000), (0, v5)]) (by decide +kernel) rfl ?_
          refine zwic_ge (q := 38) (nx := 34) (by decide +kernel) (fun c6 => ?_) (fun c6 => ?_)
          · refine zwW_p [(0, -1, 0)] (q := 39) (ls' := [(2, 6), (0, a), (0, b), (0, v5)]) (st' := [(0, -1)]) (by decide +kernel) rfl ?_
            refine zwW_ret (nx := 40) (a := 0) (b := 0) (by decide +kernel) rfl (Or.inl rfl) ?_
            exact ⟨rfl, by omega, by first | omega | (intro hk; unfold zDa; rw [← N27 hk.1 hk.2.1 hk.2.2.1 hk.2.2.2]; split <;> omega)⟩
          · refine zwW_p [(1, 3, 0), (24, 39, 0)] (q := 39) (ls' := [(2, 6), (0, a), (0, b), (0, v5)]) (st' := [(0, v5)]) (by decide +kernel) rfl ?_
            refine zwW_ret (nx := 40) (a := 0) (b := 0) (by decide +kernel) rfl (Or.inl rfl) ?_
            exact ⟨rfl, by omega, by first | omega | (intro hk; unfold zDa; rw [← N27 hk.1 hk.2.1 hk.2.2.1 hk.2.2.2]; split <;> omega)⟩
        · exfalso; omega
      · refine zwif_ne (q := 16) (nx := 14) (by decide +kernel) (fun c7 => ?_) (fun c7 => ?_)
        · exfalso; omega
        · refine zwW_p [(0, -1, 0)] (q := 15) (ls' := [(2, 6), (0, a), (0, b), (9, 0)]) (st' := [(0, -1)]) (by decide +kernel) rfl ?_
          refine zwW_ret (nx := 16) (a := 0) (b := 0) (by decide +kernel) rfl (Or.inl rfl) ?_
          exact ⟨rfl, by omega, by first | omega | (intro hk; unfold zDa; rw [← N27 hk.1 hk.2.1 hk.2.2.1 hk.2.2.2]; split <;> omega)⟩
  · refine zwif_eq (q := 14) (nx := 7) (by decide +kernel) (fun c8 => ?_) (fun c8 => ?_)
    · refine zwW_p [(0, -1, 0)] (q := 15) (ls' := [(2, 6), (0, a), (0, b), (9, 0)]) (st' := [(0, -1)]) (by decide +kernel) rfl ?_
      refine zwW_ret (nx := 16) (a := 0) (b := 0) (by decide +kernel) rfl (Or.inl rfl) ?_
      exact ⟨rfl, by omega, by first | omega | (intro hk; unfold zDa; rw [← N27 hk.1 hk.2.1 hk.2.2.1 hk.2.2.2]; split <;> omega)⟩
    · exfalso; omega
-- WheelLand$Roads.joins(II)Z
theorem x233 {sc : List Int} (h : Hp) (C : CI h) (a b : Int) (q_a : -2147483648 ≤ a ∧ a ≤ 2147483647) (q_b : -2147483648 ≤ b ∧ b ≤ 2147483647) : zwC sc 2 233 [(2, 6), (0, a), (0, b)] h (zwRt 0 (fun x g => h = g ∧ ((x = 1 ∧ (0 ≤ 1)) ∨ (x = 0 ∧ (0 ≤ 1))))) := by
  refine zwC_of (D := 1) 3 (by decide +kernel) rfl (ls := [(2, 6), (0, a), (0, b)]) rfl ?_
  refine zwW_p [(1, 1, 0), (1, 2, 0)] (q := 2) (ls' := [(2, 6), (0, a), (0, b)]) (st' := [(0, b), (0, a)]) (by decide +kernel) rfl ?_
  refine zwic_eq (q := 39) (nx := 5) (by decide +kernel) (fun c1 => ?_) (fun c1 => ?_)
  · refine zwW_p [(0, 0, 0)] (q := 40) (ls' := [(2, 6), (0, a), (0, b)]) (st' := [(0, 0)]) (by decide +kernel) rfl ?_
    refine zwW_ret (nx := 41) (a := 1) (b := 0) (by decide +kernel) rfl (Or.inr (Or.inl ⟨rfl, by omega⟩)) ?_
    exact ⟨rfl, Or.inr ⟨rfl, by omega⟩⟩
  · refine zwW_p [(1, 1, 0)] (q := 6) (ls' := [(2, 6), (0, a), (0, b)]) (st' := [(0, a)]) (by decide +kernel) rfl ?_
    refine zwW_cs (k' := 182) (n := 1) (nx := 9) (as := [(0, a)]) (st' := []) (by decide +kernel) rfl (x182 h C a (by omega)) rfl ?_
    rintro x _ ⟨rfl, ⟨rfl, c2⟩ | ⟨rfl, c2⟩⟩
    · refine zwif_eq (q := 39) (nx := 12) (by decide +kernel) (fun c3 => ?_) (fun c3 => ?_)
      · exfalso; omega
      · refine zwW_p [(1, 2, 0)] (q := 13) (ls' := [(2, 6), (0, a), (0, b)]) (st' := [(0, b)]) (by decide +kernel) rfl ?_
        refine zwW_cs (k' := 182) (n := 1) (nx := 16) (as := [(0, b)]) (st' := []) (by decide +kernel) rfl (x182 h C b (by omega)) rfl ?_
        rintro x _ ⟨rfl, ⟨rfl, c4⟩ | ⟨rfl, c4⟩⟩
        · refine zwif_eq (q := 39) (nx := 19) (by decide +kernel) (fun c5 => ?_) (fun c5 => ?_)
          · exfalso; omega
          · refine zwW_p [(1, 0, 2)] (q := 20) (ls' := [(2, 6), (0, a), (0, b)]) (st' := [(2, 6)]) (by decide +kernel) rfl ?_
            refine zwW_gc C.1 (kd := 8) (bn := 0) (n := 2) (c := 7) (nx := 23) (by decide +kernel) ?_
            refine zwW_p [(1, 1, 0), (0, 8, 0)] (q := 26) (ls' := [(2, 6), (0, a), (0, b)]) (st' := [(0, 8), (0, a), (2, 7)]) (by decide +kernel) rfl ?_
            refine zwW_mul (nx := 27) (by decide +kernel) ⟨by omega, by omega⟩ ?_
            refine zwW_p [(1, 2, 0)] (q := 28) (ls' := [(2, 6), (0, a), (0, b)]) (st' := [(0, b), (0, (a * 8)), (2, 7)]) (by decide +kernel) rfl ?_
            refine zwW_add (nx := 29) (by decide +kernel) ⟨by omega, by omega⟩ ?_
            refine zwW_al C.1 (a1 := 7) (a2 := 7) (kd := 20) (n := 64) (t := 0) (lo := -2147483648) (hi := 2147483647) (nx := 30) (by decide +kernel) ⟨by decide, by decide⟩ ⟨by omega, by omega⟩ ?_
            intro v6 ev6 lv6 uv6
            refine zwW_p [(0, 1000000, 0)] (q := 32) (ls' := [(2, 6), (0, a), (0, b)]) (st' := [(0, 1000000), (0, v6)]) (by decide +kernel) rfl ?_
            refine zwic_ge (q := 39) (nx := 35) (by decide +kernel) (fun c7 => ?_) (fun c7 => ?_)
            · refine zwW_p [(0, 0, 0)] (q := 40) (ls' := [(2, 6), (0, a), (0, b)]) (st' := [(0, 0)]) (by decide +kernel) rfl ?_
              refine zwW_ret (nx := 41) (a := 1) (b := 0) (by decide +kernel) rfl (Or.inr (Or.inl ⟨rfl, by omega⟩)) ?_
              exact ⟨rfl, Or.inr ⟨rfl, by omega⟩⟩
            · refine zwW_p [(0, 1, 0), (24, 40, 0)] (q := 40) (ls' := [(2, 6), (0, a), (0, b)]) (st' := [(0, 1)]) (by decide +kernel) rfl ?_
              refine zwW_ret (nx := 41) (a := 1) (b := 0) (by decide +kernel) rfl (Or.inr (Or.inl ⟨rfl, by omega⟩)) ?_
              exact ⟨rfl, Or.inl ⟨rfl, by omega⟩⟩
        · refine zwif_eq (q := 39) (nx := 19) (by decide +kernel) (fun c8 => ?_) (fun c8 => ?_)
          · refine zwW_p [(0, 0, 0)] (q := 40) (ls' := [(2, 6), (0, a), (0, b)]) (st' := [(0, 0)]) (by decide +kernel) rfl ?_
            refine zwW_ret (nx := 41) (a := 1) (b := 0) (by decide +kernel) rfl (Or.inr (Or.inl ⟨rfl, by omega⟩)) ?_
            exact ⟨rfl, Or.inr ⟨rfl, by omega⟩⟩
          · exfalso; omega
    · refine zwif_eq (q := 39) (nx := 12) (by decide +kernel) (fun c9 => ?_) (fun c9 => ?_)
      · refine zwW_p [(0, 0, 0)] (q := 40) (ls' := [(2, 6), (0, a), (0, b)]) (st' := [(0, 0)]) (by decide +kernel) rfl ?_
        refine zwW_ret (nx := 41) (a := 1) (b := 0) (by decide +kernel) rfl (Or.inr (Or.inl ⟨rfl, by omega⟩)) ?_
        exact ⟨rfl, Or.inr ⟨rfl, by omega⟩⟩
      · exfalso; omega
def msx183 : Zms := [(8, 8, 0, 64)]
-- WheelLand$Roads.measure()V
theorem x183 {sc : List Int} (h : Hp) (C : CI h) (pW : zLd h) (pE : ∀ a b : Nat, a < 8 → b < 8 → zLe h a b = zLa h a b) : zwC sc 1 183 [(2, 6)] h (zwRv (fun g => CI g ∧ zXR msx183 (0) (0) h g ∧ (zFw (zLa h) (zLe g) 8))) := by
  refine zwC_of (D := 0) 6 (by decide +kernel) rfl (ls := [(2, 6), (9, 0), (9, 0), (9, 0), (9, 0), (9, 0)]) rfl ?_
  have X : zXR msx183 0 0 h h := zXR.rf _ _
  refine zwW_p [(0, 0, 0), (2, 1, 0)] (q := 2) (ls' := [(2, 6), (0, 0), (9, 0), (9, 0), (9, 0), (9, 0)]) (st' := []) (by decide +kernel) rfl ?_
  have L1 : ∀ (n : Nat) (yL1 : Int) (w2L1 w3L1 w4L1 w5L1 : Vl) (hL1 : Hp), n = ((1000 - yL1)).toNat → (zFw (zLa h) (zLe hL1) (yL1).toNat) → (0 ≤ yL1 ∧ yL1 ≤ 8) → CI hL1 → zXR msx183 (0) (0) h hL1 → zwW sc (0) 183 2 [(2, 6), (0, yL1), w2L1, w3L1, w4L1, w5L1] [] hL1 (zwRv (fun g => CI g ∧ zXR msx183 (0) (0) h g ∧ (zFw (zLa h) (zLe g) 8))) := by
    intro n
    induction n using Nat.strongRecOn with
    | ind n IHL1 =>
      intro yL1 w2L1 w3L1 w4L1 w5L1 hL1 hnL1 iL1_0 iL1_1 ChL1 XhL1
      refine zwW_p [(1, 1, 0), (0, 8, 0)] (q := 5) (ls' := [(2, 6), (0, yL1), w2L1, w3L1, w4L1, w5L1]) (st' := [(0, 8), (0, yL1)]) (by decide +kernel) rfl ?_
      refine zwic_ge (q := 98) (nx := 8) (by decide +kernel) (fun c2 => ?_) (fun c2 => ?_)
      · refine zwW_retv (nx := 99) (a := 0) (b := 0) (by decide +kernel) ?_
        exact ⟨ChL1, XhL1.le (by decide) (by decide), by have Z98 := iL1_0; rwa [show (yL1).toNat = 8 by omega] at Z98⟩
      · refine zwW_p [(0, 0, 0), (2, 2, 0)] (q := 10) (ls' := [(2, 6), (0, yL1), (0, 0), w3L1, w4L1, w5L1]) (st' := []) (by decide +kernel) rfl ?_
        have L3 : ∀ (n : Nat) (fL3 : Int) (w3L3 w4L3 w5L3 : Vl) (hL3 : Hp), n = ((1000 - fL3)).toNat → (zCu (zLe hL1) (yL1).toNat (fL3).toNat 0 (zLe hL3)) → (0 ≤ fL3 ∧ fL3 ≤ 8) → CI hL3 → zXR msx183 (0) (0) h hL3 → zwW sc (0) 183 10 [(2, 6), (0, yL1), (0, fL3), w3L3, w4L3, w5L3] [] hL3 (zwRv (fun g => CI g ∧ zXR msx183 (0) (0) h g ∧ (zFw (zLa h) (zLe g) 8))) := by
          intro n
          induction n using Nat.strongRecOn with
          | ind n IHL3 =>
            intro fL3 w3L3 w4L3 w5L3 hL3 hnL3 iL3_0 iL3_1 ChL3 XhL3
            refine zwW_p [(1, 2, 0), (0, 8, 0)] (q := 13) (ls' := [(2, 6), (0, yL1), (0, fL3), w3L3, w4L3, w5L3]) (st' := [(0, 8), (0, fL3)]) (by decide +kernel) rfl ?_
            refine zwic_ge (q := 92) (nx := 16) (by decide +kernel) (fun c4 => ?_) (fun c4 => ?_)
            · refine zwW_inc (i := 1) (c := 1) (x := yL1) (nx := 95) (by decide +kernel) rfl ⟨by omega, by omega⟩ (ls' := [(2, 6), (0, (yL1 + 1)), (0, fL3), w3L3, w4L3, w5L3]) rfl ?_
              refine zwW_p [(24, 2, 0)] (q := 2) (ls' := [(2, 6), (0, (yL1 + 1)), (0, fL3), w3L3, w4L3, w5L3]) (st' := []) (by decide +kernel) rfl ?_
              exact IHL1 ((1000 - (yL1 + 1))).toNat (by omega) (yL1 + 1) (0, fL3) w3L3 w4L3 w5L3 hL3 rfl (by rw [show (yL1 + 1).toNat = (yL1).toNat + 1 by omega]; exact zFw.next iL1_0 (by omega) iL3_0 (by omega)) (by omega) ChL3 (XhL3.le (by decide) (by decide))
            · refine zwW_p [(0, 0, 0), (2, 3, 0)] (q := 18) (ls' := [(2, 6), (0, yL1), (0, fL3), (0, 0), w4L3, w5L3]) (st' := []) (by decide +kernel) rfl ?_
              have L5 : ∀ (n : Nat) (tL5 : Int) (w4L5 w5L5 : Vl) (hL5 : Hp), n = ((1000 - tL5)).toNat → (zCu (zLe hL1) (yL1).toNat (fL3).toNat (tL5).toNat (zLe hL5)) → (0 ≤ tL5 ∧ tL5 ≤ 8) → CI hL5 → zXR msx183 (0) (0) h hL5 → zwW sc (0) 183 18 [(2, 6), (0, yL1), (0, fL3), (0, tL5), w4L5, w5L5] [] hL5 (zwRv (fun g => CI g ∧ zXR msx183 (0) (0) h g ∧ (zFw (zLa h) (zLe g) 8))) := by
                intro n
                induction n using Nat.strongRecOn with
                | ind n IHL5 =>
                  intro tL5 w4L5 w5L5 hL5 hnL5 iL5_0 iL5_1 ChL5 XhL5
                  refine zwW_p [(1, 3, 0), (0, 8, 0)] (q := 21) (ls' := [(2, 6), (0, yL1), (0, fL3), (0, tL5), w4L5, w5L5]) (st' := [(0, 8), (0, tL5)]) (by decide +kernel) rfl ?_
                  refine zwic_ge (q := 86) (nx := 24) (by decide +kernel) (fun c6 => ?_) (fun c6 => ?_)
                  · refine zwW_inc (i := 2) (c := 1) (x := fL3) (nx := 89) (by decide +kernel) rfl ⟨by omega, by omega⟩ (ls' := [(2, 6), (0, yL1), (0, (fL3 + 1)), (0, tL5), w4L5, w5L5]) rfl ?_
                    refine zwW_p [(24, 10, 0)] (q := 10) (ls' := [(2, 6), (0, yL1), (0, (fL3 + 1)), (0, tL5), w4L5, w5L5]) (st' := []) (by decide +kernel) rfl ?_
                    exact IHL3 ((1000 - (fL3 + 1))).toNat (by omega) (fL3 + 1) (0, tL5) w4L5 w5L5 hL5 rfl (by rw [show (fL3 + 1).toNat = (fL3).toNat + 1 by omega]; exact zCu.row iL5_0 (by omega)) (by omega) ChL5 (XhL5.le (by decide) (by decide))
                  · refine zwW_p [(1, 0, 2)] (q := 25) (ls' := [(2, 6), (0, yL1), (0, fL3), (0, tL5), w4L5, w5L5]) (st' := [(2, 6)]) (by decide +kernel) rfl ?_
                    refine zwW_gc ChL5.1 (kd := 8) (bn := 1) (n := 2) (c := 8) (nx := 28) (by decide +kernel) ?_
                    refine zwW_p [(1, 2, 0), (0, 8, 0)] (q := 31) (ls' := [(2, 6), (0, yL1), (0, fL3), (0, tL5), w4L5, w5L5]) (st' := [(0, 8), (0, fL3), (2, 8)]) (by decide +kernel) rfl ?_
                    refine zwW_mul (nx := 32) (by decide +kernel) ⟨by omega, by omega⟩ ?_
                    refine zwW_p [(1, 1, 0)] (q := 33) (ls' := [(2, 6), (0, yL1), (0, fL3), (0, tL5), w4L5, w5L5]) (st' := [(0, yL1), (0, (fL3 * 8)), (2, 8)]) (by decide +kernel) rfl ?_
                    refine zwW_add (nx := 34) (by decide +kernel) ⟨by omega, by omega⟩ ?_
                    refine zwW_al ChL5.1 (a1 := 8) (a2 := 8) (kd := 20) (n := 64) (t := 0) (lo := -2147483648) (hi := 2147483647) (nx := 35) (by decide +kernel) ⟨by decide, by decide⟩ ⟨by omega, by omega⟩ ?_
                    intro v7 ev7 lv7 uv7
                    have N35 : v7 = zLe hL5 (fL3).toNat (yL1).toNat := by rw [ev7]; show fld hL5 8 _ = fld hL5 8 _; congr 1; omega
                    refine zwW_p [(1, 0, 2)] (q := 36) (ls' := [(2, 6), (0, yL1), (0, fL3), (0, tL5), w4L5, w5L5]) (st' := [(2, 6), (0, v7)]) (by decide +kernel) rfl ?_
                    refine zwW_gc ChL5.1 (kd := 8) (bn := 1) (n := 2) (c := 8) (nx := 39) (by decide +kernel) ?_
                    refine zwW_p [(1, 1, 0), (0, 8, 0)] (q := 42) (ls' := [(2, 6), (0, yL1), (0, fL3), (0, tL5), w4L5, w5L5]) (st' := [(0, 8), (0, yL1), (2, 8), (0, v7)]) (by decide +kernel) rfl ?_
                    refine zwW_mul (nx := 43) (by decide +kernel) ⟨by omega, by omega⟩ ?_
                    refine zwW_p [(1, 3, 0)] (q := 44) (ls' := [(2, 6), (0, yL1), (0, fL3), (0, tL5), w4L5, w5L5]) (st' := [(0, tL5), (0, (yL1 * 8)), (2, 8), (0, v7)]) (by decide +kernel) rfl ?_
                    refine zwW_add (nx := 45) (by decide +kernel) ⟨by omega, by omega⟩ ?_
                    refine zwW_al ChL5.1 (a1 := 8) (a2 := 8) (kd := 20) (n := 64) (t := 0) (lo := -2147483648) (hi := 2147483647) (nx := 46) (by decide +kernel) ⟨by decide, by decide⟩ ⟨by omega, by omega⟩ ?_
                    intro v8 ev8 lv8 uv8
                    have N46 : v8 = zLe hL5 (yL1).toNat (tL5).toNat := by rw [ev8]; show fld hL5 8 _ = fld hL5 8 _; congr 1; omega
                    refine zwW_adw (nx := 47) (by decide +kernel) ?_
                    intro v9 ev9 lv9 uv9
                    have B1 := zFw.cb iL1_0 iL5_0 (by omega) (a := (fL3).toNat) (b := (yL1).toNat) (by omega) (by omega)
                    have B2 := zFw.cb iL1_0 iL5_0 (by omega) (a := (yL1).toNat) (b := (tL5).toNat) (by omega) (by omega)
                    have N47 : v9 = zLe hL5 (fL3).toNat (yL1).toNat + zLe hL5 (yL1).toNat (tL5).toNat := by rw [ev9, N35, N46]; exact w32_id ⟨by omega, by omega⟩
                    refine zwW_p [(2, 4, 0), (1, 0, 2)] (q := 50) (ls' := [(2, 6), (0, yL1), (0, fL3), (0, tL5), (0, v9), w5L5]) (st' := [(2, 6)]) (by decide +kernel) rfl ?_
                    refine zwW_gc ChL5.1 (kd := 8) (bn := 1) (n := 2) (c := 8) (nx := 53) (by decide +kernel) ?_
                    refine zwW_p [(1, 2, 0), (0, 8, 0)] (q := 56) (ls' := [(2, 6), (0, yL1), (0, fL3), (0, tL5), (0, v9), w5L5]) (st' := [(0, 8), (0, fL3), (2, 8)]) (by decide +kernel) rfl ?_
                    refine zwW_mul (nx := 57) (by decide +kernel) ⟨by omega, by omega⟩ ?_
                    refine zwW_p [(1, 3, 0)] (q := 58) (ls' := [(2, 6), (0, yL1), (0, fL3), (0, tL5), (0, v9), w5L5]) (st' := [(0, tL5), (0, (fL3 * 8)), (2, 8)]) (by decide +kernel) rfl ?_
                    refine zwW_add (nx := 59) (by decide +kernel) ⟨by omega, by omega⟩ ?_
                    refine zwW_al ChL5.1 (a1 := 8) (a2 := 8) (kd := 20) (n := 64) (t := 0) (lo := -2147483648) (hi := 2147483647) (nx := 60) (by decide +kernel) ⟨by decide, by decide⟩ ⟨by omega, by omega⟩ ?_
                    intro v10 ev10 lv10 uv10
                    have N60 : v10 = zLe hL5 (fL3).toNat (tL5).toNat := by rw [ev10]; show fld hL5 8 _ = fld hL5 8 _; congr 1; omega
                    refine zwW_p [(2, 5, 0), (1, 0, 2)] (q := 63) (ls' := [(2, 6), (0, yL1), (0, fL3), (0, tL5), (0, v9), (0, v10)]) (st' := [(2, 6)]) (by decide +kernel) rfl ?_
                    refine zwW_gc ChL5.1 (kd := 8) (bn := 1) (n := 2) (c := 8) (nx := 66) (by decide +kernel) ?_
                    refine zwW_p [(1, 2, 0), (0, 8, 0)] (q := 69) (ls' := [(2, 6), (0, yL1), (0, fL3), (0, tL5), (0, v9), (0, v10)]) (st' := [(0, 8), (0, fL3), (2, 8)]) (by decide +kernel) rfl ?_
                    refine zwW_mul (nx := 70) (by decide +kernel) ⟨by omega, by omega⟩ ?_
                    refine zwW_p [(1, 3, 0)] (q := 71) (ls' := [(2, 6), (0, yL1), (0, fL3), (0, tL5), (0, v9), (0, v10)]) (st' := [(0, tL5), (0, (fL3 * 8)), (2, 8)]) (by decide +kernel) rfl ?_
                    refine zwW_add (nx := 72) (by decide +kernel) ⟨by omega, by omega⟩ ?_
                    refine zwW_p [(1, 5, 0), (1, 4, 0)] (q := 76) (ls' := [(2, 6), (0, yL1), (0, fL3), (0, tL5), (0, v9), (0, v10)]) (st' := [(0, v9), (0, v10), (0, ((fL3 * 8) + tL5)), (2, 8)]) (by decide +kernel) rfl ?_
                    refine zwW_min (nx := 79) (by decide +kernel) rfl ?_
                    intro v11 ev11
                    have X79 : v11 = min (zLe hL5 (fL3).toNat (tL5).toNat) (zLe hL5 (fL3).toNat (yL1).toNat + zLe hL5 (yL1).toNat (tL5).toNat) := by rw [ev11, N60, N47]
                    refine zwW_as ChL5.1 (a1 := 8) (a2 := 8) (n := 64) (lo := -2147483648) (hi := 2147483647) (nx := 80) (by decide +kernel) ⟨by decide, by decide⟩ ⟨by omega, by omega⟩ ⟨by omega, by omega⟩ ?_
                    intro h12 eh12 Ih12
                    have Ch12 : CI h12 := ChL5.wc eh12 Ih12 (by decide) (by decide)
                    have Qh12 : zXR [(8, 8, 0, 64)] 0 0 hL5 h12 := zXR.wc eh12 rfl ⟨by decide, by decide, Or.inl (by decide)⟩ ⟨by omega, by omega⟩
                    have W79 : zCu (zLe hL1) (yL1).toNat (fL3).toNat ((tL5).toNat + 1) (zLe h12) := zCu.w iL5_0 (by omega) (by omega) (by omega) (iL1_0.2.1 _ (by omega)) (fun a b ha hb => (iL1_0.1 a b ha hb).1) eh12 (by omega) (ChL5.1.s (a1 := 8) (a2 := 8) (k := 20) (n := 64) (by decide +kernel) (by decide) (by decide)) X79
                    have Xh12 : zXR msx183 (0) (0) h h12 := XhL5.tr (c2 := 0) (s2 := 0) Qh12 (by decide +kernel) (by decide) (by decide)
                    refine zwW_inc (i := 3) (c := 1) (x := tL5) (nx := 83) (by decide +kernel) rfl ⟨by omega, by omega⟩ (ls' := [(2, 6), (0, yL1), (0, fL3), (0, (tL5 + 1)), (0, v9), (0, v10)]) rfl ?_
                    refine zwW_p [(24, 18, 0)] (q := 18) (ls' := [(2, 6), (0, yL1), (0, fL3), (0, (tL5 + 1)), (0, v9), (0, v10)]) (st' := []) (by decide +kernel) rfl ?_
                    exact IHL5 ((1000 - (tL5 + 1))).toNat (by omega) (tL5 + 1) (0, v9) (0, v10) h12 rfl (by rw [show (tL5 + 1).toNat = (tL5).toNat + 1 by omega]; exact W79) (by omega) Ch12 (Xh12.le (by decide) (by decide))
              exact L5 _ 0 w4L3 w5L3 hL3 rfl (iL3_0) (by omega) ChL3 (XhL3.le (by decide) (by decide))
        exact L3 _ 0 w3L1 w4L1 w5L1 hL1 rfl (zCu.start _) (by omega) ChL1 (XhL1.le (by decide) (by decide))
  exact L1 _ 0 (9, 0) (9, 0) (9, 0) (9, 0) h rfl (zFw_start pW pE) (by omega) C (X.le (by decide) (by decide))
def msx103 : Zms := [(7, 7, 0, 64), (8, 8, 0, 64)]
-- WheelLand$Roads.lay(III)V
theorem x103 {sc : List Int} (h : Hp) (C : CI h) (a b c : Int) (q_a : -2147483648 ≤ a ∧ a ≤ 2147483647) (q_b : -2147483648 ≤ b ∧ b ≤ 2147483647) (q_c : -2147483648 ≤ c ∧ c ≤ 2147483647) (p1 : 0 ≤ a ∧ a < 8) (p2 : 0 ≤ b ∧ b < 8) (p3 : a ≠ b) (p4 : 1 ≤ c ∧ c ≤ 9) (pW : zLd h) : zwC sc 2 103 [(2, 6), (0, a), (0, b), (0, c)] h (zwRv (fun g => CI g ∧ zXR msx103 (0) (0) h g ∧ (zLd g ∧ zFw (zLa g) (zLe g) 8 ∧ ∀ p q : Nat, p < 8 → q < 8 → zLa g p q = if (p = a.toNat ∧ q = b.toNat) ∨ (p = b.toNat ∧ q = a.toNat) then c else zLa h p q))) := by
  refine zwC_of (D := 1) 4 (by decide +kernel) rfl (ls := [(2, 6), (0, a), (0, b), (0, c)]) rfl ?_
  have X : zXR msx103 0 0 h h := zXR.rf _ _
  refine zwW_p [(1, 1, 0)] (q := 1) (ls' := [(2, 6), (0, a), (0, b), (0, c)]) (st' := [(0, a)]) (by decide +kernel) rfl ?_
  refine zwW_cs (k' := 182) (n := 1) (nx := 4) (as := [(0, a)]) (st' := []) (by decide +kernel) rfl (x182 h C a (by omega)) rfl ?_
  rintro x _ ⟨rfl, ⟨rfl, c1⟩ | ⟨rfl, c1⟩⟩
  · refine zwif_eq (q := 65) (nx := 7) (by decide +kernel) (fun c2 => ?_) (fun c2 => ?_)
    · exfalso; omega
    · refine zwW_p [(1, 2, 0)] (q := 8) (ls' := [(2, 6), (0, a), (0, b), (0, c)]) (st' := [(0, b)]) (by decide +kernel) rfl ?_
      refine zwW_cs (k' := 182) (n := 1) (nx := 11) (as := [(0, b)]) (st' := []) (by decide +kernel) rfl (x182 h C b (by omega)) rfl ?_
      rintro x _ ⟨rfl, ⟨rfl, c3⟩ | ⟨rfl, c3⟩⟩
      · refine zwif_eq (q := 65) (nx := 14) (by decide +kernel) (fun c4 => ?_) (fun c4 => ?_)
        · exfalso; omega
        · refine zwW_p [(1, 1, 0), (1, 2, 0)] (q := 16) (ls' := [(2, 6), (0, a), (0, b), (0, c)]) (st' := [(0, b), (0, a)]) (by decide +kernel) rfl ?_
          refine zwic_eq (q := 65) (nx := 19) (by decide +kernel) (fun c5 => ?_) (fun c5 => ?_)
          · refine zwW_retv (nx := 66) (a := 0) (b := 0) (by decide +kernel) ?_
            exact ⟨C, X.le (by decide) (by decide), by first | omega | exact ⟨fun p q hp hq => by rw [Z62 p q hp hq]; exact L61 p q hp hq, zFw.cg {F0} Z62, fun p q hp hq => (Z62 p q hp hq).trans ((congrFun (O58 7 (by decide)) _).trans (F42 p q hp hq))⟩⟩
          · refine zwW_p [(1, 0, 2)] (q := 20) (ls' := [(2, 6), (0, a), (0, b), (0, c)]) (st' := [(2, 6)]) (by decide +kernel) rfl ?_
            refine zwW_gc C.1 (kd := 8) (bn := 0) (n := 2) (c := 7) (nx := 23) (by decide +kernel) ?_
            refine zwW_p [(1, 1, 0), (0, 8, 0)] (q := 26) (ls' := [(2, 6), (0, a), (0, b), (0, c)]) (st' := [(0, 8), (0, a), (2, 7)]) (by decide +kernel) rfl ?_
            refine zwW_mul (nx := 27) (by decide +kernel) ⟨by omega, by omega⟩ ?_
            refine zwW_p [(1, 2, 0)] (q := 28) (ls' := [(2, 6), (0, a), (0, b), (0, c)]) (st' := [(0, b), (0, (a * 8)), (2, 7)]) (by decide +kernel) rfl ?_
            refine zwW_add (nx := 29) (by decide +kernel) ⟨by omega, by omega⟩ ?_
            refine zwW_p [(1, 3, 0)] (q := 30) (ls' := [(2, 6), (0, a), (0, b), (0, c)]) (st' := [(0, c), (0, ((a * 8) + b)), (2, 7)]) (by decide +kernel) rfl ?_
            refine zwW_as C.1 (a1 := 7) (a2 := 7) (n := 64) (lo := -2147483648) (hi := 2147483647) (nx := 31) (by decide +kernel) ⟨by decide, by decide⟩ ⟨by omega, by omega⟩ ⟨by omega, by omega⟩ ?_
            intro h6 eh6 Ih6
            have Ch6 : CI h6 := C.wc eh6 Ih6 (by decide) (by decide)
            have Qh6 : zXR [(7, 7, 0, 64)] 0 0 h h6 := zXR.wc eh6 rfl ⟨by decide, by decide, Or.inl (by decide)⟩ ⟨by omega, by omega⟩
            have E30 := eh6
            have S30 := C.1.s (a1 := 7) (a2 := 7) (k := 20) (n := 64) (by decide +kernel) (r := 7) (by decide) (by decide)
            have Xh6 : zXR msx103 (0) (0) h h6 := X.tr (c2 := 0) (s2 := 0) Qh6 (by decide +kernel) (by decide) (by decide)
            refine zwW_p [(1, 0, 2)] (q := 32) (ls' := [(2, 6), (0, a), (0, b), (0, c)]) (st' := [(2, 6)]) (by decide +kernel) rfl ?_
            refine zwW_gc Ch6.1 (kd := 8) (bn := 0) (n := 2) (c := 7) (nx := 35) (by decide +kernel) ?_
            refine zwW_p [(1, 2, 0), (0, 8, 0)] (q := 38) (ls' := [(2, 6), (0, a), (0, b), (0, c)]) (st' := [(0, 8), (0, b), (2, 7)]) (by decide +kernel) rfl ?_
            refine zwW_mul (nx := 39) (by decide +kernel) ⟨by omega, by omega⟩ ?_
            refine zwW_p [(1, 1, 0)] (q := 40) (ls' := [(2, 6), (0, a), (0, b), (0, c)]) (st' := [(0, a), (0, (b * 8)), (2, 7)]) (by decide +kernel) rfl ?_
            refine zwW_add (nx := 41) (by decide +kernel) ⟨by omega, by omega⟩ ?_
            refine zwW_p [(1, 3, 0)] (q := 42) (ls' := [(2, 6), (0, a), (0, b), (0, c)]) (st' := [(0, c), (0, ((b * 8) + a)), (2, 7)]) (by decide +kernel) rfl ?_
            refine zwW_as Ch6.1 (a1 := 7) (a2 := 7) (n := 64) (lo := -2147483648) (hi := 2147483647) (nx := 43) (by decide +kernel) ⟨by decide, by decide⟩ ⟨by omega, by omega⟩ ⟨by omega, by omega⟩ ?_
            intro h7 eh7 Ih7
            have Ch7 : CI h7 := Ch6.wc eh7 Ih7 (by decide) (by decide)
            have Qh7 : zXR [(7, 7, 0, 64)] 0 0 h6 h7 := zXR.wc eh7 rfl ⟨by decide, by decide, Or.inl (by decide)⟩ ⟨by omega, by omega⟩
            have S42 := Ch6.1.s (a1 := 7) (a2 := 7) (k := 20) (n := 64) (by decide +kernel) (r := 7) (by decide) (by decide)
            obtain ⟨L42, F42⟩ := zLd.w (a := a.toNat) (b := b.toNat) pW (by omega) (by omega) (by omega) p4 E30 eh7 (by omega) (by omega) S30 S42
            have Xh7 : zXR msx103 (0) (0) h h7 := Xh6.tr (c2 := 0) (s2 := 0) Qh7 (by decide +kernel) (by decide) (by decide)
            refine zwW_p [(1, 0, 2)] (q := 44) (ls' := [(2, 6), (0, a), (0, b), (0, c)]) (st' := [(2, 6)]) (by decide +kernel) rfl ?_
            refine zwW_gc Ch7.1 (kd := 8) (bn := 0) (n := 2) (c := 7) (nx := 47) (by decide +kernel) ?_
            refine zwW_p [(0, 0, 0), (1, 0, 2)] (q := 49) (ls' := [(2, 6), (0, a), (0, b), (0, c)]) (st' := [(2, 6), (0, 0), (2, 7)]) (by decide +kernel) rfl ?_
            refine zwW_gc Ch7.1 (kd := 8) (bn := 1) (n := 2) (c := 8) (nx := 52) (by decide +kernel) ?_
            refine zwW_p [(0, 0, 0), (1, 0, 2)] (q := 54) (ls' := [(2, 6), (0, a), (0, b), (0, c)]) (st' := [(2, 6), (0, 0), (2, 8), (0, 0), (2, 7)]) (by decide +kernel) rfl ?_
            refine zwW_gc Ch7.1 (kd := 8) (bn := 0) (n := 2) (c := 7) (nx := 57) (by decide +kernel) ?_
            refine zwW_len (kd := 20) (n := 64) (nx := 58) (by decide +kernel) (Ch7.1.s (a1 := 7) (a2 := 7) (by decide +kernel) (by omega) (by omega)) rfl ?_
            refine zwX_copy Ch7 (A := 7) (B := 8) (n := 64) (nx := 61) (by decide +kernel) (by decide +kernel) (by decide +kernel) (Ch7.1.s (a1 := 7) (a2 := 7) (by decide +kernel) (by decide) (by decide)) (Ch7.1.s (a1 := 8) (a2 := 8) (by decide +kernel) (by decide) (by decide)) (by decide) rfl ?_
            rintro h8 Ch8 Qh8 fh8 oh8
            have C58 := fh8
            have O58 := oh8
            have Xh8 : zXR msx103 (0) (0) h h8 := Xh7.tr (c2 := 0) (s2 := 0) Qh8 (by decide +kernel) (by decide) (by decide)
            have L61 : zLd h8 := fun p q hp hq => by have := L42 p q hp hq; unfold zLa at this ⊢; rw [O58 7 (by decide)]; exact this
            have Q61 : ∀ p q : Nat, p < 8 → q < 8 → zLe h8 p q = zLa h8 p q := fun p q hp hq => (C58 (8 * p + q) (by omega)).trans (congrFun (O58 7 (by decide)) (8 * p + q)).symm
            refine zwW_p [(1, 0, 2)] (q := 62) (ls' := [(2, 6), (0, a), (0, b), (0, c)]) (st' := [(2, 6)]) (by decide +kernel) rfl ?_
            refine zwW_cmv Ch8.1 (op := 60) (k' := 183) (n := 0) (kd := 8) (m := 2) (nx := 65) (r := 6) (tl := []) (st' := []) (by decide +kernel) rfl (by decide +kernel) rfl (x183 h8 Ch8 L61 Q61) ?_
            rintro h10 ⟨Ch10, Qh10, f9⟩
            have Xh10 : zXR msx103 (0) (0) h h10 := Xh8.tr (c2 := 0) (s2 := 0) Qh10 (by decide +kernel) (by decide) (by decide)
            have Z62 : ∀ p q : Nat, p < 8 → q < 8 → zLa h10 p q = zLa h8 p q := fun p q hp hq => Qh10.f (a1 := 7) (a2 := 7) (j1 := 0) (j2 := 64) (by decide +kernel) (r := 7) ⟨by decide, by decide⟩ ⟨Nat.zero_le _, by omega⟩ ⟨by decide, by decide⟩
            refine zwW_retv (nx := 66) (a := 0) (b := 0) (by decide +kernel) ?_
            exact ⟨Ch10, Xh10.le (by decide) (by decide), by first | omega | exact ⟨fun p q hp hq => by rw [Z62 p q hp hq]; exact L61 p q hp hq, zFw.cg f9 Z62, fun p q hp hq => (Z62 p q hp hq).trans ((congrFun (O58 7 (by decide)) _).trans (F42 p q hp hq))⟩⟩
      · refine zwif_eq (q := 65) (nx := 14) (by decide +kernel) (fun c11 => ?_) (fun c11 => ?_)
        · refine zwW_retv (nx := 66) (a := 0) (b := 0) (by decide +kernel) ?_
          exact ⟨C, X.le (by decide) (by decide), by first | omega | exact ⟨fun p q hp hq => by rw [Z62 p q hp hq]; exact L61 p q hp hq, zFw.cg {F0} Z62, fun p q hp hq => (Z62 p q hp hq).trans ((congrFun (O58 7 (by decide)) _).trans (F42 p q hp hq))⟩⟩
        · exfalso; omega
  · refine zwif_eq (q := 65) (nx := 7) (by decide +kernel) (fun c12 => ?_) (fun c12 => ?_)
    · refine zwW_retv (nx := 66) (a := 0) (b := 0) (by decide +kernel) ?_
      exact ⟨C, X.le (by decide) (by decide), by first | omega | exact ⟨fun p q hp hq => by rw [Z62 p q hp hq]; exact L61 p q hp hq, zFw.cg {F0} Z62, fun p q hp hq => (Z62 p q hp hq).trans ((congrFun (O58 7 (by decide)) _).trans (F42 p q hp hq))⟩⟩
    · exfalso; omega
