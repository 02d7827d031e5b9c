/-! contracts of the class -/
-- WheelLand$Reader.hasRoomFor(I)Z
theorem x117 {sc : List Int} (h : Hp) (C : CI h) (a : Int) (q_a : -2147483648 ≤ a ∧ a ≤ 2147483647) : zwC sc 1 117 [(2, 9), (0, a)] h (zwRt 0 (fun x g => h = g ∧ ((x = 1 ∧ (0 ≤ 1)) ∨ (x = 0 ∧ (0 ≤ 1))))) := by
  refine zwC_of (D := 0) 2 (by decide +kernel) rfl (ls := [(2, 9), (0, a)]) rfl ?_
  refine zwW_p [(1, 0, 2)] (q := 1) (ls' := [(2, 9), (0, a)]) (st' := [(2, 9)]) (by decide +kernel) rfl ?_
  refine zwW_gs C.1 (kd := 7) (bn := 0) (n := 9) (t := 0) (lo := 0) (hi := 400) (nx := 4) (by decide +kernel) ?_
  intro v1 ev1 lv1 uv1
  refine zwW_p [(1, 1, 0)] (q := 5) (ls' := [(2, 9), (0, a)]) (st' := [(0, a), (0, v1)]) (by decide +kernel) rfl ?_
  refine zwW_adw (nx := 6) (by decide +kernel) ?_
  intro v2 ev2 lv2 uv2
  refine zwW_p [(1, 0, 2)] (q := 7) (ls' := [(2, 9), (0, a)]) (st' := [(2, 9), (0, v2)]) (by decide +kernel) rfl ?_
  refine zwW_gc C.1 (kd := 7) (bn := 1) (n := 9) (c := 10) (nx := 10) (by decide +kernel) ?_
  refine zwW_len (kd := 20) (n := 400) (nx := 11) (by decide +kernel) (C.1.s (a1 := 10) (a2 := 10) (by decide +kernel) (by omega) (by omega)) rfl ?_
  refine zwic_gt (q := 18) (nx := 14) (by decide +kernel) (fun c3 => ?_) (fun c3 => ?_)
  · refine zwW_p [(0, 0, 0)] (q := 19) (ls' := [(2, 9), (0, a)]) (st' := [(0, 0)]) (by decide +kernel) rfl ?_
    refine zwW_ret (nx := 20) (a := 1) (b := 0) (by decide +kernel) rfl (Or.inr (Or.inl ⟨rfl, by omega⟩)) ?_
    exact ⟨rfl, Or.inr ⟨rfl, by omega⟩⟩
  · refine zwW_p [(0, 1, 0), (24, 19, 0)] (q := 19) (ls' := [(2, 9), (0, a)]) (st' := [(0, 1)]) (by decide +kernel) rfl ?_
    refine zwW_ret (nx := 20) (a := 1) (b := 0) (by decide +kernel) rfl (Or.inr (Or.inl ⟨rfl, by omega⟩)) ?_
    exact ⟨rfl, Or.inl ⟨rfl, by omega⟩⟩
def msx118 : Zms := [(9, 9, 0, 1), (10, 10, 0, 400)]
-- WheelLand$Reader.append(I)V
theorem x118 {sc : List Int} (h : Hp) (C : CI h) (a : Int) (q_a : -2147483648 ≤ a ∧ a ≤ 2147483647) : zwC sc 1 118 [(2, 9), (0, a)] h (zwRv (fun g => CI g ∧ zXR msx118 (0) (0) h g)) := by
  refine zwC_of (D := 0) 3 (by decide +kernel) rfl (ls := [(2, 9), (0, a), (9, 0)]) rfl ?_
  have X : zXR msx118 0 0 h h := zXR.rf _ _
  refine zwW_p [(0, 24, 0), (2, 2, 0)] (q := 3) (ls' := [(2, 9), (0, a), (0, 24)]) (st' := []) (by decide +kernel) rfl ?_
  have L1 : ∀ (n : Nat) (vL1 : Int) (hL1 : Hp), n = ((vL1 + 8)).toNat → (-8 ≤ vL1 ∧ vL1 ≤ 24) → CI hL1 → zXR msx118 (0) (0) h hL1 → zwW sc (0) 118 3 [(2, 9), (0, a), (0, vL1)] [] hL1 (zwRv (fun g => CI g ∧ zXR msx118 (0) (0) h g)) := by
    intro n
    induction n using Nat.strongRecOn with
    | ind n IHL1 =>
      intro vL1 hL1 hnL1 iL1_0 ChL1 XhL1
      refine zwW_p [(1, 2, 0)] (q := 4) (ls' := [(2, 9), (0, a), (0, vL1)]) (st' := [(0, vL1)]) (by decide +kernel) rfl ?_
      refine zwif_lt (q := 51) (nx := 7) (by decide +kernel) (fun c2 => ?_) (fun c2 => ?_)
      · refine zwW_retv (nx := 52) (a := 0) (b := 0) (by decide +kernel) ?_
        exact ⟨ChL1, XhL1.le (by decide) (by decide)⟩
      · refine zwW_p [(1, 0, 2)] (q := 8) (ls' := [(2, 9), (0, a), (0, vL1)]) (st' := [(2, 9)]) (by decide +kernel) rfl ?_
        refine zwW_gs ChL1.1 (kd := 7) (bn := 0) (n := 9) (t := 0) (lo := 0) (hi := 400) (nx := 11) (by decide +kernel) ?_
        intro v3 ev3 lv3 uv3
        refine zwW_p [(1, 0, 2)] (q := 12) (ls' := [(2, 9), (0, a), (0, vL1)]) (st' := [(2, 9), (0, v3)]) (by decide +kernel) rfl ?_
        refine zwW_gc ChL1.1 (kd := 7) (bn := 1) (n := 9) (c := 10) (nx := 15) (by decide +kernel) ?_
        refine zwW_len (kd := 20) (n := 400) (nx := 16) (by decide +kernel) (ChL1.1.s (a1 := 10) (a2 := 10) (by decide +kernel) (by omega) (by omega)) rfl ?_
        refine zwic_ge (q := 51) (nx := 19) (by decide +kernel) (fun c4 => ?_) (fun c4 => ?_)
        · refine zwW_retv (nx := 52) (a := 0) (b := 0) (by decide +kernel) ?_
          exact ⟨ChL1, XhL1.le (by decide) (by decide)⟩
        · refine zwW_p [(1, 0, 2)] (q := 20) (ls' := [(2, 9), (0, a), (0, vL1)]) (st' := [(2, 9)]) (by decide +kernel) rfl ?_
          refine zwW_gc ChL1.1 (kd := 7) (bn := 1) (n := 9) (c := 10) (nx := 23) (by decide +kernel) ?_
          refine zwW_p [(1, 0, 2)] (q := 24) (ls' := [(2, 9), (0, a), (0, vL1)]) (st' := [(2, 9), (2, 10)]) (by decide +kernel) rfl ?_
          refine zwW_gs ChL1.1 (kd := 7) (bn := 0) (n := 9) (t := 0) (lo := 0) (hi := 400) (nx := 27) (by decide +kernel) ?_
          intro v5 ev5 lv5 uv5
          refine zwW_p [(1, 1, 0), (1, 2, 0)] (q := 29) (ls' := [(2, 9), (0, a), (0, vL1)]) (st' := [(0, vL1), (0, a), (0, v5), (2, 10)]) (by decide +kernel) rfl ?_
          refine zwW_any2 (a := 10) (nx := 30) (by decide +kernel) rfl ⟨by omega, by omega⟩ (Or.inr ⟨by decide, by decide⟩) ?_
          intro v6 lv6 uv6
          refine zwW_p [(0, 255, 0)] (q := 33) (ls' := [(2, 9), (0, a), (0, vL1)]) (st' := [(0, 255), (0, v6), (0, v5), (2, 10)]) (by decide +kernel) rfl ?_
          refine zwW_any2 (a := 5) (nx := 34) (by decide +kernel) rfl ⟨by omega, by omega⟩ (Or.inr ⟨by decide, by decide⟩) ?_
          intro v7 lv7 uv7
          refine zwW_as ChL1.1 (a1 := 10) (a2 := 10) (n := 400) (lo := -2147483648) (hi := 2147483647) (nx := 35) (by decide +kernel) ⟨by decide, by decide⟩ ⟨by omega, by omega⟩ ⟨by omega, by omega⟩ ?_
          intro h8 eh8 Ih8
          have Ch8 : CI h8 := ChL1.wc eh8 Ih8 (by decide) (by decide)
          have Qh8 : zXR [(10, 10, 0, 400)] 0 0 hL1 h8 := zXR.wc eh8 rfl ⟨by decide, by decide, Or.inl (by decide)⟩ ⟨by omega, by omega⟩
          have Xh8 : zXR msx118 (0) (0) h h8 := XhL1.tr (c2 := 0) (s2 := 0) Qh8 (by decide +kernel) (by decide) (by decide)
          have th8_9_0 : fld h8 9 0 = fld hL1 9 0 := Qh8.f (a1 := 9) (a2 := 9) (j1 := 0) (j2 := 1) (by decide +kernel) ⟨by decide, by decide⟩ ⟨by decide, by decide⟩ ⟨by decide, by decide⟩
          refine zwW_p [(1, 0, 2), (12, 0, 0)] (q := 37) (ls' := [(2, 9), (0, a), (0, vL1)]) (st' := [(2, 9), (2, 9)]) (by decide +kernel) rfl ?_
          refine zwW_gs Ch8.1 (kd := 7) (bn := 0) (n := 9) (t := 0) (lo := 0) (hi := 400) (nx := 40) (by decide +kernel) ?_
          intro v9 ev9 lv9 uv9
          refine zwW_p [(0, 1, 0)] (q := 41) (ls' := [(2, 9), (0, a), (0, vL1)]) (st' := [(0, 1), (0, v9), (2, 9)]) (by decide +kernel) rfl ?_
          refine zwW_add (nx := 42) (by decide +kernel) ⟨by omega, by omega⟩ ?_
          refine zwW_ps Ch8.1 (kd := 7) (bn := 0) (n := 9) (lo := 0) (hi := 400) (nx := 45) (by decide +kernel) ⟨by omega, by omega⟩ ?_
          intro h10 eh10 Ih10
          have Ch10 : CI h10 := Ch8.wc eh10 Ih10 (by decide) (by decide)
          have Qh10 : zXR [(9, 9, 0, 1)] 0 0 h8 h10 := zXR.wc eh10 rfl ⟨by decide, by decide, Or.inl (by decide)⟩ ⟨by decide, by decide⟩
          have Xh10 : zXR msx118 (0) (0) h h10 := Xh8.tr (c2 := 0) (s2 := 0) Qh10 (by decide +kernel) (by decide) (by decide)
          have th10_9_0 : fld h10 9 0 = (v9 + 1) := by rw [eh10]; exact fld_wr_eq (Ch8.1.s (a1 := 9) (a2 := 9) (k := 7) (n := 9) (by decide +kernel) (by decide) (by decide)) (by decide)
          refine zwW_inc (i := 2) (c := -8) (x := vL1) (nx := 48) (by decide +kernel) rfl ⟨by omega, by omega⟩ (ls' := [(2, 9), (0, a), (0, (vL1 + (-8)))]) rfl ?_
          refine zwW_p [(24, 3, 0)] (q := 3) (ls' := [(2, 9), (0, a), (0, (vL1 + (-8)))]) (st' := []) (by decide +kernel) rfl ?_
          exact IHL1 (((vL1 + (-8)) + 8)).toNat (by omega) (vL1 + (-8)) h10 rfl (by omega) Ch10 (Xh10.le (by decide) (by decide))
  exact L1 _ 24 h rfl (by omega) C (X.le (by decide) (by decide))
-- WheelLand$Reader.isLetter(I)Z
theorem x236 {sc : List Int} (h : Hp) (C : CI h) (a : Int) (q_a : -2147483648 ≤ a ∧ a ≤ 2147483647) (p1 : 0 ≤ a) : zwC sc 1 236 [(2, 9), (0, a)] h (zwRt 0 (fun x g => h = g ∧ ((x = 1 ∧ (0 ≤ 1)) ∨ (x = 0 ∧ (0 ≤ 1))))) := by
  refine zwC_of (D := 0) 2 (by decide +kernel) rfl (ls := [(2, 9), (0, a)]) rfl ?_
  refine zwW_p [(1, 1, 0), (1, 0, 2)] (q := 2) (ls' := [(2, 9), (0, a)]) (st' := [(2, 9), (0, a)]) (by decide +kernel) rfl ?_
  refine zwW_gs C.1 (kd := 7) (bn := 0) (n := 9) (t := 0) (lo := 0) (hi := 400) (nx := 5) (by decide +kernel) ?_
  intro v1 ev1 lv1 uv1
  refine zwic_ge (q := 34) (nx := 8) (by decide +kernel) (fun c2 => ?_) (fun c2 => ?_)
  · refine zwW_p [(0, 0, 0)] (q := 35) (ls' := [(2, 9), (0, a)]) (st' := [(0, 0)]) (by decide +kernel) rfl ?_
    refine zwW_ret (nx := 36) (a := 1) (b := 0) (by decide +kernel) rfl (Or.inr (Or.inl ⟨rfl, by omega⟩)) ?_
    exact ⟨rfl, Or.inr ⟨rfl, by omega⟩⟩
  · refine zwW_p [(1, 0, 2)] (q := 9) (ls' := [(2, 9), (0, a)]) (st' := [(2, 9)]) (by decide +kernel) rfl ?_
    refine zwW_gc C.1 (kd := 7) (bn := 1) (n := 9) (c := 10) (nx := 12) (by decide +kernel) ?_
    refine zwW_p [(1, 1, 0)] (q := 13) (ls' := [(2, 9), (0, a)]) (st' := [(0, a), (2, 10)]) (by decide +kernel) rfl ?_
    refine zwW_al C.1 (a1 := 10) (a2 := 10) (kd := 20) (n := 400) (t := 0) (lo := -2147483648) (hi := 2147483647) (nx := 14) (by decide +kernel) ⟨by decide, by decide⟩ ⟨by omega, by omega⟩ ?_
    intro v3 ev3 lv3 uv3
    refine zwW_p [(0, 97, 0)] (q := 16) (ls' := [(2, 9), (0, a)]) (st' := [(0, 97), (0, v3)]) (by decide +kernel) rfl ?_
    refine zwic_lt (q := 34) (nx := 19) (by decide +kernel) (fun c4 => ?_) (fun c4 => ?_)
    · refine zwW_p [(0, 0, 0)] (q := 35) (ls' := [(2, 9), (0, a)]) (st' := [(0, 0)]) (by decide +kernel) rfl ?_
      refine zwW_ret (nx := 36) (a := 1) (b := 0) (by decide +kernel) rfl (Or.inr (Or.inl ⟨rfl, by omega⟩)) ?_
      exact ⟨rfl, Or.inr ⟨rfl, by omega⟩⟩
    · refine zwW_p [(1, 0, 2)] (q := 20) (ls' := [(2, 9), (0, a)]) (st' := [(2, 9)]) (by decide +kernel) rfl ?_
      refine zwW_gc C.1 (kd := 7) (bn := 1) (n := 9) (c := 10) (nx := 23) (by decide +kernel) ?_
      refine zwW_p [(1, 1, 0)] (q := 24) (ls' := [(2, 9), (0, a)]) (st' := [(0, a), (2, 10)]) (by decide +kernel) rfl ?_
      refine zwW_al C.1 (a1 := 10) (a2 := 10) (kd := 20) (n := 400) (t := 0) (lo := -2147483648) (hi := 2147483647) (nx := 25) (by decide +kernel) ⟨by decide, by decide⟩ ⟨by omega, by omega⟩ ?_
      intro v5 ev5 lv5 uv5
      refine zwW_p [(0, 122, 0)] (q := 27) (ls' := [(2, 9), (0, a)]) (st' := [(0, 122), (0, v5)]) (by decide +kernel) rfl ?_
      refine zwic_gt (q := 34) (nx := 30) (by decide +kernel) (fun c6 => ?_) (fun c6 => ?_)
      · refine zwW_p [(0, 0, 0)] (q := 35) (ls' := [(2, 9), (0, a)]) (st' := [(0, 0)]) (by decide +kernel) rfl ?_
        refine zwW_ret (nx := 36) (a := 1) (b := 0) (by decide +kernel) rfl (Or.inr (Or.inl ⟨rfl, by omega⟩)) ?_
        exact ⟨rfl, Or.inr ⟨rfl, by omega⟩⟩
      · refine zwW_p [(0, 1, 0), (24, 35, 0)] (q := 35) (ls' := [(2, 9), (0, a)]) (st' := [(0, 1)]) (by decide +kernel) rfl ?_
        refine zwW_ret (nx := 36) (a := 1) (b := 0) (by decide +kernel) rfl (Or.inr (Or.inl ⟨rfl, by omega⟩)) ?_
        exact ⟨rfl, Or.inl ⟨rfl, by omega⟩⟩
-- WheelLand$Reader.isDigit(I)Z
theorem x238 {sc : List Int} (h : Hp) (C : CI h) (a : Int) (q_a : -2147483648 ≤ a ∧ a ≤ 2147483647) (p1 : 0 ≤ a) : zwC sc 1 238 [(2, 9), (0, a)] h (zwRt 0 (fun x g => h = g ∧ ((x = 1 ∧ (0 ≤ 1)) ∨ (x = 0 ∧ (0 ≤ 1))))) := by
  refine zwC_of (D := 0) 2 (by decide +kernel) rfl (ls := [(2, 9), (0, a)]) rfl ?_
  refine zwW_p [(1, 1, 0), (1, 0, 2)] (q := 2) (ls' := [(2, 9), (0, a)]) (st' := [(2, 9), (0, a)]) (by decide +kernel) rfl ?_
  refine zwW_gs C.1 (kd := 7) (bn := 0) (n := 9) (t := 0) (lo := 0) (hi := 400) (nx := 5) (by decide +kernel) ?_
  intro v1 ev1 lv1 uv1
  refine zwic_ge (q := 34) (nx := 8) (by decide +kernel) (fun c2 => ?_) (fun c2 => ?_)
  · refine zwW_p [(0, 0, 0)] (q := 35) (ls' := [(2, 9), (0, a)]) (st' := [(0, 0)]) (by decide +kernel) rfl ?_
    refine zwW_ret (nx := 36) (a := 1) (b := 0) (by decide +kernel) rfl (Or.inr (Or.inl ⟨rfl, by omega⟩)) ?_
    exact ⟨rfl, Or.inr ⟨rfl, by omega⟩⟩
  · refine zwW_p [(1, 0, 2)] (q := 9) (ls' := [(2, 9), (0, a)]) (st' := [(2, 9)]) (by decide +kernel) rfl ?_
    refine zwW_gc C.1 (kd := 7) (bn := 1) (n := 9) (c := 10) (nx := 12) (by decide +kernel) ?_
    refine zwW_p [(1, 1, 0)] (q := 13) (ls' := [(2, 9), (0, a)]) (st' := [(0, a), (2, 10)]) (by decide +kernel) rfl ?_
    refine zwW_al C.1 (a1 := 10) (a2 := 10) (kd := 20) (n := 400) (t := 0) (lo := -2147483648) (hi := 2147483647) (nx := 14) (by decide +kernel) ⟨by decide, by decide⟩ ⟨by omega, by omega⟩ ?_
    intro v3 ev3 lv3 uv3
    refine zwW_p [(0, 48, 0)] (q := 16) (ls' := [(2, 9), (0, a)]) (st' := [(0, 48), (0, v3)]) (by decide +kernel) rfl ?_
    refine zwic_lt (q := 34) (nx := 19) (by decide +kernel) (fun c4 => ?_) (fun c4 => ?_)
    · refine zwW_p [(0, 0, 0)] (q := 35) (ls' := [(2, 9), (0, a)]) (st' := [(0, 0)]) (by decide +kernel) rfl ?_
      refine zwW_ret (nx := 36) (a := 1) (b := 0) (by decide +kernel) rfl (Or.inr (Or.inl ⟨rfl, by omega⟩)) ?_
      exact ⟨rfl, Or.inr ⟨rfl, by omega⟩⟩
    · refine zwW_p [(1, 0, 2)] (q := 20) (ls' := [(2, 9), (0, a)]) (st' := [(2, 9)]) (by decide +kernel) rfl ?_
      refine zwW_gc C.1 (kd := 7) (bn := 1) (n := 9) (c := 10) (nx := 23) (by decide +kernel) ?_
      refine zwW_p [(1, 1, 0)] (q := 24) (ls' := [(2, 9), (0, a)]) (st' := [(0, a), (2, 10)]) (by decide +kernel) rfl ?_
      refine zwW_al C.1 (a1 := 10) (a2 := 10) (kd := 20) (n := 400) (t := 0) (lo := -2147483648) (hi := 2147483647) (nx := 25) (by decide +kernel) ⟨by decide, by decide⟩ ⟨by omega, by omega⟩ ?_
      intro v5 ev5 lv5 uv5
      refine zwW_p [(0, 57, 0)] (q := 27) (ls' := [(2, 9), (0, a)]) (st' := [(0, 57), (0, v5)]) (by decide +kernel) rfl ?_
      refine zwic_gt (q := 34) (nx := 30) (by decide +kernel) (fun c6 => ?_) (fun c6 => ?_)
      · refine zwW_p [(0, 0, 0)] (q := 35) (ls' := [(2, 9), (0, a)]) (st' := [(0, 0)]) (by decide +kernel) rfl ?_
        refine zwW_ret (nx := 36) (a := 1) (b := 0) (by decide +kernel) rfl (Or.inr (Or.inl ⟨rfl, by omega⟩)) ?_
        exact ⟨rfl, Or.inr ⟨rfl, by omega⟩⟩
      · refine zwW_p [(0, 1, 0), (24, 35, 0)] (q := 35) (ls' := [(2, 9), (0, a)]) (st' := [(0, 1)]) (by decide +kernel) rfl ?_
        refine zwW_ret (nx := 36) (a := 1) (b := 0) (by decide +kernel) rfl (Or.inr (Or.inl ⟨rfl, by omega⟩)) ?_
        exact ⟨rfl, Or.inl ⟨rfl, by omega⟩⟩
-- WheelLand$Reader.isSpelled(III)Z
theorem x276 {sc : List Int} (h : Hp) (C : CI h) (a b c : Int) (q_a : -2147483648 ≤ a ∧ a ≤ 2147483647) (q_b : -2147483648 ≤ b ∧ b ≤ 2147483647) (q_c : -2147483648 ≤ c ∧ c ≤ 2147483647) (p1 : 0 ≤ a ∧ a ≤ 200) (p2 : 0 ≤ b ∧ b ≤ 400) : zwC sc 5 276 [(2, 9), (0, a), (0, b), (0, c)] h (zwRt 0 (fun x g => h = g ∧ ((x = 1 ∧ (0 ≤ 1)) ∨ (x = 0 ∧ (0 ≤ 1))))) := by
  refine zwC_of (D := 4) 5 (by decide +kernel) rfl (ls := [(2, 9), (0, a), (0, b), (0, c), (9, 0)]) rfl ?_
  refine zwW_p [(0, 0, 0), (2, 4, 0)] (q := 3) (ls' := [(2, 9), (0, a), (0, b), (0, c), (0, 0)]) (st' := []) (by decide +kernel) rfl ?_
  have L1 : ∀ (n : Nat) (v4L1 : Int), n = ((1000 - v4L1)).toNat → (0 ≤ v4L1 ∧ v4L1 ≤ 1000) → zwW sc (4) 276 3 [(2, 9), (0, a), (0, b), (0, c), (0, v4L1)] [] h (zwRt 0 (fun x g => h = g ∧ ((x = 1 ∧ (0 ≤ 1)) ∨ (x = 0 ∧ (0 ≤ 1))))) := by
    intro n
    induction n using Nat.strongRecOn with
    | ind n IHL1 =>
      intro v4L1 hnL1 iL1_0
      refine zwW_p [(1, 4, 0), (1, 3, 0)] (q := 6) (ls' := [(2, 9), (0, a), (0, b), (0, c), (0, v4L1)]) (st' := [(0, c), (0, v4L1)]) (by decide +kernel) rfl ?_
      refine zwic_ge (q := 61) (nx := 9) (by decide +kernel) (fun c2 => ?_) (fun c2 => ?_)
      · refine zwW_p [(0, 1, 0)] (q := 62) (ls' := [(2, 9), (0, a), (0, b), (0, c), (0, v4L1)]) (st' := [(0, 1)]) (by decide +kernel) rfl ?_
        refine zwW_ret (nx := 63) (a := 1) (b := 0) (by decide +kernel) rfl (Or.inr (Or.inl ⟨rfl, by omega⟩)) ?_
        exact ⟨rfl, Or.inl ⟨rfl, by omega⟩⟩
      · refine zwW_p [(1, 1, 0), (1, 4, 0)] (q := 12) (ls' := [(2, 9), (0, a), (0, b), (0, c), (0, v4L1)]) (st' := [(0, v4L1), (0, a)]) (by decide +kernel) rfl ?_
        refine zwW_add (nx := 13) (by decide +kernel) ⟨by omega, by omega⟩ ?_
        refine zwW_p [(0, -10, 2)] (q := 15) (ls' := [(2, 9), (0, a), (0, b), (0, c), (0, v4L1)]) (st' := [(2, -10), (0, (a + v4L1))]) (by decide +kernel) rfl ?_
        refine zwW_cst (op := 60) (k' := 265) (n := 0) (nx := 18) (w := -10) (tl := []) (st' := [(0, (a + v4L1))]) (by decide +kernel) rfl (by decide +kernel) ⟨by omega, by omega⟩ rfl (m265 h (-10) (by omega)) ?_
        rintro v3 _ ⟨rfl, f4, f5, f6⟩
        refine zwic_ge (q := 53) (nx := 21) (by decide +kernel) (fun c7 => ?_) (fun c7 => ?_)
        · refine zwW_p [(0, 0, 0)] (q := 54) (ls' := [(2, 9), (0, a), (0, b), (0, c), (0, v4L1)]) (st' := [(0, 0)]) (by decide +kernel) rfl ?_
          refine zwW_ret (nx := 55) (a := 1) (b := 0) (by decide +kernel) rfl (Or.inr (Or.inl ⟨rfl, by omega⟩)) ?_
          exact ⟨rfl, Or.inr ⟨rfl, by omega⟩⟩
        · refine zwW_p [(1, 2, 0), (1, 4, 0)] (q := 24) (ls' := [(2, 9), (0, a), (0, b), (0, c), (0, v4L1)]) (st' := [(0, v4L1), (0, b)]) (by decide +kernel) rfl ?_
          refine zwW_add (nx := 25) (by decide +kernel) ⟨by omega, by omega⟩ ?_
          refine zwW_p [(1, 0, 2)] (q := 26) (ls' := [(2, 9), (0, a), (0, b), (0, c), (0, v4L1)]) (st' := [(2, 9), (0, (b + v4L1))]) (by decide +kernel) rfl ?_
          refine zwW_gs C.1 (kd := 7) (bn := 0) (n := 9) (t := 0) (lo := 0) (hi := 400) (nx := 29) (by decide +kernel) ?_
          intro v8 ev8 lv8 uv8
          refine zwic_ge (q := 53) (nx := 32) (by decide +kernel) (fun c9 => ?_) (fun c9 => ?_)
          · refine zwW_p [(0, 0, 0)] (q := 54) (ls' := [(2, 9), (0, a), (0, b), (0, c), (0, v4L1)]) (st' := [(0, 0)]) (by decide +kernel) rfl ?_
            refine zwW_ret (nx := 55) (a := 1) (b := 0) (by decide +kernel) rfl (Or.inr (Or.inl ⟨rfl, by omega⟩)) ?_
            exact ⟨rfl, Or.inr ⟨rfl, by omega⟩⟩
          · refine zwW_p [(0, -10, 2), (1, 1, 0), (1, 4, 0)] (q := 37) (ls' := [(2, 9), (0, a), (0, b), (0, c), (0, v4L1)]) (st' := [(0, v4L1), (0, a), (2, -10)]) (by decide +kernel) rfl ?_
            refine zwW_add (nx := 38) (by decide +kernel) ⟨by omega, by omega⟩ ?_
            refine zwW_cst (op := 60) (k' := 266) (n := 1) (nx := 41) (w := -10) (tl := [(0, (a + v4L1))]) (st' := []) (by decide +kernel) rfl (by decide +kernel) ⟨by omega, by omega⟩ rfl (m266 h (-10) (a + v4L1) (by omega) (by omega) (by omega) (by omega)) ?_
            rintro v10 _ ⟨rfl, f11, f12, f13⟩
            refine zwW_p [(1, 0, 2)] (q := 42) (ls' := [(2, 9), (0, a), (0, b), (0, c), (0, v4L1)]) (st' := [(2, 9), (0, v10)]) (by decide +kernel) rfl ?_
            refine zwW_gc C.1 (kd := 7) (bn := 1) (n := 9) (c := 10) (nx := 45) (by decide +kernel) ?_
            refine zwW_p [(1, 2, 0), (1, 4, 0)] (q := 48) (ls' := [(2, 9), (0, a), (0, b), (0, c), (0, v4L1)]) (st' := [(0, v4L1), (0, b), (2, 10), (0, v10)]) (by decide +kernel) rfl ?_
            refine zwW_add (nx := 49) (by decide +kernel) ⟨by omega, by omega⟩ ?_
            refine zwW_al C.1 (a1 := 10) (a2 := 10) (kd := 20) (n := 400) (t := 0) (lo := -2147483648) (hi := 2147483647) (nx := 50) (by decide +kernel) ⟨by decide, by decide⟩ ⟨by omega, by omega⟩ ?_
            intro v14 ev14 lv14 uv14
            refine zwic_eq (q := 55) (nx := 53) (by decide +kernel) (fun c15 => ?_) (fun c15 => ?_)
            · refine zwW_inc (i := 4) (c := 1) (x := v4L1) (nx := 58) (by decide +kernel) rfl ⟨by omega, by omega⟩ (ls' := [(2, 9), (0, a), (0, b), (0, c), (0, (v4L1 + 1))]) rfl ?_
              refine zwW_p [(24, 3, 0)] (q := 3) (ls' := [(2, 9), (0, a), (0, b), (0, c), (0, (v4L1 + 1))]) (st' := []) (by decide +kernel) rfl ?_
              exact IHL1 ((1000 - (v4L1 + 1))).toNat (by omega) (v4L1 + 1) rfl (by omega)
            · refine zwW_p [(0, 0, 0)] (q := 54) (ls' := [(2, 9), (0, a), (0, b), (0, c), (0, v4L1)]) (st' := [(0, 0)]) (by decide +kernel) rfl ?_
              refine zwW_ret (nx := 55) (a := 1) (b := 0) (by decide +kernel) rfl (Or.inr (Or.inl ⟨rfl, by omega⟩)) ?_
              exact ⟨rfl, Or.inr ⟨rfl, by omega⟩⟩
  exact L1 _ 0 rfl (by omega)
-- WheelLand$Reader.wordAt(II)I
theorem x260 {sc : List Int} (h : Hp) (C : CI h) (a b : Int) (q_a : -2147483648 ≤ a ∧ a ≤ 2147483647) (q_b : -2147483648 ≤ b ∧ b ≤ 2147483647) (p2 : 0 ≤ a ∧ a ≤ 400) : zwC sc 6 260 [(2, 9), (0, a), (0, b)] h (zwRt 0 (fun x g => h = g ∧ (-2147483648 ≤ x ∧ x ≤ 2147483647))) := by
  refine zwC_of (D := 5) 6 (by decide +kernel) rfl (ls := [(2, 9), (0, a), (0, b), (9, 0), (9, 0), (9, 0)]) rfl ?_
  refine zwW_p [(0, 0, 0), (2, 3, 0), (0, 0, 0), (2, 4, 0), (0, 0, 0), (2, 5, 0)] (q := 8) (ls' := [(2, 9), (0, a), (0, b), (0, 0), (0, 0), (0, 0)]) (st' := []) (by decide +kernel) rfl ?_
  have L1 : ∀ (n : Nat) (wL1 sL1 kL1 : Int), n = ((1000 - kL1)).toNat → (wL1 ≤ kL1 ∧ sL1 ≤ kL1 + 1) → (0 ≤ wL1 ∧ wL1 ≤ 1000) → (0 ≤ sL1 ∧ sL1 ≤ 200) → (0 ≤ kL1 ∧ kL1 ≤ 200) → zwW sc (5) 260 8 [(2, 9), (0, a), (0, b), (0, wL1), (0, sL1), (0, kL1)] [] h (zwRt 0 (fun x g => h = g ∧ (-2147483648 ≤ x ∧ x ≤ 2147483647))) := by
    intro n
    induction n using Nat.strongRecOn with
    | ind n IHL1 =>
      intro wL1 sL1 kL1 hnL1 iL1_0 iL1_1 iL1_2 iL1_3
      refine zwW_p [(1, 5, 0), (0, -10, 2)] (q := 12) (ls' := [(2, 9), (0, a), (0, b), (0, wL1), (0, sL1), (0, kL1)]) (st' := [(2, -10), (0, kL1)]) (by decide +kernel) rfl ?_
      refine zwW_cst (op := 60) (k' := 265) (n := 0) (nx := 15) (w := -10) (tl := []) (st' := [(0, kL1)]) (by decide +kernel) rfl (by decide +kernel) ⟨by omega, by omega⟩ rfl (m265 h (-10) (by omega)) ?_
      rintro v2 _ ⟨rfl, f3, f4, f5⟩
      refine zwic_ge (q := 67) (nx := 18) (by decide +kernel) (fun c6 => ?_) (fun c6 => ?_)
      · refine zwW_p [(0, -1, 0)] (q := 68) (ls' := [(2, 9), (0, a), (0, b), (0, wL1), (0, sL1), (0, kL1)]) (st' := [(0, -1)]) (by decide +kernel) rfl ?_
        refine zwW_ret (nx := 69) (a := 0) (b := 0) (by decide +kernel) rfl (Or.inl rfl) ?_
        exact ⟨rfl, by omega⟩
      · refine zwW_p [(0, -10, 2), (1, 5, 0)] (q := 22) (ls' := [(2, 9), (0, a), (0, b), (0, wL1), (0, sL1), (0, kL1)]) (st' := [(0, kL1), (2, -10)]) (by decide +kernel) rfl ?_
        refine zwW_cst (op := 60) (k' := 266) (n := 1) (nx := 25) (w := -10) (tl := [(0, kL1)]) (st' := []) (by decide +kernel) rfl (by decide +kernel) ⟨by omega, by omega⟩ rfl (m266 h (-10) kL1 (by omega) (by omega) (by omega) (by omega)) ?_
        rintro v7 _ ⟨rfl, f8, f9, f10⟩
        refine zwW_p [(0, 32, 0)] (q := 27) (ls' := [(2, 9), (0, a), (0, b), (0, wL1), (0, sL1), (0, kL1)]) (st' := [(0, 32), (0, v7)]) (by decide +kernel) rfl ?_
        refine zwic_ne (q := 61) (nx := 30) (by decide +kernel) (fun c11 => ?_) (fun c11 => ?_)
        · refine zwW_inc (i := 5) (c := 1) (x := kL1) (nx := 64) (by decide +kernel) rfl ⟨by omega, by omega⟩ (ls' := [(2, 9), (0, a), (0, b), (0, wL1), (0, sL1), (0, (kL1 + 1))]) rfl ?_
          refine zwW_p [(24, 8, 0)] (q := 8) (ls' := [(2, 9), (0, a), (0, b), (0, wL1), (0, sL1), (0, (kL1 + 1))]) (st' := []) (by decide +kernel) rfl ?_
          exact IHL1 ((1000 - (kL1 + 1))).toNat (by omega) wL1 sL1 (kL1 + 1) rfl (by omega) (by omega) (by omega) (by omega)
        · refine zwW_p [(1, 5, 0), (1, 4, 0)] (q := 34) (ls' := [(2, 9), (0, a), (0, b), (0, wL1), (0, sL1), (0, kL1)]) (st' := [(0, sL1), (0, kL1)]) (by decide +kernel) rfl ?_
          refine zwW_sub (nx := 35) (by decide +kernel) ⟨by omega, by omega⟩ ?_
          refine zwW_p [(1, 2, 0)] (q := 36) (ls' := [(2, 9), (0, a), (0, b), (0, wL1), (0, sL1), (0, kL1)]) (st' := [(0, b), (0, (kL1 - sL1))]) (by decide +kernel) rfl ?_
          refine zwic_ne (q := 52) (nx := 39) (by decide +kernel) (fun c12 => ?_) (fun c12 => ?_)
          · refine zwW_inc (i := 3) (c := 1) (x := wL1) (nx := 55) (by decide +kernel) rfl ⟨by omega, by omega⟩ (ls' := [(2, 9), (0, a), (0, b), (0, (wL1 + 1)), (0, sL1), (0, kL1)]) rfl ?_
            refine zwW_p [(1, 5, 0), (0, 1, 0)] (q := 58) (ls' := [(2, 9), (0, a), (0, b), (0, (wL1 + 1)), (0, sL1), (0, kL1)]) (st' := [(0, 1), (0, kL1)]) (by decide +kernel) rfl ?_
            refine zwW_add (nx := 59) (by decide +kernel) ⟨by omega, by omega⟩ ?_
            refine zwW_p [(2, 4, 0)] (q := 61) (ls' := [(2, 9), (0, a), (0, b), (0, (wL1 + 1)), (0, (kL1 + 1)), (0, kL1)]) (st' := []) (by decide +kernel) rfl ?_
            refine zwW_inc (i := 5) (c := 1) (x := kL1) (nx := 64) (by decide +kernel) rfl ⟨by omega, by omega⟩ (ls' := [(2, 9), (0, a), (0, b), (0, (wL1 + 1)), (0, (kL1 + 1)), (0, (kL1 + 1))]) rfl ?_
            refine zwW_p [(24, 8, 0)] (q := 8) (ls' := [(2, 9), (0, a), (0, b), (0, (wL1 + 1)), (0, (kL1 + 1)), (0, (kL1 + 1))]) (st' := []) (by decide +kernel) rfl ?_
            exact IHL1 ((1000 - (kL1 + 1))).toNat (by omega) (wL1 + 1) (kL1 + 1) (kL1 + 1) rfl (by omega) (by omega) (by omega) (by omega)
          · refine zwW_p [(1, 0, 2), (1, 4, 0), (1, 1, 0), (1, 2, 0)] (q := 44) (ls' := [(2, 9), (0, a), (0, b), (0, wL1), (0, sL1), (0, kL1)]) (st' := [(0, b), (0, a), (0, sL1), (2, 9)]) (by decide +kernel) rfl ?_
            refine zwW_cm C.1 (op := 60) (k' := 276) (n := 3) (kd := 7) (m := 9) (nx := 47) (r := 9) (tl := [(0, sL1), (0, a), (0, b)]) (st' := []) (by decide +kernel) rfl (by decide +kernel) rfl (x276 h C sL1 a b (by omega) (by omega) (by omega) (by omega) (by omega)) ?_
            rintro x _ ⟨rfl, ⟨rfl, c13⟩ | ⟨rfl, c13⟩⟩
            · refine zwif_eq (q := 52) (nx := 50) (by decide +kernel) (fun c14 => ?_) (fun c14 => ?_)
              · exfalso; omega
              · refine zwW_p [(1, 3, 0)] (q := 51) (ls' := [(2, 9), (0, a), (0, b), (0, wL1), (0, sL1), (0, kL1)]) (st' := [(0, wL1)]) (by decide +kernel) rfl ?_
                refine zwW_ret (nx := 52) (a := 0) (b := 0) (by decide +kernel) rfl (Or.inl rfl) ?_
                exact ⟨rfl, by omega⟩
            · refine zwif_eq (q := 52) (nx := 50) (by decide +kernel) (fun c15 => ?_) (fun c15 => ?_)
              · refine zwW_inc (i := 3) (c := 1) (x := wL1) (nx := 55) (by decide +kernel) rfl ⟨by omega, by omega⟩ (ls' := [(2, 9), (0, a), (0, b), (0, (wL1 + 1)), (0, sL1), (0, kL1)]) rfl ?_
                refine zwW_p [(1, 5, 0), (0, 1, 0)] (q := 58) (ls' := [(2, 9), (0, a), (0, b), (0, (wL1 + 1)), (0, sL1), (0, kL1)]) (st' := [(0, 1), (0, kL1)]) (by decide +kernel) rfl ?_
                refine zwW_add (nx := 59) (by decide +kernel) ⟨by omega, by omega⟩ ?_
                refine zwW_p [(2, 4, 0)] (q := 61) (ls' := [(2, 9), (0, a), (0, b), (0, (wL1 + 1)), (0, (kL1 + 1)), (0, kL1)]) (st' := []) (by decide +kernel) rfl ?_
                refine zwW_inc (i := 5) (c := 1) (x := kL1) (nx := 64) (by decide +kernel) rfl ⟨by omega, by omega⟩ (ls' := [(2, 9), (0, a), (0, b), (0, (wL1 + 1)), (0, (kL1 + 1)), (0, (kL1 + 1))]) rfl ?_
                refine zwW_p [(24, 8, 0)] (q := 8) (ls' := [(2, 9), (0, a), (0, b), (0, (wL1 + 1)), (0, (kL1 + 1)), (0, (kL1 + 1))]) (st' := []) (by decide +kernel) rfl ?_
                exact IHL1 ((1000 - (kL1 + 1))).toNat (by omega) (wL1 + 1) (kL1 + 1) (kL1 + 1) rfl (by omega) (by omega) (by omega) (by omega)
              · exfalso; omega
  exact L1 _ 0 0 0 rfl (by omega) (by omega) (by omega) (by omega)
def msx237 : Zms := [(9, 9, 2, 3), (9, 9, 4, 5), (9, 9, 5, 6)]
-- WheelLand$Reader.takeWord()V
theorem x237 {sc : List Int} (h : Hp) (C : CI h) : zwC sc 7 237 [(2, 9)] h (zwRv (fun g => CI g ∧ zXR msx237 (0) (0) h g)) := by
  refine zwC_of (D := 6) 1 (by decide +kernel) rfl (ls := [(2, 9)]) rfl ?_
  have X : zXR msx237 0 0 h h := zXR.rf _ _
  have L1 : ∀ (n : Nat) (hL1 : Hp), n = ((400 - fld hL1 9 2)).toNat → CI hL1 → zXR msx237 (0) (0) h hL1 → zwW sc (6) 237 0 [(2, 9)] [] hL1 (zwRv (fun g => CI g ∧ zXR msx237 (0) (0) h g)) := by
    intro n
    induction n using Nat.strongRecOn with
    | ind n IHL1 =>
      intro hL1 hnL1 ChL1 XhL1
      refine zwW_p [(1, 0, 2)] (q := 1) (ls' := [(2, 9)]) (st' := [(2, 9)]) (by decide +kernel) rfl ?_
      refine zwW_gs ChL1.1 (kd := 7) (bn := 2) (n := 9) (t := 0) (lo := 0) (hi := 400) (nx := 4) (by decide +kernel) ?_
      intro v2 ev2 lv2 uv2
      refine zwW_p [(1, 0, 2)] (q := 5) (ls' := [(2, 9)]) (st' := [(2, 9), (0, v2)]) (by decide +kernel) rfl ?_
      refine zwW_gs ChL1.1 (kd := 7) (bn := 0) (n := 9) (t := 0) (lo := 0) (hi := 400) (nx := 8) (by decide +kernel) ?_
      intro v3 ev3 lv3 uv3
      refine zwic_ge (q := 35) (nx := 11) (by decide +kernel) (fun c4 => ?_) (fun c4 => ?_)
      · refine zwW_p [(1, 0, 2), (0, 1, 0)] (q := 37) (ls' := [(2, 9)]) (st' := [(0, 1), (2, 9)]) (by decide +kernel) rfl ?_
        refine zwW_ps ChL1.1 (kd := 7) (bn := 4) (n := 9) (lo := -2147483648) (hi := 2147483647) (nx := 40) (by decide +kernel) ⟨by decide, by decide⟩ ?_
        intro h5 eh5 Ih5
        have Ch5 : CI h5 := ChL1.wc eh5 Ih5 (by decide) (by decide)
        have Qh5 : zXR [(9, 9, 4, 5)] 0 0 hL1 h5 := zXR.wc eh5 rfl ⟨by decide, by decide, Or.inl (by decide)⟩ ⟨by decide, by decide⟩
        have Xh5 : zXR msx237 (0) (0) h h5 := XhL1.tr (c2 := 0) (s2 := 0) Qh5 (by decide +kernel) (by decide) (by decide)
        have th5_9_2 : fld h5 9 2 = fld hL1 9 2 := Qh5.f (a1 := 9) (a2 := 9) (j1 := 2) (j2 := 3) (by decide +kernel) ⟨by decide, by decide⟩ ⟨by decide, by decide⟩ ⟨by decide, by decide⟩
        refine zwW_p [(1, 0, 2), (1, 0, 2), (1, 0, 2)] (q := 43) (ls' := [(2, 9)]) (st' := [(2, 9), (2, 9), (2, 9)]) (by decide +kernel) rfl ?_
        refine zwW_gs Ch5.1 (kd := 7) (bn := 3) (n := 9) (t := 0) (lo := 0) (hi := 400) (nx := 46) (by decide +kernel) ?_
        intro v6 ev6 lv6 uv6
        refine zwW_p [(1, 0, 2)] (q := 47) (ls' := [(2, 9)]) (st' := [(2, 9), (0, v6), (2, 9), (2, 9)]) (by decide +kernel) rfl ?_
        refine zwW_gs Ch5.1 (kd := 7) (bn := 2) (n := 9) (t := 0) (lo := 0) (hi := 400) (nx := 50) (by decide +kernel) ?_
        intro v7 ev7 lv7 uv7
        refine zwW_p [(1, 0, 2)] (q := 51) (ls' := [(2, 9)]) (st' := [(2, 9), (0, v7), (0, v6), (2, 9), (2, 9)]) (by decide +kernel) rfl ?_
        refine zwW_gs Ch5.1 (kd := 7) (bn := 3) (n := 9) (t := 0) (lo := 0) (hi := 400) (nx := 54) (by decide +kernel) ?_
        intro v8 ev8 lv8 uv8
        refine zwW_sub (nx := 55) (by decide +kernel) ⟨by omega, by omega⟩ ?_
        refine zwW_cm Ch5.1 (op := 60) (k' := 260) (n := 2) (kd := 7) (m := 9) (nx := 58) (r := 9) (tl := [(0, v6), (0, (v7 - v8))]) (st' := [(2, 9)]) (by decide +kernel) rfl (by decide +kernel) rfl (x260 h5 Ch5 v6 (v7 - v8) (by omega) (by omega) (by omega)) ?_
        rintro v9 _ ⟨rfl, f10⟩
        refine zwW_ps Ch5.1 (kd := 7) (bn := 5) (n := 9) (lo := -2147483648) (hi := 2147483647) (nx := 61) (by decide +kernel) ⟨by omega, by omega⟩ ?_
        intro h11 eh11 Ih11
        have Ch11 : CI h11 := Ch5.wc eh11 Ih11 (by decide) (by decide)
        have Qh11 : zXR [(9, 9, 5, 6)] 0 0 h5 h11 := zXR.wc eh11 rfl ⟨by decide, by decide, Or.inl (by decide)⟩ ⟨by decide, by decide⟩
        have Xh11 : zXR msx237 (0) (0) h h11 := Xh5.tr (c2 := 0) (s2 := 0) Qh11 (by decide +kernel) (by decide) (by decide)
        have th11_9_2 : fld h11 9 2 = fld h5 9 2 := Qh11.f (a1 := 9) (a2 := 9) (j1 := 2) (j2 := 3) (by decide +kernel) ⟨by decide, by decide⟩ ⟨by decide, by decide⟩ ⟨by decide, by decide⟩
        refine zwW_retv (nx := 62) (a := 0) (b := 0) (by decide +kernel) ?_
        exact ⟨Ch11, Xh11.le (by decide) (by decide)⟩
      · refine zwW_p [(1, 0, 2), (1, 0, 2)] (q := 13) (ls' := [(2, 9)]) (st' := [(2, 9), (2, 9)]) (by decide +kernel) rfl ?_
        refine zwW_gs ChL1.1 (kd := 7) (bn := 2) (n := 9) (t := 0) (lo := 0) (hi := 400) (nx := 16) (by decide +kernel) ?_
        intro v12 ev12 lv12 uv12
        refine zwW_cm ChL1.1 (op := 60) (k' := 236) (n := 1) (kd := 7) (m := 9) (nx := 19) (r := 9) (tl := [(0, v12)]) (st' := []) (by decide +kernel) rfl (by decide +kernel) rfl (x236 hL1 ChL1 v12 (by omega) (by omega)) ?_
        rintro x _ ⟨rfl, ⟨rfl, c13⟩ | ⟨rfl, c13⟩⟩
        · refine zwif_eq (q := 35) (nx := 22) (by decide +kernel) (fun c14 => ?_) (fun c14 => ?_)
          · exfalso; omega
          · refine zwW_p [(1, 0, 2), (12, 0, 0)] (q := 24) (ls' := [(2, 9)]) (st' := [(2, 9), (2, 9)]) (by decide +kernel) rfl ?_
            refine zwW_gs ChL1.1 (kd := 7) (bn := 2) (n := 9) (t := 0) (lo := 0) (hi := 400) (nx := 27) (by decide +kernel) ?_
            intro v15 ev15 lv15 uv15
            refine zwW_p [(0, 1, 0)] (q := 28) (ls' := [(2, 9)]) (st' := [(0, 1), (0, v15), (2, 9)]) (by decide +kernel) rfl ?_
            refine zwW_add (nx := 29) (by decide +kernel) ⟨by omega, by omega⟩ ?_
            refine zwW_ps ChL1.1 (kd := 7) (bn := 2) (n := 9) (lo := 0) (hi := 400) (nx := 32) (by decide +kernel) ⟨by omega, by omega⟩ ?_
            intro h16 eh16 Ih16
            have Ch16 : CI h16 := ChL1.wc eh16 Ih16 (by decide) (by decide)
            have Qh16 : zXR [(9, 9, 2, 3)] 0 0 hL1 h16 := zXR.wc eh16 rfl ⟨by decide, by decide, Or.inl (by decide)⟩ ⟨by decide, by decide⟩
            have Xh16 : zXR msx237 (0) (0) h h16 := XhL1.tr (c2 := 0) (s2 := 0) Qh16 (by decide +kernel) (by decide) (by decide)
            have th16_9_2 : fld h16 9 2 = (v15 + 1) := by rw [eh16]; exact fld_wr_eq (ChL1.1.s (a1 := 9) (a2 := 9) (k := 7) (n := 9) (by decide +kernel) (by decide) (by decide)) (by decide)
            refine zwW_p [(24, 0, 0)] (q := 0) (ls' := [(2, 9)]) (st' := []) (by decide +kernel) rfl ?_
            exact IHL1 ((400 - fld h16 9 2)).toNat (by omega) h16 rfl Ch16 (Xh16.le (by decide) (by decide))
        · refine zwif_eq (q := 35) (nx := 22) (by decide +kernel) (fun c17 => ?_) (fun c17 => ?_)
          · refine zwW_p [(1, 0, 2), (0, 1, 0)] (q := 37) (ls' := [(2, 9)]) (st' := [(0, 1), (2, 9)]) (by decide +kernel) rfl ?_
            refine zwW_ps ChL1.1 (kd := 7) (bn := 4) (n := 9) (lo := -2147483648) (hi := 2147483647) (nx := 40) (by decide +kernel) ⟨by decide, by decide⟩ ?_
            intro h18 eh18 Ih18
            have Ch18 : CI h18 := ChL1.wc eh18 Ih18 (by decide) (by decide)
            have Qh18 : zXR [(9, 9, 4, 5)] 0 0 hL1 h18 := zXR.wc eh18 rfl ⟨by decide, by decide, Or.inl (by decide)⟩ ⟨by decide, by decide⟩
            have Xh18 : zXR msx237 (0) (0) h h18 := XhL1.tr (c2 := 0) (s2 := 0) Qh18 (by decide +kernel) (by decide) (by decide)
            have th18_9_2 : fld h18 9 2 = fld hL1 9 2 := Qh18.f (a1 := 9) (a2 := 9) (j1 := 2) (j2 := 3) (by decide +kernel) ⟨by decide, by decide⟩ ⟨by decide, by decide⟩ ⟨by decide, by decide⟩
            refine zwW_p [(1, 0, 2), (1, 0, 2), (1, 0, 2)] (q := 43) (ls' := [(2, 9)]) (st' := [(2, 9), (2, 9), (2, 9)]) (by decide +kernel) rfl ?_
            refine zwW_gs Ch18.1 (kd := 7) (bn := 3) (n := 9) (t := 0) (lo := 0) (hi := 400) (nx := 46) (by decide +kernel) ?_
            intro v19 ev19 lv19 uv19
            refine zwW_p [(1, 0, 2)] (q := 47) (ls' := [(2, 9)]) (st' := [(2, 9), (0, v19), (2, 9), (2, 9)]) (by decide +kernel) rfl ?_
            refine zwW_gs Ch18.1 (kd := 7) (bn := 2) (n := 9) (t := 0) (lo := 0) (hi := 400) (nx := 50) (by decide +kernel) ?_
            intro v20 ev20 lv20 uv20
            refine zwW_p [(1, 0, 2)] (q := 51) (ls' := [(2, 9)]) (st' := [(2, 9), (0, v20), (0, v19), (2, 9), (2, 9)]) (by decide +kernel) rfl ?_
            refine zwW_gs Ch18.1 (kd := 7) (bn := 3) (n := 9) (t := 0) (lo := 0) (hi := 400) (nx := 54) (by decide +kernel) ?_
            intro v21 ev21 lv21 uv21
            refine zwW_sub (nx := 55) (by decide +kernel) ⟨by omega, by omega⟩ ?_
            refine zwW_cm Ch18.1 (op := 60) (k' := 260) (n := 2) (kd := 7) (m := 9) (nx := 58) (r := 9) (tl := [(0, v19), (0, (v20 - v21))]) (st' := [(2, 9)]) (by decide +kernel) rfl (by decide +kernel) rfl (x260 h18 Ch18 v19 (v20 - v21) (by omega) (by omega) (by omega)) ?_
            rintro v22 _ ⟨rfl, f23⟩
            refine zwW_ps Ch18.1 (kd := 7) (bn := 5) (n := 9) (lo := -2147483648) (hi := 2147483647) (nx := 61) (by decide +kernel) ⟨by omega, by omega⟩ ?_
            intro h24 eh24 Ih24
            have Ch24 : CI h24 := Ch18.wc eh24 Ih24 (by decide) (by decide)
            have Qh24 : zXR [(9, 9, 5, 6)] 0 0 h18 h24 := zXR.wc eh24 rfl ⟨by decide, by decide, Or.inl (by decide)⟩ ⟨by decide, by decide⟩
            have Xh24 : zXR msx237 (0) (0) h h24 := Xh18.tr (c2 := 0) (s2 := 0) Qh24 (by decide +kernel) (by decide) (by decide)
            have th24_9_2 : fld h24 9 2 = fld h18 9 2 := Qh24.f (a1 := 9) (a2 := 9) (j1 := 2) (j2 := 3) (by decide +kernel) ⟨by decide, by decide⟩ ⟨by decide, by decide⟩ ⟨by decide, by decide⟩
            refine zwW_retv (nx := 62) (a := 0) (b := 0) (by decide +kernel) ?_
            exact ⟨Ch24, Xh24.le (by decide) (by decide)⟩
          · exfalso; omega
  exact L1 _ h rfl C (X.le (by decide) (by decide))
def msx239 : Zms := [(9, 9, 2, 3), (9, 9, 4, 5), (9, 9, 5, 6)]
-- WheelLand$Reader.takeNumber()V
theorem x239 {sc : List Int} (h : Hp) (C : CI h) : zwC sc 2 239 [(2, 9)] h (zwRv (fun g => CI g ∧ zXR msx239 (0) (0) h g)) := by
  refine zwC_of (D := 1) 1 (by decide +kernel) rfl (ls := [(2, 9)]) rfl ?_
  have X : zXR msx239 0 0 h h := zXR.rf _ _
  refine zwW_p [(1, 0, 2), (0, 2, 0)] (q := 2) (ls' := [(2, 9)]) (st' := [(0, 2), (2, 9)]) (by decide +kernel) rfl ?_
  refine zwW_ps C.1 (kd := 7) (bn := 4) (n := 9) (lo := -2147483648) (hi := 2147483647) (nx := 5) (by decide +kernel) ⟨by decide, by decide⟩ ?_
  intro h1 eh1 Ih1
  have Ch1 : CI h1 := C.wc eh1 Ih1 (by decide) (by decide)
  have Qh1 : zXR [(9, 9, 4, 5)] 0 0 h h1 := zXR.wc eh1 rfl ⟨by decide, by decide, Or.inl (by decide)⟩ ⟨by decide, by decide⟩
  have Xh1 : zXR msx239 (0) (0) h h1 := X.tr (c2 := 0) (s2 := 0) Qh1 (by decide +kernel) (by decide) (by decide)
  have th1_9_2 : fld h1 9 2 = fld h 9 2 := Qh1.f (a1 := 9) (a2 := 9) (j1 := 2) (j2 := 3) (by decide +kernel) ⟨by decide, by decide⟩ ⟨by decide, by decide⟩ ⟨by decide, by decide⟩
  refine zwW_p [(1, 0, 2), (0, 0, 0)] (q := 7) (ls' := [(2, 9)]) (st' := [(0, 0), (2, 9)]) (by decide +kernel) rfl ?_
  refine zwW_ps Ch1.1 (kd := 7) (bn := 5) (n := 9) (lo := -2147483648) (hi := 2147483647) (nx := 10) (by decide +kernel) ⟨by decide, by decide⟩ ?_
  intro h2 eh2 Ih2
  have Ch2 : CI h2 := Ch1.wc eh2 Ih2 (by decide) (by decide)
  have Qh2 : zXR [(9, 9, 5, 6)] 0 0 h1 h2 := zXR.wc eh2 rfl ⟨by decide, by decide, Or.inl (by decide)⟩ ⟨by decide, by decide⟩
  have Xh2 : zXR msx239 (0) (0) h h2 := Xh1.tr (c2 := 0) (s2 := 0) Qh2 (by decide +kernel) (by decide) (by decide)
  have th2_9_2 : fld h2 9 2 = fld h1 9 2 := Qh2.f (a1 := 9) (a2 := 9) (j1 := 2) (j2 := 3) (by decide +kernel) ⟨by decide, by decide⟩ ⟨by decide, by decide⟩ ⟨by decide, by decide⟩
  have L3 : ∀ (n : Nat) (hL3 : Hp), n = ((400 - fld hL3 9 2)).toNat → CI hL3 → zXR msx239 (0) (0) h hL3 → zwW sc (1) 239 10 [(2, 9)] [] hL3 (zwRv (fun g => CI g ∧ zXR msx239 (0) (0) h g)) := by
    intro n
    induction n using Nat.strongRecOn with
    | ind n IHL3 =>
      intro hL3 hnL3 ChL3 XhL3
      refine zwW_p [(1, 0, 2)] (q := 11) (ls' := [(2, 9)]) (st' := [(2, 9)]) (by decide +kernel) rfl ?_
      refine zwW_gs ChL3.1 (kd := 7) (bn := 2) (n := 9) (t := 0) (lo := 0) (hi := 400) (nx := 14) (by decide +kernel) ?_
      intro v4 ev4 lv4 uv4
      refine zwW_p [(1, 0, 2)] (q := 15) (ls' := [(2, 9)]) (st' := [(2, 9), (0, v4)]) (by decide +kernel) rfl ?_
      refine zwW_gs ChL3.1 (kd := 7) (bn := 0) (n := 9) (t := 0) (lo := 0) (hi := 400) (nx := 18) (by decide +kernel) ?_
      intro v5 ev5 lv5 uv5
      refine zwic_ge (q := 75) (nx := 21) (by decide +kernel) (fun c6 => ?_) (fun c6 => ?_)
      · refine zwW_retv (nx := 76) (a := 0) (b := 0) (by decide +kernel) ?_
        exact ⟨ChL3, XhL3.le (by decide) (by decide)⟩
      · refine zwW_p [(1, 0, 2), (1, 0, 2)] (q := 23) (ls' := [(2, 9)]) (st' := [(2, 9), (2, 9)]) (by decide +kernel) rfl ?_
        refine zwW_gs ChL3.1 (kd := 7) (bn := 2) (n := 9) (t := 0) (lo := 0) (hi := 400) (nx := 26) (by decide +kernel) ?_
        intro v7 ev7 lv7 uv7
        refine zwW_cm ChL3.1 (op := 60) (k' := 238) (n := 1) (kd := 7) (m := 9) (nx := 29) (r := 9) (tl := [(0, v7)]) (st' := []) (by decide +kernel) rfl (by decide +kernel) rfl (x238 hL3 ChL3 v7 (by omega) (by omega)) ?_
        rintro x _ ⟨rfl, ⟨rfl, c8⟩ | ⟨rfl, c8⟩⟩
        · refine zwif_eq (q := 75) (nx := 32) (by decide +kernel) (fun c9 => ?_) (fun c9 => ?_)
          · exfalso; omega
          · refine zwW_p [(1, 0, 2), (1, 0, 2)] (q := 34) (ls' := [(2, 9)]) (st' := [(2, 9), (2, 9)]) (by decide +kernel) rfl ?_
            refine zwW_gs ChL3.1 (kd := 7) (bn := 5) (n := 9) (t := 0) (lo := -2147483648) (hi := 2147483647) (nx := 37) (by decide +kernel) ?_
            intro v10 ev10 lv10 uv10
            refine zwW_p [(0, 10, 0)] (q := 39) (ls' := [(2, 9)]) (st' := [(0, 10), (0, v10), (2, 9)]) (by decide +kernel) rfl ?_
            refine zwW_mlw (nx := 40) (by decide +kernel) ?_
            intro v11 ev11 lv11 uv11
            refine zwW_p [(1, 0, 2)] (q := 41) (ls' := [(2, 9)]) (st' := [(2, 9), (0, v11), (2, 9)]) (by decide +kernel) rfl ?_
            refine zwW_gc ChL3.1 (kd := 7) (bn := 1) (n := 9) (c := 10) (nx := 44) (by decide +kernel) ?_
            refine zwW_p [(1, 0, 2)] (q := 45) (ls' := [(2, 9)]) (st' := [(2, 9), (2, 10), (0, v11), (2, 9)]) (by decide +kernel) rfl ?_
            refine zwW_gs ChL3.1 (kd := 7) (bn := 2) (n := 9) (t := 0) (lo := 0) (hi := 400) (nx := 48) (by decide +kernel) ?_
            intro v12 ev12 lv12 uv12
            refine zwW_al ChL3.1 (a1 := 10) (a2 := 10) (kd := 20) (n := 400) (t := 0) (lo := -2147483648) (hi := 2147483647) (nx := 49) (by decide +kernel) ⟨by decide, by decide⟩ ⟨by omega, by omega⟩ ?_
            intro v13 ev13 lv13 uv13
            refine zwW_adw (nx := 50) (by decide +kernel) ?_
            intro v14 ev14 lv14 uv14
            have Ev14 : v14 = w32 ((w32 (v10 * 10)) + v13) := by rw [ev14, ev11]
            refine zwW_p [(0, 48, 0)] (q := 52) (ls' := [(2, 9)]) (st' := [(0, 48), (0, v14), (2, 9)]) (by decide +kernel) rfl ?_
            refine zwW_sbw (nx := 53) (by decide +kernel) ?_
            intro v15 ev15 lv15 uv15
            have Ev15 : v15 = w32 ((w32 ((w32 (v10 * 10)) + v13)) - 48) := by rw [ev15, Ev14]
            refine zwW_p [(0, 10000, 0)] (q := 56) (ls' := [(2, 9)]) (st' := [(0, 10000), (0, v15), (2, 9)]) (by decide +kernel) rfl ?_
            refine zwW_min (nx := 59) (by decide +kernel) rfl ?_
            intro v16 ev16
            refine zwW_ps ChL3.1 (kd := 7) (bn := 5) (n := 9) (lo := -2147483648) (hi := 2147483647) (nx := 62) (by decide +kernel) ⟨by omega, by omega⟩ ?_
            intro h17 eh17 Ih17
            have Ch17 : CI h17 := ChL3.wc eh17 Ih17 (by decide) (by decide)
            have Qh17 : zXR [(9, 9, 5, 6)] 0 0 hL3 h17 := zXR.wc eh17 rfl ⟨by decide, by decide, Or.inl (by decide)⟩ ⟨by decide, by decide⟩
            have Xh17 : zXR msx239 (0) (0) h h17 := XhL3.tr (c2 := 0) (s2 := 0) Qh17 (by decide +kernel) (by decide) (by decide)
            have th17_9_2 : fld h17 9 2 = fld hL3 9 2 := Qh17.f (a1 := 9) (a2 := 9) (j1 := 2) (j2 := 3) (by decide +kernel) ⟨by decide, by decide⟩ ⟨by decide, by decide⟩ ⟨by decide, by decide⟩
            refine zwW_p [(1, 0, 2), (12, 0, 0)] (q := 64) (ls' := [(2, 9)]) (st' := [(2, 9), (2, 9)]) (by decide +kernel) rfl ?_
            refine zwW_gs Ch17.1 (kd := 7) (bn := 2) (n := 9) (t := 0) (lo := 0) (hi := 400) (nx := 67) (by decide +kernel) ?_
            intro v18 ev18 lv18 uv18
            refine zwW_p [(0, 1, 0)] (q := 68) (ls' := [(2, 9)]) (st' := [(0, 1), (0, v18), (2, 9)]) (by decide +kernel) rfl ?_
            refine zwW_add (nx := 69) (by decide +kernel) ⟨by omega, by omega⟩ ?_
            refine zwW_ps Ch17.1 (kd := 7) (bn := 2) (n := 9) (lo := 0) (hi := 400) (nx := 72) (by decide +kernel) ⟨by omega, by omega⟩ ?_
            intro h19 eh19 Ih19
            have Ch19 : CI h19 := Ch17.wc eh19 Ih19 (by decide) (by decide)
            have Qh19 : zXR [(9, 9, 2, 3)] 0 0 h17 h19 := zXR.wc eh19 rfl ⟨by decide, by decide, Or.inl (by decide)⟩ ⟨by decide, by decide⟩
            have Xh19 : zXR msx239 (0) (0) h h19 := Xh17.tr (c2 := 0) (s2 := 0) Qh19 (by decide +kernel) (by decide) (by decide)
            have th19_9_2 : fld h19 9 2 = (v18 + 1) := by rw [eh19]; exact fld_wr_eq (Ch17.1.s (a1 := 9) (a2 := 9) (k := 7) (n := 9) (by decide +kernel) (by decide) (by decide)) (by decide)
            refine zwW_p [(24, 10, 0)] (q := 10) (ls' := [(2, 9)]) (st' := []) (by decide +kernel) rfl ?_
            exact IHL3 ((400 - fld h19 9 2)).toNat (by omega) h19 rfl Ch19 (Xh19.le (by decide) (by decide))
        · refine zwif_eq (q := 75) (nx := 32) (by decide +kernel) (fun c20 => ?_) (fun c20 => ?_)
          · refine zwW_retv (nx := 76) (a := 0) (b := 0) (by decide +kernel) ?_
            exact ⟨ChL3, XhL3.le (by decide) (by decide)⟩
          · exfalso; omega
  exact L3 _ h2 rfl Ch2 (Xh2.le (by decide) (by decide))
def msx243 : Zms := [(9, 9, 6, 7), (11, 11, 0, 400)]
-- WheelLand$Reader.write(I)Z
theorem x243 {sc : List Int} (h : Hp) (C : CI h) (a : Int) (q_a : -2147483648 ≤ a ∧ a ≤ 2147483647) : zwC sc 1 243 [(2, 9), (0, a)] h (zwRt 0 (fun x g => CI g ∧ zXR msx243 (0) (0) h g ∧ (0 ≤ x ∧ x ≤ 1))) := by
  refine zwC_of (D := 0) 2 (by decide +kernel) rfl (ls := [(2, 9), (0, a)]) rfl ?_
  have X : zXR msx243 0 0 h h := zXR.rf _ _
  refine zwW_p [(1, 0, 2)] (q := 1) (ls' := [(2, 9), (0, a)]) (st' := [(2, 9)]) (by decide +kernel) rfl ?_
  refine zwW_gs C.1 (kd := 7) (bn := 6) (n := 9) (t := 0) (lo := 0) (hi := 400) (nx := 4) (by decide +kernel) ?_
  intro v1 ev1 lv1 uv1
  refine zwW_p [(1, 0, 2)] (q := 5) (ls' := [(2, 9), (0, a)]) (st' := [(2, 9), (0, v1)]) (by decide +kernel) rfl ?_
  refine zwW_gc C.1 (kd := 7) (bn := 7) (n := 9) (c := 11) (nx := 8) (by decide +kernel) ?_
  refine zwW_len (kd := 20) (n := 400) (nx := 9) (by decide +kernel) (C.1.s (a1 := 11) (a2 := 11) (by decide +kernel) (by omega) (by omega)) rfl ?_
  refine zwic_lt (q := 14) (nx := 12) (by decide +kernel) (fun c2 => ?_) (fun c2 => ?_)
  · refine zwW_p [(1, 0, 2)] (q := 15) (ls' := [(2, 9), (0, a)]) (st' := [(2, 9)]) (by decide +kernel) rfl ?_
    refine zwW_gc C.1 (kd := 7) (bn := 7) (n := 9) (c := 11) (nx := 18) (by decide +kernel) ?_
    refine zwW_p [(1, 0, 2)] (q := 19) (ls' := [(2, 9), (0, a)]) (st' := [(2, 9), (2, 11)]) (by decide +kernel) rfl ?_
    refine zwW_gs C.1 (kd := 7) (bn := 6) (n := 9) (t := 0) (lo := 0) (hi := 400) (nx := 22) (by decide +kernel) ?_
    intro v3 ev3 lv3 uv3
    refine zwW_p [(1, 1, 0)] (q := 23) (ls' := [(2, 9), (0, a)]) (st' := [(0, a), (0, v3), (2, 11)]) (by decide +kernel) rfl ?_
    refine zwW_as C.1 (a1 := 11) (a2 := 11) (n := 400) (lo := -2147483648) (hi := 2147483647) (nx := 24) (by decide +kernel) ⟨by decide, by decide⟩ ⟨by omega, by omega⟩ ⟨by omega, by omega⟩ ?_
    intro h4 eh4 Ih4
    have Ch4 : CI h4 := C.wc eh4 Ih4 (by decide) (by decide)
    have Qh4 : zXR [(11, 11, 0, 400)] 0 0 h h4 := zXR.wc eh4 rfl ⟨by decide, by decide, Or.inl (by decide)⟩ ⟨by omega, by omega⟩
    have Xh4 : zXR msx243 (0) (0) h h4 := X.tr (c2 := 0) (s2 := 0) Qh4 (by decide +kernel) (by decide) (by decide)
    have th4_9_6 : fld h4 9 6 = fld h 9 6 := Qh4.f (a1 := 9) (a2 := 9) (j1 := 6) (j2 := 7) (by decide +kernel) ⟨by decide, by decide⟩ ⟨by decide, by decide⟩ ⟨by decide, by decide⟩
    refine zwW_p [(1, 0, 2), (12, 0, 0)] (q := 26) (ls' := [(2, 9), (0, a)]) (st' := [(2, 9), (2, 9)]) (by decide +kernel) rfl ?_
    refine zwW_gs Ch4.1 (kd := 7) (bn := 6) (n := 9) (t := 0) (lo := 0) (hi := 400) (nx := 29) (by decide +kernel) ?_
    intro v5 ev5 lv5 uv5
    refine zwW_p [(0, 1, 0)] (q := 30) (ls' := [(2, 9), (0, a)]) (st' := [(0, 1), (0, v5), (2, 9)]) (by decide +kernel) rfl ?_
    refine zwW_add (nx := 31) (by decide +kernel) ⟨by omega, by omega⟩ ?_
    refine zwW_ps Ch4.1 (kd := 7) (bn := 6) (n := 9) (lo := 0) (hi := 400) (nx := 34) (by decide +kernel) ⟨by omega, by omega⟩ ?_
    intro h6 eh6 Ih6
    have Ch6 : CI h6 := Ch4.wc eh6 Ih6 (by decide) (by decide)
    have Qh6 : zXR [(9, 9, 6, 7)] 0 0 h4 h6 := zXR.wc eh6 rfl ⟨by decide, by decide, Or.inl (by decide)⟩ ⟨by decide, by decide⟩
    have Xh6 : zXR msx243 (0) (0) h h6 := Xh4.tr (c2 := 0) (s2 := 0) Qh6 (by decide +kernel) (by decide) (by decide)
    have th6_9_6 : fld h6 9 6 = (v5 + 1) := by rw [eh6]; exact fld_wr_eq (Ch4.1.s (a1 := 9) (a2 := 9) (k := 7) (n := 9) (by decide +kernel) (by decide) (by decide)) (by decide)
    refine zwW_p [(0, 1, 0)] (q := 35) (ls' := [(2, 9), (0, a)]) (st' := [(0, 1)]) (by decide +kernel) rfl ?_
    refine zwW_ret (nx := 36) (a := 1) (b := 0) (by decide +kernel) rfl (Or.inr (Or.inl ⟨rfl, by omega⟩)) ?_
    exact ⟨Ch6, Xh6.le (by decide) (by decide), by omega⟩
  · refine zwW_p [(0, 0, 0)] (q := 13) (ls' := [(2, 9), (0, a)]) (st' := [(0, 0)]) (by decide +kernel) rfl ?_
    refine zwW_ret (nx := 14) (a := 1) (b := 0) (by decide +kernel) rfl (Or.inr (Or.inl ⟨rfl, by omega⟩)) ?_
    exact ⟨C, X.le (by decide) (by decide), by omega⟩
-- WheelLand$Reader.isWord(I)Z
theorem x264 {sc : List Int} (h : Hp) (C : CI h) (a : Int) (q_a : -2147483648 ≤ a ∧ a ≤ 2147483647) : zwC sc 1 264 [(2, 9), (0, a)] h (zwRt 0 (fun x g => h = g ∧ ((x = 1 ∧ (0 ≤ 1)) ∨ (x = 0 ∧ (0 ≤ 1))))) := by
  refine zwC_of (D := 0) 2 (by decide +kernel) rfl (ls := [(2, 9), (0, a)]) rfl ?_
  refine zwW_p [(1, 0, 2)] (q := 1) (ls' := [(2, 9), (0, a)]) (st' := [(2, 9)]) (by decide +kernel) rfl ?_
  refine zwW_gs C.1 (kd := 7) (bn := 4) (n := 9) (t := 0) (lo := -2147483648) (hi := 2147483647) (nx := 4) (by decide +kernel) ?_
  intro v1 ev1 lv1 uv1
  refine zwW_p [(0, 1, 0)] (q := 5) (ls' := [(2, 9), (0, a)]) (st' := [(0, 1), (0, v1)]) (by decide +kernel) rfl ?_
  refine zwic_ne (q := 20) (nx := 8) (by decide +kernel) (fun c2 => ?_) (fun c2 => ?_)
  · refine zwW_p [(0, 0, 0)] (q := 21) (ls' := [(2, 9), (0, a)]) (st' := [(0, 0)]) (by decide +kernel) rfl ?_
    refine zwW_ret (nx := 22) (a := 1) (b := 0) (by decide +kernel) rfl (Or.inr (Or.inl ⟨rfl, by omega⟩)) ?_
    exact ⟨rfl, Or.inr ⟨rfl, by omega⟩⟩
  · refine zwW_p [(1, 0, 2)] (q := 9) (ls' := [(2, 9), (0, a)]) (st' := [(2, 9)]) (by decide +kernel) rfl ?_
    refine zwW_gs C.1 (kd := 7) (bn := 5) (n := 9) (t := 0) (lo := -2147483648) (hi := 2147483647) (nx := 12) (by decide +kernel) ?_
    intro v3 ev3 lv3 uv3
    refine zwW_p [(1, 1, 0)] (q := 13) (ls' := [(2, 9), (0, a)]) (st' := [(0, a), (0, v3)]) (by decide +kernel) rfl ?_
    refine zwic_ne (q := 20) (nx := 16) (by decide +kernel) (fun c4 => ?_) (fun c4 => ?_)
    · refine zwW_p [(0, 0, 0)] (q := 21) (ls' := [(2, 9), (0, a)]) (st' := [(0, 0)]) (by decide +kernel) rfl ?_
      refine zwW_ret (nx := 22) (a := 1) (b := 0) (by decide +kernel) rfl (Or.inr (Or.inl ⟨rfl, by omega⟩)) ?_
      exact ⟨rfl, Or.inr ⟨rfl, by omega⟩⟩
    · refine zwW_p [(0, 1, 0), (24, 21, 0)] (q := 21) (ls' := [(2, 9), (0, a)]) (st' := [(0, 1)]) (by decide +kernel) rfl ?_
      refine zwW_ret (nx := 22) (a := 1) (b := 0) (by decide +kernel) rfl (Or.inr (Or.inl ⟨rfl, by omega⟩)) ?_
      exact ⟨rfl, Or.inl ⟨rfl, by omega⟩⟩
-- WheelLand$Ledger.numberOf(II)I
theorem x177 {sc : List Int} (h : Hp) (C : CI h) (a b : Int) (q_a : -2147483648 ≤ a ∧ a ≤ 2147483647) (q_b : -2147483648 ≤ b ∧ b ≤ 2147483647) : zwC sc 1 177 [(2, 34), (0, a), (0, b)] h (zwRt 0 (fun x g => h = g ∧ (-2147483648 ≤ x ∧ x ≤ 2147483647))) := by
  refine zwC_of (D := 0) 4 (by decide +kernel) rfl (ls := [(2, 34), (0, a), (0, b), (9, 0)]) rfl ?_
  refine zwW_p [(1, 1, 0)] (q := 1) (ls' := [(2, 34), (0, a), (0, b), (9, 0)]) (st' := [(0, a)]) (by decide +kernel) rfl ?_
  refine zwif_lt (q := 25) (nx := 4) (by decide +kernel) (fun c1 => ?_) (fun c1 => ?_)
  · refine zwW_p [(0, 0, 0), (2, 3, 0), (1, 3, 0)] (q := 28) (ls' := [(2, 34), (0, a), (0, b), (0, 0)]) (st' := [(0, 0)]) (by decide +kernel) rfl ?_
    refine zwif_eq (q := 45) (nx := 31) (by decide +kernel) (fun c2 => ?_) (fun c2 => ?_)
    · refine zwW_p [(0, 0, 0)] (q := 46) (ls' := [(2, 34), (0, a), (0, b), (0, 0)]) (st' := [(0, 0)]) (by decide +kernel) rfl ?_
      refine zwW_ret (nx := 47) (a := 0) (b := 0) (by decide +kernel) rfl (Or.inl rfl) ?_
      exact ⟨rfl, by omega⟩
    · exfalso; omega
  · refine zwW_p [(1, 1, 0), (0, 156, 0)] (q := 8) (ls' := [(2, 34), (0, a), (0, b), (9, 0)]) (st' := [(0, 156), (0, a)]) (by decide +kernel) rfl ?_
    refine zwic_ge (q := 25) (nx := 11) (by decide +kernel) (fun c3 => ?_) (fun c3 => ?_)
    · refine zwW_p [(0, 0, 0), (2, 3, 0), (1, 3, 0)] (q := 28) (ls' := [(2, 34), (0, a), (0, b), (0, 0)]) (st' := [(0, 0)]) (by decide +kernel) rfl ?_
      refine zwif_eq (q := 45) (nx := 31) (by decide +kernel) (fun c4 => ?_) (fun c4 => ?_)
      · refine zwW_p [(0, 0, 0)] (q := 46) (ls' := [(2, 34), (0, a), (0, b), (0, 0)]) (st' := [(0, 0)]) (by decide +kernel) rfl ?_
        refine zwW_ret (nx := 47) (a := 0) (b := 0) (by decide +kernel) rfl (Or.inl rfl) ?_
        exact ⟨rfl, by omega⟩
      · exfalso; omega
    · refine zwW_p [(1, 2, 0)] (q := 12) (ls' := [(2, 34), (0, a), (0, b), (9, 0)]) (st' := [(0, b)]) (by decide +kernel) rfl ?_
      refine zwif_lt (q := 25) (nx := 15) (by decide +kernel) (fun c5 => ?_) (fun c5 => ?_)
      · refine zwW_p [(0, 0, 0), (2, 3, 0), (1, 3, 0)] (q := 28) (ls' := [(2, 34), (0, a), (0, b), (0, 0)]) (st' := [(0, 0)]) (by decide +kernel) rfl ?_
        refine zwif_eq (q := 45) (nx := 31) (by decide +kernel) (fun c6 => ?_) (fun c6 => ?_)
        · refine zwW_p [(0, 0, 0)] (q := 46) (ls' := [(2, 34), (0, a), (0, b), (0, 0)]) (st' := [(0, 0)]) (by decide +kernel) rfl ?_
          refine zwW_ret (nx := 47) (a := 0) (b := 0) (by decide +kernel) rfl (Or.inl rfl) ?_
          exact ⟨rfl, by omega⟩
        · exfalso; omega
      · refine zwW_p [(1, 2, 0), (0, 6, 0)] (q := 18) (ls' := [(2, 34), (0, a), (0, b), (9, 0)]) (st' := [(0, 6), (0, b)]) (by decide +kernel) rfl ?_
        refine zwic_ge (q := 25) (nx := 21) (by decide +kernel) (fun c7 => ?_) (fun c7 => ?_)
        · refine zwW_p [(0, 0, 0), (2, 3, 0), (1, 3, 0)] (q := 28) (ls' := [(2, 34), (0, a), (0, b), (0, 0)]) (st' := [(0, 0)]) (by decide +kernel) rfl ?_
          refine zwif_eq (q := 45) (nx := 31) (by decide +kernel) (fun c8 => ?_) (fun c8 => ?_)
          · refine zwW_p [(0, 0, 0)] (q := 46) (ls' := [(2, 34), (0, a), (0, b), (0, 0)]) (st' := [(0, 0)]) (by decide +kernel) rfl ?_
            refine zwW_ret (nx := 47) (a := 0) (b := 0) (by decide +kernel) rfl (Or.inl rfl) ?_
            exact ⟨rfl, by omega⟩
          · exfalso; omega
        · refine zwW_p [(0, 1, 0), (24, 26, 0), (2, 3, 0), (1, 3, 0)] (q := 28) (ls' := [(2, 34), (0, a), (0, b), (0, 1)]) (st' := [(0, 1)]) (by decide +kernel) rfl ?_
          refine zwif_eq (q := 45) (nx := 31) (by decide +kernel) (fun c9 => ?_) (fun c9 => ?_)
          · exfalso; omega
          · refine zwW_p [(1, 0, 2)] (q := 32) (ls' := [(2, 34), (0, a), (0, b), (0, 1)]) (st' := [(2, 34)]) (by decide +kernel) rfl ?_
            refine zwW_gc C.1 (kd := 5) (bn := 3) (n := 4) (c := 35) (nx := 35) (by decide +kernel) ?_
            refine zwW_p [(1, 1, 0), (0, 6, 0)] (q := 38) (ls' := [(2, 34), (0, a), (0, b), (0, 1)]) (st' := [(0, 6), (0, a), (2, 35)]) (by decide +kernel) rfl ?_
            refine zwW_mul (nx := 39) (by decide +kernel) ⟨by omega, by omega⟩ ?_
            refine zwW_p [(1, 2, 0)] (q := 40) (ls' := [(2, 34), (0, a), (0, b), (0, 1)]) (st' := [(0, b), (0, (a * 6)), (2, 35)]) (by decide +kernel) rfl ?_
            refine zwW_add (nx := 41) (by decide +kernel) ⟨by omega, by omega⟩ ?_
            refine zwW_al C.1 (a1 := 35) (a2 := 35) (kd := 20) (n := 936) (t := 0) (lo := -2147483648) (hi := 2147483647) (nx := 42) (by decide +kernel) ⟨by decide, by decide⟩ ⟨by omega, by omega⟩ ?_
            intro v10 ev10 lv10 uv10
            refine zwW_p [(24, 46, 0)] (q := 46) (ls' := [(2, 34), (0, a), (0, b), (0, 1)]) (st' := [(0, v10)]) (by decide +kernel) rfl ?_
            refine zwW_ret (nx := 47) (a := 0) (b := 0) (by decide +kernel) rfl (Or.inl rfl) ?_
            exact ⟨rfl, by omega⟩
-- WheelLand$Ledger.masked(IIII)I
theorem x226 {sc : List Int} (h : Hp) (C : CI h) (a b c d : Int) (q_a : -2147483648 ≤ a ∧ a ≤ 2147483647) (q_b : -2147483648 ≤ b ∧ b ≤ 2147483647) (q_c : -2147483648 ≤ c ∧ c ≤ 2147483647) (q_d : -2147483648 ≤ d ∧ d ≤ 2147483647) : zwC sc 2 226 [(2, 34), (0, a), (0, b), (0, c), (0, d)] h (zwRt 0 (fun x g => h = g ∧ (-2147483648 ≤ x ∧ x ≤ 2147483647))) := by
  refine zwC_of (D := 1) 5 (by decide +kernel) rfl (ls := [(2, 34), (0, a), (0, b), (0, c), (0, d)]) rfl ?_
  refine zwW_p [(1, 0, 2), (1, 1, 0), (1, 2, 0)] (q := 3) (ls' := [(2, 34), (0, a), (0, b), (0, c), (0, d)]) (st' := [(0, b), (0, a), (2, 34)]) (by decide +kernel) rfl ?_
  refine zwW_cm C.1 (op := 60) (k' := 177) (n := 2) (kd := 5) (m := 4) (nx := 6) (r := 34) (tl := [(0, a), (0, b)]) (st' := []) (by decide +kernel) rfl (by decide +kernel) rfl (x177 h C a b (by omega) (by omega)) ?_
  rintro v1 _ ⟨rfl, f2⟩
  refine zwW_p [(1, 2, 0), (1, 3, 0)] (q := 8) (ls' := [(2, 34), (0, a), (0, b), (0, c), (0, d)]) (st' := [(0, c), (0, b), (0, v1)]) (by decide +kernel) rfl ?_
  refine zwic_ne (q := 16) (nx := 11) (by decide +kernel) (fun c3 => ?_) (fun c3 => ?_)
  · refine zwW_p [(0, 0, 0)] (q := 17) (ls' := [(2, 34), (0, a), (0, b), (0, c), (0, d)]) (st' := [(0, 0), (0, v1)]) (by decide +kernel) rfl ?_
    refine zwW_any2 (a := 7) (nx := 18) (by decide +kernel) rfl ⟨by omega, by omega⟩ (Or.inr ⟨by decide, by decide⟩) ?_
    intro v4 lv4 uv4
    refine zwW_ret (nx := 19) (a := 0) (b := 0) (by decide +kernel) rfl (Or.inl rfl) ?_
    exact ⟨rfl, by omega⟩
  · refine zwW_p [(1, 4, 0), (24, 17, 0)] (q := 17) (ls' := [(2, 34), (0, a), (0, b), (0, c), (0, d)]) (st' := [(0, d), (0, v1)]) (by decide +kernel) rfl ?_
    refine zwW_any2 (a := 7) (nx := 18) (by decide +kernel) rfl ⟨by omega, by omega⟩ (Or.inr ⟨by decide, by decide⟩) ?_
    intro v5 lv5 uv5
    refine zwW_ret (nx := 19) (a := 0) (b := 0) (by decide +kernel) rfl (Or.inl rfl) ?_
    exact ⟨rfl, by omega⟩
-- WheelLand$Ledger.verdict(III)I
theorem x178 {sc : List Int} (h : Hp) (C : CI h) (a b c : Int) (q_a : -2147483648 ≤ a ∧ a ≤ 2147483647) (q_b : -2147483648 ≤ b ∧ b ≤ 2147483647) (q_c : -2147483648 ≤ c ∧ c ≤ 2147483647) : zwC sc 3 178 [(2, 34), (0, a), (0, b), (0, c)] h (zwRt 0 (fun x g => h = g ∧ (-2147483648 ≤ x ∧ x ≤ 2147483647))) := by
  refine zwC_of (D := 2) 10 (by decide +kernel) rfl (ls := [(2, 34), (0, a), (0, b), (0, c), (9, 0), (9, 0), (9, 0), (9, 0), (9, 0), (9, 0)]) rfl ?_
  refine zwW_p [(1, 0, 2), (1, 1, 0), (0, 2, 0), (1, 2, 0), (1, 3, 0)] (q := 5) (ls' := [(2, 34), (0, a), (0, b), (0, c), (9, 0), (9, 0), (9, 0), (9, 0), (9, 0), (9, 0)]) (st' := [(0, c), (0, b), (0, 2), (0, a), (2, 34)]) (by decide +kernel) rfl ?_
  refine zwW_cm C.1 (op := 60) (k' := 226) (n := 4) (kd := 5) (m := 4) (nx := 8) (r := 34) (tl := [(0, a), (0, 2), (0, b), (0, c)]) (st' := []) (by decide +kernel) rfl (by decide +kernel) rfl (x226 h C a 2 b c (by omega) (by omega) (by omega) (by omega)) ?_
  rintro v1 _ ⟨rfl, f2⟩
  refine zwW_p [(7, 0, 0), (2, 4, 1), (1, 0, 2), (1, 1, 0), (0, 5, 0), (1, 2, 0), (1, 3, 0)] (q := 16) (ls' := [(2, 34), (0, a), (0, b), (0, c), (1, v1), (9, 0), (9, 0), (9, 0), (9, 0), (9, 0)]) (st' := [(0, c), (0, b), (0, 5), (0, a), (2, 34)]) (by decide +kernel) rfl ?_
  refine zwW_cm C.1 (op := 60) (k' := 226) (n := 4) (kd := 5) (m := 4) (nx := 19) (r := 34) (tl := [(0, a), (0, 5), (0, b), (0, c)]) (st' := []) (by decide +kernel) rfl (by decide +kernel) rfl (x226 h C a 5 b c (by omega) (by omega) (by omega) (by omega)) ?_
  rintro v3 _ ⟨rfl, f4⟩
  refine zwW_p [(7, 0, 0), (2, 6, 1), (1, 4, 1), (1, 0, 2), (1, 1, 0), (0, 3, 0), (1, 2, 0), (1, 3, 0)] (q := 29) (ls' := [(2, 34), (0, a), (0, b), (0, c), (1, v1), (9, 0), (1, v3), (9, 0), (9, 0), (9, 0)]) (st' := [(0, c), (0, b), (0, 3), (0, a), (2, 34), (1, v1)]) (by decide +kernel) rfl ?_
  refine zwW_cm C.1 (op := 60) (k' := 226) (n := 4) (kd := 5) (m := 4) (nx := 32) (r := 34) (tl := [(0, a), (0, 3), (0, b), (0, c)]) (st' := [(1, v1)]) (by decide +kernel) rfl (by decide +kernel) rfl (x226 h C a 3 b c (by omega) (by omega) (by omega) (by omega)) ?_
  rintro v5 _ ⟨rfl, f6⟩
  refine zwW_p [(7, 0, 0)] (q := 33) (ls' := [(2, 34), (0, a), (0, b), (0, c), (1, v1), (9, 0), (1, v3), (9, 0), (9, 0), (9, 0)]) (st' := [(1, v5), (1, v1)]) (by decide +kernel) rfl ?_
  refine zwW_ladd (nx := 34) (by decide +kernel) ⟨by omega, by omega⟩ ?_
  refine zwW_p [(1, 0, 2), (1, 1, 0), (0, 4, 0), (1, 2, 0), (1, 3, 0)] (q := 39) (ls' := [(2, 34), (0, a), (0, b), (0, c), (1, v1), (9, 0), (1, v3), (9, 0), (9, 0), (9, 0)]) (st' := [(0, c), (0, b), (0, 4), (0, a), (2, 34), (1, (v1 + v5))]) (by decide +kernel) rfl ?_
  refine zwW_cm C.1 (op := 60) (k' := 226) (n := 4) (kd := 5) (m := 4) (nx := 42) (r := 34) (tl := [(0, a), (0, 4), (0, b), (0, c)]) (st' := [(1, (v1 + v5))]) (by decide +kernel) rfl (by decide +kernel) rfl (x226 h C a 4 b c (by omega) (by omega) (by omega) (by omega)) ?_
  rintro v8 _ ⟨rfl, f9⟩
  refine zwW_p [(7, 0, 0)] (q := 43) (ls' := [(2, 34), (0, a), (0, b), (0, c), (1, v1), (9, 0), (1, v3), (9, 0), (9, 0), (9, 0)]) (st' := [(1, v8), (1, (v1 + v5))]) (by decide +kernel) rfl ?_
  refine zwW_ladd (nx := 44) (by decide +kernel) ⟨by omega, by omega⟩ ?_
  refine zwW_p [(1, 6, 1)] (q := 46) (ls' := [(2, 34), (0, a), (0, b), (0, c), (1, v1), (9, 0), (1, v3), (9, 0), (9, 0), (9, 0)]) (st' := [(1, v3), (1, ((v1 + v5) + v8))]) (by decide +kernel) rfl ?_
  refine zwlc_eq (q := 52) (nx := 50) (m := 47) (by decide +kernel) (by decide +kernel) (fun c11 => ?_) (fun c11 => ?_)
  · refine zwW_p [(1, 0, 2), (1, 1, 0), (0, 1, 0)] (q := 55) (ls' := [(2, 34), (0, a), (0, b), (0, c), (1, v1), (9, 0), (1, v3), (9, 0), (9, 0), (9, 0)]) (st' := [(0, 1), (0, a), (2, 34)]) (by decide +kernel) rfl ?_
    refine zwW_sbw (nx := 56) (by decide +kernel) ?_
    intro v12 ev12 lv12 uv12
    refine zwW_p [(0, 5, 0)] (q := 57) (ls' := [(2, 34), (0, a), (0, b), (0, c), (1, v1), (9, 0), (1, v3), (9, 0), (9, 0), (9, 0)]) (st' := [(0, 5), (0, v12), (2, 34)]) (by decide +kernel) rfl ?_
    refine zwW_cm C.1 (op := 60) (k' := 177) (n := 2) (kd := 5) (m := 4) (nx := 60) (r := 34) (tl := [(0, v12), (0, 5)]) (st' := []) (by decide +kernel) rfl (by decide +kernel) rfl (x177 h C v12 5 (by omega) (by omega)) ?_
    rintro v13 _ ⟨rfl, f14⟩
    refine zwW_p [(7, 0, 0), (2, 8, 1), (1, 6, 1), (1, 8, 1), (1, 0, 2), (1, 1, 0), (0, 1, 0), (1, 2, 0), (1, 3, 0)] (q := 72) (ls' := [(2, 34), (0, a), (0, b), (0, c), (1, v1), (9, 0), (1, v3), (9, 0), (1, v13), (9, 0)]) (st' := [(0, c), (0, b), (0, 1), (0, a), (2, 34), (1, v13), (1, v3)]) (by decide +kernel) rfl ?_
    refine zwW_cm C.1 (op := 60) (k' := 226) (n := 4) (kd := 5) (m := 4) (nx := 75) (r := 34) (tl := [(0, a), (0, 1), (0, b), (0, c)]) (st' := [(1, v13), (1, v3)]) (by decide +kernel) rfl (by decide +kernel) rfl (x226 h C a 1 b c (by omega) (by omega) (by omega) (by omega)) ?_
    rintro v15 _ ⟨rfl, f16⟩
    refine zwW_p [(7, 0, 0)] (q := 76) (ls' := [(2, 34), (0, a), (0, b), (0, c), (1, v1), (9, 0), (1, v3), (9, 0), (1, v13), (9, 0)]) (st' := [(1, v15), (1, v13), (1, v3)]) (by decide +kernel) rfl ?_
    refine zwW_ladd (nx := 77) (by decide +kernel) ⟨by omega, by omega⟩ ?_
    refine zwlc_ne (q := 85) (nx := 81) (m := 78) (by decide +kernel) (by decide +kernel) (fun c18 => ?_) (fun c18 => ?_)
    · refine zwW_p [(0, 2, 0)] (q := 86) (ls' := [(2, 34), (0, a), (0, b), (0, c), (1, v1), (9, 0), (1, v3), (9, 0), (1, v13), (9, 0)]) (st' := [(0, 2)]) (by decide +kernel) rfl ?_
      refine zwW_ret (nx := 87) (a := 0) (b := 0) (by decide +kernel) rfl (Or.inl rfl) ?_
      exact ⟨rfl, by omega⟩
    · refine zwW_p [(0, 0, 0), (24, 86, 0)] (q := 86) (ls' := [(2, 34), (0, a), (0, b), (0, c), (1, v1), (9, 0), (1, v3), (9, 0), (1, v13), (9, 0)]) (st' := [(0, 0)]) (by decide +kernel) rfl ?_
      refine zwW_ret (nx := 87) (a := 0) (b := 0) (by decide +kernel) rfl (Or.inl rfl) ?_
      exact ⟨rfl, by omega⟩
  · refine zwW_p [(0, 1, 0)] (q := 51) (ls' := [(2, 34), (0, a), (0, b), (0, c), (1, v1), (9, 0), (1, v3), (9, 0), (9, 0), (9, 0)]) (st' := [(0, 1)]) (by decide +kernel) rfl ?_
    refine zwW_ret (nx := 52) (a := 0) (b := 0) (by decide +kernel) rfl (Or.inl rfl) ?_
    exact ⟨rfl, by omega⟩
def msx192 : Zms := [(34, 34, 2, 3), (35, 35, 0, 936)]
-- WheelLand$Ledger.close(IIII)V
theorem x192 {sc : List Int} (h : Hp) (C : CI h) (a b c d : Int) (q_a : -2147483648 ≤ a ∧ a ≤ 2147483647) (q_b : -2147483648 ≤ b ∧ b ≤ 2147483647) (q_c : -2147483648 ≤ c ∧ c ≤ 2147483647) (q_d : -2147483648 ≤ d ∧ d ≤ 2147483647) (p1 : 0 ≤ a ∧ a ≤ 156) : zwC sc 1 192 [(2, 34), (0, a), (0, b), (0, c), (0, d)] h (zwRv (fun g => CI g ∧ zXR msx192 (0) (0) h g)) := by
  refine zwC_of (D := 0) 6 (by decide +kernel) rfl (ls := [(2, 34), (0, a), (0, b), (0, c), (0, d), (9, 0)]) rfl ?_
  have X : zXR msx192 0 0 h h := zXR.rf _ _
  refine zwW_p [(1, 0, 2), (12, 0, 0)] (q := 2) (ls' := [(2, 34), (0, a), (0, b), (0, c), (0, d), (9, 0)]) (st' := [(2, 34), (2, 34)]) (by decide +kernel) rfl ?_
  refine zwW_gs C.1 (kd := 5) (bn := 2) (n := 4) (t := 0) (lo := -2147483648) (hi := 2147483647) (nx := 5) (by decide +kernel) ?_
  intro v1 ev1 lv1 uv1
  refine zwW_p [(1, 3, 0)] (q := 6) (ls' := [(2, 34), (0, a), (0, b), (0, c), (0, d), (9, 0)]) (st' := [(0, c), (0, v1), (2, 34)]) (by decide +kernel) rfl ?_
  refine zwW_adw (nx := 7) (by decide +kernel) ?_
  intro v2 ev2 lv2 uv2
  refine zwW_ps C.1 (kd := 5) (bn := 2) (n := 4) (lo := -2147483648) (hi := 2147483647) (nx := 10) (by decide +kernel) ⟨by omega, by omega⟩ ?_
  intro h3 eh3 Ih3
  have Ch3 : CI h3 := C.wc eh3 Ih3 (by decide) (by decide)
  have Qh3 : zXR [(34, 34, 2, 3)] 0 0 h h3 := zXR.wc eh3 rfl ⟨by decide, by decide, Or.inl (by decide)⟩ ⟨by decide, by decide⟩
  have Xh3 : zXR msx192 (0) (0) h h3 := X.tr (c2 := 0) (s2 := 0) Qh3 (by decide +kernel) (by decide) (by decide)
  refine zwW_p [(1, 1, 0), (0, 6, 0)] (q := 13) (ls' := [(2, 34), (0, a), (0, b), (0, c), (0, d), (9, 0)]) (st' := [(0, 6), (0, a)]) (by decide +kernel) rfl ?_
  refine zwW_mul (nx := 14) (by decide +kernel) ⟨by omega, by omega⟩ ?_
  refine zwW_p [(2, 5, 0), (1, 1, 0)] (q := 17) (ls' := [(2, 34), (0, a), (0, b), (0, c), (0, d), (0, (a * 6))]) (st' := [(0, a)]) (by decide +kernel) rfl ?_
  refine zwif_lt (q := 95) (nx := 20) (by decide +kernel) (fun c4 => ?_) (fun c4 => ?_)
  · exfalso; omega
  · refine zwW_p [(1, 1, 0), (0, 156, 0)] (q := 24) (ls' := [(2, 34), (0, a), (0, b), (0, c), (0, d), (0, (a * 6))]) (st' := [(0, 156), (0, a)]) (by decide +kernel) rfl ?_
    refine zwic_ge (q := 95) (nx := 27) (by decide +kernel) (fun c5 => ?_) (fun c5 => ?_)
    · refine zwW_retv (nx := 96) (a := 0) (b := 0) (by decide +kernel) ?_
      exact ⟨Ch3, Xh3.le (by decide) (by decide)⟩
    · refine zwW_p [(1, 0, 2)] (q := 28) (ls' := [(2, 34), (0, a), (0, b), (0, c), (0, d), (0, (a * 6))]) (st' := [(2, 34)]) (by decide +kernel) rfl ?_
      refine zwW_gc Ch3.1 (kd := 5) (bn := 3) (n := 4) (c := 35) (nx := 31) (by decide +kernel) ?_
      refine zwW_p [(1, 5, 0), (1, 2, 0)] (q := 34) (ls' := [(2, 34), (0, a), (0, b), (0, c), (0, d), (0, (a * 6))]) (st' := [(0, b), (0, (a * 6)), (2, 35)]) (by decide +kernel) rfl ?_
      refine zwW_as Ch3.1 (a1 := 35) (a2 := 35) (n := 936) (lo := -2147483648) (hi := 2147483647) (nx := 35) (by decide +kernel) ⟨by decide, by decide⟩ ⟨by omega, by omega⟩ ⟨by omega, by omega⟩ ?_
      intro h6 eh6 Ih6
      have Ch6 : CI h6 := Ch3.wc eh6 Ih6 (by decide) (by decide)
      have Qh6 : zXR [(35, 35, 0, 936)] 0 0 h3 h6 := zXR.wc eh6 rfl ⟨by decide, by decide, Or.inl (by decide)⟩ ⟨by omega, by omega⟩
      have Xh6 : zXR msx192 (0) (0) h h6 := Xh3.tr (c2 := 0) (s2 := 0) Qh6 (by decide +kernel) (by decide) (by decide)
      refine zwW_p [(1, 0, 2)] (q := 36) (ls' := [(2, 34), (0, a), (0, b), (0, c), (0, d), (0, (a * 6))]) (st' := [(2, 34)]) (by decide +kernel) rfl ?_
      refine zwW_gc Ch6.1 (kd := 5) (bn := 3) (n := 4) (c := 35) (nx := 39) (by decide +kernel) ?_
      refine zwW_p [(1, 5, 0), (0, 1, 0)] (q := 42) (ls' := [(2, 34), (0, a), (0, b), (0, c), (0, d), (0, (a * 6))]) (st' := [(0, 1), (0, (a * 6)), (2, 35)]) (by decide +kernel) rfl ?_
      refine zwW_add (nx := 43) (by decide +kernel) ⟨by omega, by omega⟩ ?_
      refine zwW_p [(1, 3, 0)] (q := 44) (ls' := [(2, 34), (0, a), (0, b), (0, c), (0, d), (0, (a * 6))]) (st' := [(0, c), (0, ((a * 6) + 1)), (2, 35)]) (by decide +kernel) rfl ?_
      refine zwW_as Ch6.1 (a1 := 35) (a2 := 35) (n := 936) (lo := -2147483648) (hi := 2147483647) (nx := 45) (by decide +kernel) ⟨by decide, by decide⟩ ⟨by omega, by omega⟩ ⟨by omega, by omega⟩ ?_
      intro h7 eh7 Ih7
      have Ch7 : CI h7 := Ch6.wc eh7 Ih7 (by decide) (by decide)
      have Qh7 : zXR [(35, 35, 0, 936)] 0 0 h6 h7 := zXR.wc eh7 rfl ⟨by decide, by decide, Or.inl (by decide)⟩ ⟨by omega, by omega⟩
      have Xh7 : zXR msx192 (0) (0) h h7 := Xh6.tr (c2 := 0) (s2 := 0) Qh7 (by decide +kernel) (by decide) (by decide)
      refine zwW_p [(1, 0, 2)] (q := 46) (ls' := [(2, 34), (0, a), (0, b), (0, c), (0, d), (0, (a * 6))]) (st' := [(2, 34)]) (by decide +kernel) rfl ?_
      refine zwW_gc Ch7.1 (kd := 5) (bn := 3) (n := 4) (c := 35) (nx := 49) (by decide +kernel) ?_
      refine zwW_p [(1, 5, 0), (0, 2, 0)] (q := 52) (ls' := [(2, 34), (0, a), (0, b), (0, c), (0, d), (0, (a * 6))]) (st' := [(0, 2), (0, (a * 6)), (2, 35)]) (by decide +kernel) rfl ?_
      refine zwW_add (nx := 53) (by decide +kernel) ⟨by omega, by omega⟩ ?_
      refine zwW_p [(1, 4, 0)] (q := 55) (ls' := [(2, 34), (0, a), (0, b), (0, c), (0, d), (0, (a * 6))]) (st' := [(0, d), (0, ((a * 6) + 2)), (2, 35)]) (by decide +kernel) rfl ?_
      refine zwW_as Ch7.1 (a1 := 35) (a2 := 35) (n := 936) (lo := -2147483648) (hi := 2147483647) (nx := 56) (by decide +kernel) ⟨by decide, by decide⟩ ⟨by omega, by omega⟩ ⟨by omega, by omega⟩ ?_
      intro h8 eh8 Ih8
      have Ch8 : CI h8 := Ch7.wc eh8 Ih8 (by decide) (by decide)
      have Qh8 : zXR [(35, 35, 0, 936)] 0 0 h7 h8 := zXR.wc eh8 rfl ⟨by decide, by decide, Or.inl (by decide)⟩ ⟨by omega, by omega⟩
      have Xh8 : zXR msx192 (0) (0) h h8 := Xh7.tr (c2 := 0) (s2 := 0) Qh8 (by decide +kernel) (by decide) (by decide)
      refine zwW_p [(1, 0, 2)] (q := 57) (ls' := [(2, 34), (0, a), (0, b), (0, c), (0, d), (0, (a * 6))]) (st' := [(2, 34)]) (by decide +kernel) rfl ?_
      refine zwW_gc Ch8.1 (kd := 5) (bn := 3) (n := 4) (c := 35) (nx := 60) (by decide +kernel) ?_
      refine zwW_p [(1, 5, 0), (0, 3, 0)] (q := 63) (ls' := [(2, 34), (0, a), (0, b), (0, c), (0, d), (0, (a * 6))]) (st' := [(0, 3), (0, (a * 6)), (2, 35)]) (by decide +kernel) rfl ?_
      refine zwW_add (nx := 64) (by decide +kernel) ⟨by omega, by omega⟩ ?_
      refine zwW_p [(1, 0, 2)] (q := 65) (ls' := [(2, 34), (0, a), (0, b), (0, c), (0, d), (0, (a * 6))]) (st' := [(2, 34), (0, ((a * 6) + 3)), (2, 35)]) (by decide +kernel) rfl ?_
      refine zwW_gs Ch8.1 (kd := 5) (bn := 0) (n := 4) (t := 0) (lo := -2147483648) (hi := 2147483647) (nx := 68) (by decide +kernel) ?_
      intro v9 ev9 lv9 uv9
      refine zwW_as Ch8.1 (a1 := 35) (a2 := 35) (n := 936) (lo := -2147483648) (hi := 2147483647) (nx := 69) (by decide +kernel) ⟨by decide, by decide⟩ ⟨by omega, by omega⟩ ⟨by omega, by omega⟩ ?_
      intro h10 eh10 Ih10
      have Ch10 : CI h10 := Ch8.wc eh10 Ih10 (by decide) (by decide)
      have Qh10 : zXR [(35, 35, 0, 936)] 0 0 h8 h10 := zXR.wc eh10 rfl ⟨by decide, by decide, Or.inl (by decide)⟩ ⟨by omega, by omega⟩
      have Xh10 : zXR msx192 (0) (0) h h10 := Xh8.tr (c2 := 0) (s2 := 0) Qh10 (by decide +kernel) (by decide) (by decide)
      refine zwW_p [(1, 0, 2)] (q := 70) (ls' := [(2, 34), (0, a), (0, b), (0, c), (0, d), (0, (a * 6))]) (st' := [(2, 34)]) (by decide +kernel) rfl ?_
      refine zwW_gc Ch10.1 (kd := 5) (bn := 3) (n := 4) (c := 35) (nx := 73) (by decide +kernel) ?_
      refine zwW_p [(1, 5, 0), (0, 4, 0)] (q := 76) (ls' := [(2, 34), (0, a), (0, b), (0, c), (0, d), (0, (a * 6))]) (st' := [(0, 4), (0, (a * 6)), (2, 35)]) (by decide +kernel) rfl ?_
      refine zwW_add (nx := 77) (by decide +kernel) ⟨by omega, by omega⟩ ?_
      refine zwW_p [(1, 0, 2)] (q := 78) (ls' := [(2, 34), (0, a), (0, b), (0, c), (0, d), (0, (a * 6))]) (st' := [(2, 34), (0, ((a * 6) + 4)), (2, 35)]) (by decide +kernel) rfl ?_
      refine zwW_gs Ch10.1 (kd := 5) (bn := 1) (n := 4) (t := 0) (lo := -2147483648) (hi := 2147483647) (nx := 81) (by decide +kernel) ?_
      intro v11 ev11 lv11 uv11
      refine zwW_as Ch10.1 (a1 := 35) (a2 := 35) (n := 936) (lo := -2147483648) (hi := 2147483647) (nx := 82) (by decide +kernel) ⟨by decide, by decide⟩ ⟨by omega, by omega⟩ ⟨by omega, by omega⟩ ?_
      intro h12 eh12 Ih12
      have Ch12 : CI h12 := Ch10.wc eh12 Ih12 (by decide) (by decide)
      have Qh12 : zXR [(35, 35, 0, 936)] 0 0 h10 h12 := zXR.wc eh12 rfl ⟨by decide, by decide, Or.inl (by decide)⟩ ⟨by omega, by omega⟩
      have Xh12 : zXR msx192 (0) (0) h h12 := Xh10.tr (c2 := 0) (s2 := 0) Qh12 (by decide +kernel) (by decide) (by decide)
      refine zwW_p [(1, 0, 2)] (q := 83) (ls' := [(2, 34), (0, a), (0, b), (0, c), (0, d), (0, (a * 6))]) (st' := [(2, 34)]) (by decide +kernel) rfl ?_
      refine zwW_gc Ch12.1 (kd := 5) (bn := 3) (n := 4) (c := 35) (nx := 86) (by decide +kernel) ?_
      refine zwW_p [(1, 5, 0), (0, 5, 0)] (q := 89) (ls' := [(2, 34), (0, a), (0, b), (0, c), (0, d), (0, (a * 6))]) (st' := [(0, 5), (0, (a * 6)), (2, 35)]) (by decide +kernel) rfl ?_
      refine zwW_add (nx := 90) (by decide +kernel) ⟨by omega, by omega⟩ ?_
      refine zwW_p [(1, 0, 2)] (q := 91) (ls' := [(2, 34), (0, a), (0, b), (0, c), (0, d), (0, (a * 6))]) (st' := [(2, 34), (0, ((a * 6) + 5)), (2, 35)]) (by decide +kernel) rfl ?_
      refine zwW_gs Ch12.1 (kd := 5) (bn := 2) (n := 4) (t := 0) (lo := -2147483648) (hi := 2147483647) (nx := 94) (by decide +kernel) ?_
      intro v13 ev13 lv13 uv13
      refine zwW_as Ch12.1 (a1 := 35) (a2 := 35) (n := 936) (lo := -2147483648) (hi := 2147483647) (nx := 95) (by decide +kernel) ⟨by decide, by decide⟩ ⟨by omega, by omega⟩ ⟨by omega, by omega⟩ ?_
      intro h14 eh14 Ih14
      have Ch14 : CI h14 := Ch12.wc eh14 Ih14 (by decide) (by decide)
      have Qh14 : zXR [(35, 35, 0, 936)] 0 0 h12 h14 := zXR.wc eh14 rfl ⟨by decide, by decide, Or.inl (by decide)⟩ ⟨by omega, by omega⟩
      have Xh14 : zXR msx192 (0) (0) h h14 := Xh12.tr (c2 := 0) (s2 := 0) Qh14 (by decide +kernel) (by decide) (by decide)
      refine zwW_retv (nx := 96) (a := 0) (b := 0) (by decide +kernel) ?_
      exact ⟨Ch14, Xh14.le (by decide) (by decide)⟩
def msx161 : Zms := [(27, 27, 0, 1), (28, 28, 0, 8), (29, 29, 0, 8), (30, 30, 0, 8)]
-- WheelLand$Gifts.tell(III)V
theorem x161 {sc : List Int} (h : Hp) (C : CI h) (a b c : Int) (q_a : -2147483648 ≤ a ∧ a ≤ 2147483647) (q_b : -2147483648 ≤ b ∧ b ≤ 2147483647) (q_c : -2147483648 ≤ c ∧ c ≤ 2147483647) : zwC sc 1 161 [(2, 27), (0, a), (0, b), (0, c)] h (zwRv (fun g => CI g ∧ zXR msx161 (0) (0) h g ∧ (fld h 27 0 < 8 → fld g 27 0 = fld h 27 0 + 1))) := by
  refine zwC_of (D := 0) 4 (by decide +kernel) rfl (ls := [(2, 27), (0, a), (0, b), (0, c)]) rfl ?_
  have X : zXR msx161 0 0 h h := zXR.rf _ _
  refine zwW_p [(1, 0, 2)] (q := 1) (ls' := [(2, 27), (0, a), (0, b), (0, c)]) (st' := [(2, 27)]) (by decide +kernel) rfl ?_
  refine zwW_gs C.1 (kd := 2) (bn := 0) (n := 10) (t := 0) (lo := 0) (hi := 8) (nx := 4) (by decide +kernel) ?_
  intro v1 ev1 lv1 uv1
  refine zwW_p [(0, 8, 0)] (q := 6) (ls' := [(2, 27), (0, a), (0, b), (0, c)]) (st' := [(0, 8), (0, v1)]) (by decide +kernel) rfl ?_
  refine zwic_ge (q := 49) (nx := 9) (by decide +kernel) (fun c2 => ?_) (fun c2 => ?_)
  · refine zwW_retv (nx := 50) (a := 0) (b := 0) (by decide +kernel) ?_
    exact ⟨C, X.le (by decide) (by decide), by omega⟩
  · refine zwW_p [(1, 0, 2)] (q := 10) (ls' := [(2, 27), (0, a), (0, b), (0, c)]) (st' := [(2, 27)]) (by decide +kernel) rfl ?_
    refine zwW_gc C.1 (kd := 2) (bn := 4) (n := 10) (c := 28) (nx := 13) (by decide +kernel) ?_
    refine zwW_p [(1, 0, 2)] (q := 14) (ls' := [(2, 27), (0, a), (0, b), (0, c)]) (st' := [(2, 27), (2, 28)]) (by decide +kernel) rfl ?_
    refine zwW_gs C.1 (kd := 2) (bn := 0) (n := 10) (t := 0) (lo := 0) (hi := 8) (nx := 17) (by decide +kernel) ?_
    intro v3 ev3 lv3 uv3
    refine zwW_p [(1, 1, 0)] (q := 18) (ls' := [(2, 27), (0, a), (0, b), (0, c)]) (st' := [(0, a), (0, v3), (2, 28)]) (by decide +kernel) rfl ?_
    refine zwW_as C.1 (a1 := 28) (a2 := 28) (n := 8) (lo := -2147483648) (hi := 2147483647) (nx := 19) (by decide +kernel) ⟨by decide, by decide⟩ ⟨by omega, by omega⟩ ⟨by omega, by omega⟩ ?_
    intro h4 eh4 Ih4
    have Ch4 : CI h4 := C.wc eh4 Ih4 (by decide) (by decide)
    have Qh4 : zXR [(28, 28, 0, 8)] 0 0 h h4 := zXR.wc eh4 rfl ⟨by decide, by decide, Or.inl (by decide)⟩ ⟨by omega, by omega⟩
    have Xh4 : zXR msx161 (0) (0) h h4 := X.tr (c2 := 0) (s2 := 0) Qh4 (by decide +kernel) (by decide) (by decide)
    have th4_27_0 : fld h4 27 0 = fld h 27 0 := Qh4.f (a1 := 27) (a2 := 27) (j1 := 0) (j2 := 1) (by decide +kernel) ⟨by decide, by decide⟩ ⟨by decide, by decide⟩ ⟨by decide, by decide⟩
    refine zwW_p [(1, 0, 2)] (q := 20) (ls' := [(2, 27), (0, a), (0, b), (0, c)]) (st' := [(2, 27)]) (by decide +kernel) rfl ?_
    refine zwW_gc Ch4.1 (kd := 2) (bn := 5) (n := 10) (c := 29) (nx := 23) (by decide +kernel) ?_
    refine zwW_p [(1, 0, 2)] (q := 24) (ls' := [(2, 27), (0, a), (0, b), (0, c)]) (st' := [(2, 27), (2, 29)]) (by decide +kernel) rfl ?_
    refine zwW_gs Ch4.1 (kd := 2) (bn := 0) (n := 10) (t := 0) (lo := 0) (hi := 8) (nx := 27) (by decide +kernel) ?_
    intro v5 ev5 lv5 uv5
    refine zwW_p [(1, 2, 0)] (q := 28) (ls' := [(2, 27), (0, a), (0, b), (0, c)]) (st' := [(0, b), (0, v5), (2, 29)]) (by decide +kernel) rfl ?_
    refine zwW_as Ch4.1 (a1 := 29) (a2 := 29) (n := 8) (lo := -2147483648) (hi := 2147483647) (nx := 29) (by decide +kernel) ⟨by decide, by decide⟩ ⟨by omega, by omega⟩ ⟨by omega, by omega⟩ ?_
    intro h6 eh6 Ih6
    have Ch6 : CI h6 := Ch4.wc eh6 Ih6 (by decide) (by decide)
    have Qh6 : zXR [(29, 29, 0, 8)] 0 0 h4 h6 := zXR.wc eh6 rfl ⟨by decide, by decide, Or.inl (by decide)⟩ ⟨by omega, by omega⟩
    have Xh6 : zXR msx161 (0) (0) h h6 := Xh4.tr (c2 := 0) (s2 := 0) Qh6 (by decide +kernel) (by decide) (by decide)
    have th6_27_0 : fld h6 27 0 = fld h4 27 0 := Qh6.f (a1 := 27) (a2 := 27) (j1 := 0) (j2 := 1) (by decide +kernel) ⟨by decide, by decide⟩ ⟨by decide, by decide⟩ ⟨by decide, by decide⟩
    refine zwW_p [(1, 0, 2)] (q := 30) (ls' := [(2, 27), (0, a), (0, b), (0, c)]) (st' := [(2, 27)]) (by decide +kernel) rfl ?_
    refine zwW_gc Ch6.1 (kd := 2) (bn := 6) (n := 10) (c := 30) (nx := 33) (by decide +kernel) ?_
    refine zwW_p [(1, 0, 2)] (q := 34) (ls' := [(2, 27), (0, a), (0, b), (0, c)]) (st' := [(2, 27), (2, 30)]) (by decide +kernel) rfl ?_
    refine zwW_gs Ch6.1 (kd := 2) (bn := 0) (n := 10) (t := 0) (lo := 0) (hi := 8) (nx := 37) (by decide +kernel) ?_
    intro v7 ev7 lv7 uv7
    refine zwW_p [(1, 3, 0)] (q := 38) (ls' := [(2, 27), (0, a), (0, b), (0, c)]) (st' := [(0, c), (0, v7), (2, 30)]) (by decide +kernel) rfl ?_
    refine zwW_as Ch6.1 (a1 := 30) (a2 := 30) (n := 8) (lo := -2147483648) (hi := 2147483647) (nx := 39) (by decide +kernel) ⟨by decide, by decide⟩ ⟨by omega, by omega⟩ ⟨by omega, by omega⟩ ?_
    intro h8 eh8 Ih8
    have Ch8 : CI h8 := Ch6.wc eh8 Ih8 (by decide) (by decide)
    have Qh8 : zXR [(30, 30, 0, 8)] 0 0 h6 h8 := zXR.wc eh8 rfl ⟨by decide, by decide, Or.inl (by decide)⟩ ⟨by omega, by omega⟩
    have Xh8 : zXR msx161 (0) (0) h h8 := Xh6.tr (c2 := 0) (s2 := 0) Qh8 (by decide +kernel) (by decide) (by decide)
    have th8_27_0 : fld h8 27 0 = fld h6 27 0 := Qh8.f (a1 := 27) (a2 := 27) (j1 := 0) (j2 := 1) (by decide +kernel) ⟨by decide, by decide⟩ ⟨by decide, by decide⟩ ⟨by decide, by decide⟩
    refine zwW_p [(1, 0, 2), (12, 0, 0)] (q := 41) (ls' := [(2, 27), (0, a), (0, b), (0, c)]) (st' := [(2, 27), (2, 27)]) (by decide +kernel) rfl ?_
    refine zwW_gs Ch8.1 (kd := 2) (bn := 0) (n := 10) (t := 0) (lo := 0) (hi := 8) (nx := 44) (by decide +kernel) ?_
    intro v9 ev9 lv9 uv9
    refine zwW_p [(0, 1, 0)] (q := 45) (ls' := [(2, 27), (0, a), (0, b), (0, c)]) (st' := [(0, 1), (0, v9), (2, 27)]) (by decide +kernel) rfl ?_
    refine zwW_add (nx := 46) (by decide +kernel) ⟨by omega, by omega⟩ ?_
    refine zwW_ps Ch8.1 (kd := 2) (bn := 0) (n := 10) (lo := 0) (hi := 8) (nx := 49) (by decide +kernel) ⟨by omega, by omega⟩ ?_
    intro h10 eh10 Ih10
    have Ch10 : CI h10 := Ch8.wc eh10 Ih10 (by decide) (by decide)
    have Qh10 : zXR [(27, 27, 0, 1)] 0 0 h8 h10 := zXR.wc eh10 rfl ⟨by decide, by decide, Or.inl (by decide)⟩ ⟨by decide, by decide⟩
    have Xh10 : zXR msx161 (0) (0) h h10 := Xh8.tr (c2 := 0) (s2 := 0) Qh10 (by decide +kernel) (by decide) (by decide)
    have th10_27_0 : fld h10 27 0 = (v9 + 1) := by rw [eh10]; exact fld_wr_eq (Ch8.1.s (a1 := 27) (a2 := 27) (k := 2) (n := 10) (by decide +kernel) (by decide) (by decide)) (by decide)
    refine zwW_retv (nx := 50) (a := 0) (b := 0) (by decide +kernel) ?_
    exact ⟨Ch10, Xh10.le (by decide) (by decide), by omega⟩
-- WheelLand$Gifts.priceOf(I)I
theorem x216 {sc : List Int} (h : Hp) (C : CI h) (a : Int) (q_a : -2147483648 ≤ a ∧ a ≤ 2147483647) : zwC sc 1 216 [(2, 27), (0, a)] h (zwRt 0 (fun x g => h = g ∧ (-2147483648 ≤ x ∧ x ≤ 2147483647))) := by
  refine zwC_of (D := 0) 4 (by decide +kernel) rfl (ls := [(2, 27), (0, a), (9, 0), (9, 0)]) rfl ?_
  refine zwW_p [(0, 0, 0), (2, 2, 0), (0, 0, 0), (2, 3, 0)] (q := 4) (ls' := [(2, 27), (0, a), (0, 0), (0, 0)]) (st' := []) (by decide +kernel) rfl ?_
  have L1 : ∀ (n : Nat) (v2L1 v3L1 : Int), n = ((1000 - v3L1)).toNat → (-2147483648 ≤ v2L1 ∧ v2L1 ≤ 2147483647) → (0 ≤ v3L1 ∧ v3L1 ≤ 1000) → zwW sc (0) 216 4 [(2, 27), (0, a), (0, v2L1), (0, v3L1)] [] h (zwRt 0 (fun x g => h = g ∧ (-2147483648 ≤ x ∧ x ≤ 2147483647))) := by
    intro n
    induction n using Nat.strongRecOn with
    | ind n IHL1 =>
      intro v2L1 v3L1 hnL1 iL1_0 iL1_1
      refine zwW_p [(1, 3, 0), (1, 0, 2)] (q := 6) (ls' := [(2, 27), (0, a), (0, v2L1), (0, v3L1)]) (st' := [(2, 27), (0, v3L1)]) (by decide +kernel) rfl ?_
      refine zwW_gs C.1 (kd := 2) (bn := 0) (n := 10) (t := 0) (lo := 0) (hi := 8) (nx := 9) (by decide +kernel) ?_
      intro v2 ev2 lv2 uv2
      refine zwic_ge (q := 41) (nx := 12) (by decide +kernel) (fun c3 => ?_) (fun c3 => ?_)
      · refine zwW_p [(1, 2, 0)] (q := 42) (ls' := [(2, 27), (0, a), (0, v2L1), (0, v3L1)]) (st' := [(0, v2L1)]) (by decide +kernel) rfl ?_
        refine zwW_ret (nx := 43) (a := 0) (b := 0) (by decide +kernel) rfl (Or.inl rfl) ?_
        exact ⟨rfl, by omega⟩
      · refine zwW_p [(1, 3, 0), (0, 8, 0)] (q := 15) (ls' := [(2, 27), (0, a), (0, v2L1), (0, v3L1)]) (st' := [(0, 8), (0, v3L1)]) (by decide +kernel) rfl ?_
        refine zwic_ge (q := 41) (nx := 18) (by decide +kernel) (fun c4 => ?_) (fun c4 => ?_)
        · exfalso; omega
        · refine zwW_p [(1, 1, 0), (1, 3, 0)] (q := 20) (ls' := [(2, 27), (0, a), (0, v2L1), (0, v3L1)]) (st' := [(0, v3L1), (0, a)]) (by decide +kernel) rfl ?_
          refine zwW_any2 (a := 9) (nx := 21) (by decide +kernel) rfl ⟨by omega, by omega⟩ (Or.inr ⟨by decide, by decide⟩) ?_
          intro v5 lv5 uv5
          refine zwW_p [(0, 1, 0)] (q := 22) (ls' := [(2, 27), (0, a), (0, v2L1), (0, v3L1)]) (st' := [(0, 1), (0, v5)]) (by decide +kernel) rfl ?_
          refine zwW_any2 (a := 5) (nx := 23) (by decide +kernel) rfl ⟨by omega, by omega⟩ (Or.inr ⟨by decide, by decide⟩) ?_
          intro v6 lv6 uv6
          refine zwif_eq (q := 35) (nx := 26) (by decide +kernel) (fun c7 => ?_) (fun c7 => ?_)
          · refine zwW_inc (i := 3) (c := 1) (x := v3L1) (nx := 38) (by decide +kernel) rfl ⟨by omega, by omega⟩ (ls' := [(2, 27), (0, a), (0, v2L1), (0, (v3L1 + 1))]) rfl ?_
            refine zwW_p [(24, 4, 0)] (q := 4) (ls' := [(2, 27), (0, a), (0, v2L1), (0, (v3L1 + 1))]) (st' := []) (by decide +kernel) rfl ?_
            exact IHL1 ((1000 - (v3L1 + 1))).toNat (by omega) v2L1 (v3L1 + 1) rfl (by omega) (by omega)
          · refine zwW_p [(1, 2, 0), (1, 0, 2)] (q := 28) (ls' := [(2, 27), (0, a), (0, v2L1), (0, v3L1)]) (st' := [(2, 27), (0, v2L1)]) (by decide +kernel) rfl ?_
            refine zwW_gc C.1 (kd := 2) (bn := 4) (n := 10) (c := 28) (nx := 31) (by decide +kernel) ?_
            refine zwW_p [(1, 3, 0)] (q := 32) (ls' := [(2, 27), (0, a), (0, v2L1), (0, v3L1)]) (st' := [(0, v3L1), (2, 28), (0, v2L1)]) (by decide +kernel) rfl ?_
            refine zwW_al C.1 (a1 := 28) (a2 := 28) (kd := 20) (n := 8) (t := 0) (lo := -2147483648) (hi := 2147483647) (nx := 33) (by decide +kernel) ⟨by decide, by decide⟩ ⟨by omega, by omega⟩ ?_
            intro v8 ev8 lv8 uv8
            refine zwW_adw (nx := 34) (by decide +kernel) ?_
            intro v9 ev9 lv9 uv9
            refine zwW_p [(2, 2, 0)] (q := 35) (ls' := [(2, 27), (0, a), (0, v9), (0, v3L1)]) (st' := []) (by decide +kernel) rfl ?_
            refine zwW_inc (i := 3) (c := 1) (x := v3L1) (nx := 38) (by decide +kernel) rfl ⟨by omega, by omega⟩ (ls' := [(2, 27), (0, a), (0, v9), (0, (v3L1 + 1))]) rfl ?_
            refine zwW_p [(24, 4, 0)] (q := 4) (ls' := [(2, 27), (0, a), (0, v9), (0, (v3L1 + 1))]) (st' := []) (by decide +kernel) rfl ?_
            exact IHL1 ((1000 - (v3L1 + 1))).toNat (by omega) v9 (v3L1 + 1) rfl (by omega) (by omega)
  exact L1 _ 0 0 rfl (by omega) (by omega)
def msx217 : Zms := [(31, 31, 0, 20), (32, 32, 0, 20), (33, 33, 0, 8)]
-- WheelLand$Gifts.standAsNow(Ljava/util/ArrayList;Ljava/util/ArrayList;)V
theorem x217 {sc : List Int} (h : Hp) (C : CI h) : zwC sc 5 217 [(2, 27), (2, 2), (2, 3)] h (zwRv (fun g => CI g ∧ zXR msx217 (0) (0) h g)) := by
  refine zwC_of (D := 4) 4 (by decide +kernel) rfl (ls := [(2, 27), (2, 2), (2, 3), (9, 0)]) rfl ?_
  have X : zXR msx217 0 0 h h := zXR.rf _ _
  refine zwW_p [(0, 0, 0), (2, 3, 0)] (q := 2) (ls' := [(2, 27), (2, 2), (2, 3), (0, 0)]) (st' := []) (by decide +kernel) rfl ?_
  have L1 : ∀ (n : Nat) (v3L1 : Int) (hL1 : Hp), n = ((1000 - v3L1)).toNat → (0 ≤ v3L1 ∧ v3L1 ≤ 1000) → CI hL1 → zXR msx217 (0) (0) h hL1 → zwW sc (4) 217 2 [(2, 27), (2, 2), (2, 3), (0, v3L1)] [] hL1 (zwRv (fun g => CI g ∧ zXR msx217 (0) (0) h g)) := by
    intro n
    induction n using Nat.strongRecOn with
    | ind n IHL1 =>
      intro v3L1 hL1 hnL1 iL1_0 ChL1 XhL1
      refine zwW_p [(1, 3, 0), (1, 2, 2)] (q := 4) (ls' := [(2, 27), (2, 2), (2, 3), (0, v3L1)]) (st' := [(2, 3), (0, v3L1)]) (by decide +kernel) rfl ?_
      refine zwW_cm ChL1.1 (op := 60) (k' := 96) (n := 0) (kd := 0) (m := 3) (nx := 7) (r := 3) (tl := []) (st' := [(0, v3L1)]) (by decide +kernel) rfl (by decide +kernel) rfl (x96_3 ChL1) ?_
      rintro v2 _ ⟨rfl, ev2⟩
      have bv2 := zLb_3 ChL1
      refine zwic_ge (q := 56) (nx := 10) (by decide +kernel) (fun c3 => ?_) (fun c3 => ?_)
      · refine zwW_p [(0, 0, 0), (2, 3, 0)] (q := 58) (ls' := [(2, 27), (2, 2), (2, 3), (0, 0)]) (st' := []) (by decide +kernel) rfl ?_
        have L4 : ∀ (n : Nat) (v3L4 : Int) (hL4 : Hp), n = ((1000 - v3L4)).toNat → (0 ≤ v3L4 ∧ v3L4 ≤ 1000) → CI hL4 → zXR msx217 (0) (0) h hL4 → zwW sc (4) 217 58 [(2, 27), (2, 2), (2, 3), (0, v3L4)] [] hL4 (zwRv (fun g => CI g ∧ zXR msx217 (0) (0) h g)) := by
          intro n
          induction n using Nat.strongRecOn with
          | ind n IHL4 =>
            intro v3L4 hL4 hnL4 iL4_0 ChL4 XhL4
            refine zwW_p [(1, 3, 0), (1, 1, 2)] (q := 60) (ls' := [(2, 27), (2, 2), (2, 3), (0, v3L4)]) (st' := [(2, 2), (0, v3L4)]) (by decide +kernel) rfl ?_
            refine zwW_cm ChL4.1 (op := 60) (k' := 96) (n := 0) (kd := 0) (m := 3) (nx := 63) (r := 2) (tl := []) (st' := [(0, v3L4)]) (by decide +kernel) rfl (by decide +kernel) rfl (x96_2 ChL4) ?_
            rintro v5 _ ⟨rfl, ev5⟩
            have bv5 := zLb_2 ChL4
            refine zwic_ge (q := 95) (nx := 66) (by decide +kernel) (fun c6 => ?_) (fun c6 => ?_)
            · refine zwW_retv (nx := 96) (a := 0) (b := 0) (by decide +kernel) ?_
              exact ⟨ChL4, XhL4.le (by decide) (by decide)⟩
            · refine zwW_p [(1, 3, 0), (0, 8, 0)] (q := 69) (ls' := [(2, 27), (2, 2), (2, 3), (0, v3L4)]) (st' := [(0, 8), (0, v3L4)]) (by decide +kernel) rfl ?_
              refine zwic_ge (q := 95) (nx := 72) (by decide +kernel) (fun c7 => ?_) (fun c7 => ?_)
              · exfalso; omega
              · refine zwW_p [(1, 0, 2)] (q := 73) (ls' := [(2, 27), (2, 2), (2, 3), (0, v3L4)]) (st' := [(2, 27)]) (by decide +kernel) rfl ?_
                refine zwW_gc ChL4.1 (kd := 2) (bn := 9) (n := 10) (c := 33) (nx := 76) (by decide +kernel) ?_
                refine zwW_p [(1, 3, 0), (1, 1, 2), (1, 3, 0)] (q := 79) (ls' := [(2, 27), (2, 2), (2, 3), (0, v3L4)]) (st' := [(0, v3L4), (2, 2), (0, v3L4), (2, 33)]) (by decide +kernel) rfl ?_
                refine zwW_cm ChL4.1 (op := 60) (k' := 123) (n := 1) (kd := 0) (m := 3) (nx := 82) (r := 2) (tl := [(0, v3L4)]) (st' := [(0, v3L4), (2, 33)]) (by decide +kernel) rfl (by decide +kernel) rfl (x123_2 ChL4 (i := v3L4) ⟨by omega, by omega⟩) ?_
                rintro v8 _ ⟨rfl, Gv8, ev8⟩
                have lv8 := Gv8.1
                refine zwW_cast (a := 11) (kd := 11) (n := 17) (nx := 85) (by decide +kernel) rfl (Or.inr Gv8.2.1) ?_
                refine zwX_gi ChL4 (kd := 11) (bn := 3) (n := 17) (nx := 88) (by decide +kernel) Gv8.2.1 Gv8.1 rfl ?_
                intro v9 ev9 lv9 uv9
                refine zwW_as ChL4.1 (a1 := 33) (a2 := 33) (n := 8) (lo := -2147483648) (hi := 2147483647) (nx := 89) (by decide +kernel) ⟨by decide, by decide⟩ ⟨by omega, by omega⟩ ⟨by omega, by omega⟩ ?_
                intro h10 eh10 Ih10
                have Ch10 : CI h10 := ChL4.wc eh10 Ih10 (by decide) (by decide)
                have Qh10 : zXR [(33, 33, 0, 8)] 0 0 hL4 h10 := zXR.wc eh10 rfl ⟨by decide, by decide, Or.inl (by decide)⟩ ⟨by omega, by omega⟩
                have Xh10 : zXR msx217 (0) (0) h h10 := XhL4.tr (c2 := 0) (s2 := 0) Qh10 (by decide +kernel) (by decide) (by decide)
                have th10_2_2 : fld h10 2 2 = fld hL4 2 2 := Qh10.f (a1 := 2) (a2 := 2) (j1 := 2) (j2 := 3) (by decide +kernel) ⟨by decide, by decide⟩ ⟨by decide, by decide⟩ ⟨by decide, by decide⟩
                have th10_3_2 : fld h10 3 2 = fld hL4 3 2 := Qh10.f (a1 := 3) (a2 := 3) (j1 := 2) (j2 := 3) (by decide +kernel) ⟨by decide, by decide⟩ ⟨by decide, by decide⟩ ⟨by decide, by decide⟩
                refine zwW_inc (i := 3) (c := 1) (x := v3L4) (nx := 92) (by decide +kernel) rfl ⟨by omega, by omega⟩ (ls' := [(2, 27), (2, 2), (2, 3), (0, (v3L4 + 1))]) rfl ?_
                refine zwW_p [(24, 58, 0)] (q := 58) (ls' := [(2, 27), (2, 2), (2, 3), (0, (v3L4 + 1))]) (st' := []) (by decide +kernel) rfl ?_
                exact IHL4 ((1000 - (v3L4 + 1))).toNat (by omega) (v3L4 + 1) h10 rfl (by omega) Ch10 (Xh10.le (by decide) (by decide))
        exact L4 _ 0 hL1 rfl (by omega) ChL1 (XhL1.le (by decide) (by decide))
      · refine zwW_p [(1, 3, 0), (0, 20, 0)] (q := 13) (ls' := [(2, 27), (2, 2), (2, 3), (0, v3L1)]) (st' := [(0, 20), (0, v3L1)]) (by decide +kernel) rfl ?_
        refine zwic_ge (q := 56) (nx := 16) (by decide +kernel) (fun c11 => ?_) (fun c11 => ?_)
        · exfalso; omega
        · refine zwW_p [(1, 0, 2)] (q := 17) (ls' := [(2, 27), (2, 2), (2, 3), (0, v3L1)]) (st' := [(2, 27)]) (by decide +kernel) rfl ?_
          refine zwW_gc ChL1.1 (kd := 2) (bn := 7) (n := 10) (c := 31) (nx := 20) (by decide +kernel) ?_
          refine zwW_p [(1, 3, 0), (1, 2, 2), (1, 3, 0)] (q := 23) (ls' := [(2, 27), (2, 2), (2, 3), (0, v3L1)]) (st' := [(0, v3L1), (2, 3), (0, v3L1), (2, 31)]) (by decide +kernel) rfl ?_
          refine zwW_cm ChL1.1 (op := 60) (k' := 123) (n := 1) (kd := 0) (m := 3) (nx := 26) (r := 3) (tl := [(0, v3L1)]) (st' := [(0, v3L1), (2, 31)]) (by decide +kernel) rfl (by decide +kernel) rfl (x123_3 ChL1 (i := v3L1) ⟨by omega, by omega⟩) ?_
          rintro v12 _ ⟨rfl, Gv12, ev12⟩
          have lv12 := Gv12.1
          refine zwW_cast (a := 4) (kd := 4) (n := 19) (nx := 29) (by decide +kernel) rfl (Or.inr Gv12.2.1) ?_
          refine zwX_gi ChL1 (kd := 4) (bn := 2) (n := 19) (nx := 32) (by decide +kernel) Gv12.2.1 Gv12.1 rfl ?_
          intro v13 ev13 lv13 uv13
          refine zwW_as ChL1.1 (a1 := 31) (a2 := 31) (n := 20) (lo := -2147483648) (hi := 2147483647) (nx := 33) (by decide +kernel) ⟨by decide, by decide⟩ ⟨by omega, by omega⟩ ⟨by omega, by omega⟩ ?_
          intro h14 eh14 Ih14
          have Ch14 : CI h14 := ChL1.wc eh14 Ih14 (by decide) (by decide)
          have Qh14 : zXR [(31, 31, 0, 20)] 0 0 hL1 h14 := zXR.wc eh14 rfl ⟨by decide, by decide, Or.inl (by decide)⟩ ⟨by omega, by omega⟩
          have Xh14 : zXR msx217 (0) (0) h h14 := XhL1.tr (c2 := 0) (s2 := 0) Qh14 (by decide +kernel) (by decide) (by decide)
          have th14_2_2 : fld h14 2 2 = fld hL1 2 2 := Qh14.f (a1 := 2) (a2 := 2) (j1 := 2) (j2 := 3) (by decide +kernel) ⟨by decide, by decide⟩ ⟨by decide, by decide⟩ ⟨by decide, by decide⟩
          have th14_3_2 : fld h14 3 2 = fld hL1 3 2 := Qh14.f (a1 := 3) (a2 := 3) (j1 := 2) (j2 := 3) (by decide +kernel) ⟨by decide, by decide⟩ ⟨by decide, by decide⟩ ⟨by decide, by decide⟩
          refine zwW_p [(1, 0, 2)] (q := 34) (ls' := [(2, 27), (2, 2), (2, 3), (0, v3L1)]) (st' := [(2, 27)]) (by decide +kernel) rfl ?_
          refine zwW_gc Ch14.1 (kd := 2) (bn := 8) (n := 10) (c := 32) (nx := 37) (by decide +kernel) ?_
          refine zwW_p [(1, 3, 0), (1, 2, 2), (1, 3, 0)] (q := 40) (ls' := [(2, 27), (2, 2), (2, 3), (0, v3L1)]) (st' := [(0, v3L1), (2, 3), (0, v3L1), (2, 32)]) (by decide +kernel) rfl ?_
          refine zwW_cm Ch14.1 (op := 60) (k' := 123) (n := 1) (kd := 0) (m := 3) (nx := 43) (r := 3) (tl := [(0, v3L1)]) (st' := [(0, v3L1), (2, 32)]) (by decide +kernel) rfl (by decide +kernel) rfl (x123_3 Ch14 (i := v3L1) ⟨by omega, by omega⟩) ?_
          rintro v15 _ ⟨rfl, Gv15, ev15⟩
          have lv15 := Gv15.1
          refine zwW_cast (a := 4) (kd := 4) (n := 19) (nx := 46) (by decide +kernel) rfl (Or.inr Gv15.2.1) ?_
          refine zwX_gi Ch14 (kd := 4) (bn := 3) (n := 19) (nx := 49) (by decide +kernel) Gv15.2.1 Gv15.1 rfl ?_
          intro v16 ev16 lv16 uv16
          refine zwW_as Ch14.1 (a1 := 32) (a2 := 32) (n := 20) (lo := -2147483648) (hi := 2147483647) (nx := 50) (by decide +kernel) ⟨by decide, by decide⟩ ⟨by omega, by omega⟩ ⟨by omega, by omega⟩ ?_
          intro h17 eh17 Ih17
          have Ch17 : CI h17 := Ch14.wc eh17 Ih17 (by decide) (by decide)
          have Qh17 : zXR [(32, 32, 0, 20)] 0 0 h14 h17 := zXR.wc eh17 rfl ⟨by decide, by decide, Or.inl (by decide)⟩ ⟨by omega, by omega⟩
          have Xh17 : zXR msx217 (0) (0) h h17 := Xh14.tr (c2 := 0) (s2 := 0) Qh17 (by decide +kernel) (by decide) (by decide)
          have th17_2_2 : fld h17 2 2 = fld h14 2 2 := Qh17.f (a1 := 2) (a2 := 2) (j1 := 2) (j2 := 3) (by decide +kernel) ⟨by decide, by decide⟩ ⟨by decide, by decide⟩ ⟨by decide, by decide⟩
          have th17_3_2 : fld h17 3 2 = fld h14 3 2 := Qh17.f (a1 := 3) (a2 := 3) (j1 := 2) (j2 := 3) (by decide +kernel) ⟨by decide, by decide⟩ ⟨by decide, by decide⟩ ⟨by decide, by decide⟩
          refine zwW_inc (i := 3) (c := 1) (x := v3L1) (nx := 53) (by decide +kernel) rfl ⟨by omega, by omega⟩ (ls' := [(2, 27), (2, 2), (2, 3), (0, (v3L1 + 1))]) rfl ?_
          refine zwW_p [(24, 2, 0)] (q := 2) (ls' := [(2, 27), (2, 2), (2, 3), (0, (v3L1 + 1))]) (st' := []) (by decide +kernel) rfl ?_
          exact IHL1 ((1000 - (v3L1 + 1))).toNat (by omega) (v3L1 + 1) h17 rfl (by omega) Ch17 (Xh17.le (by decide) (by decide))
  exact L1 _ 0 h rfl (by omega) C (X.le (by decide) (by decide))
def msx254 : Zms := [(31, 31, 0, 20), (32, 32, 0, 20), (33, 33, 0, 8)]
-- WheelLand$Gifts.giveOne(III)V
theorem x254 {sc : List Int} (h : Hp) (C : CI h) (a b c : Int) (q_a : -2147483648 ≤ a ∧ a ≤ 2147483647) (q_b : -2147483648 ≤ b ∧ b ≤ 2147483647) (q_c : -2147483648 ≤ c ∧ c ≤ 2147483647) : zwC sc 2 254 [(2, 27), (0, a), (0, b), (0, c)] h (zwRv (fun g => CI g ∧ zXR msx254 (0) (0) h g)) := by
  refine zwC_of (D := 1) 4 (by decide +kernel) rfl (ls := [(2, 27), (0, a), (0, b), (0, c)]) rfl ?_
  have X : zXR msx254 0 0 h h := zXR.rf _ _
  refine zwW_p [(1, 1, 0), (0, 0, 0), (0, 19, 0)] (q := 4) (ls' := [(2, 27), (0, a), (0, b), (0, c)]) (st' := [(0, 19), (0, 0), (0, a)]) (by decide +kernel) rfl ?_
  refine zwW_cs (k' := 98) (n := 3) (nx := 7) (as := [(0, a), (0, 0), (0, 19)]) (st' := []) (by decide +kernel) rfl (x98 h C a 0 19 (by omega) (by omega) (by omega)) rfl ?_
  rintro x _ ⟨rfl, ⟨rfl, c1⟩ | ⟨rfl, c1⟩⟩
  · refine zwif_ne (q := 20) (nx := 10) (by decide +kernel) (fun c2 => ?_) (fun c2 => ?_)
    · refine zwW_retv (nx := 21) (a := 0) (b := 0) (by decide +kernel) ?_
      exact ⟨C, X.le (by decide) (by decide)⟩
    · exfalso; omega
  · refine zwif_ne (q := 20) (nx := 10) (by decide +kernel) (fun c3 => ?_) (fun c3 => ?_)
    · exfalso; omega
    · refine zwW_p [(1, 2, 0), (0, 0, 0), (0, 7, 0)] (q := 14) (ls' := [(2, 27), (0, a), (0, b), (0, c)]) (st' := [(0, 7), (0, 0), (0, b)]) (by decide +kernel) rfl ?_
      refine zwW_cs (k' := 98) (n := 3) (nx := 17) (as := [(0, b), (0, 0), (0, 7)]) (st' := []) (by decide +kernel) rfl (x98 h C b 0 7 (by omega) (by omega) (by omega)) rfl ?_
      rintro x _ ⟨rfl, ⟨rfl, c4⟩ | ⟨rfl, c4⟩⟩
      · refine zwif_eq (q := 21) (nx := 20) (by decide +kernel) (fun c5 => ?_) (fun c5 => ?_)
        · exfalso; omega
        · refine zwW_retv (nx := 21) (a := 0) (b := 0) (by decide +kernel) ?_
          exact ⟨C, X.le (by decide) (by decide)⟩
      · refine zwif_eq (q := 21) (nx := 20) (by decide +kernel) (fun c6 => ?_) (fun c6 => ?_)
        · refine zwW_p [(1, 3, 0)] (q := 22) (ls' := [(2, 27), (0, a), (0, b), (0, c)]) (st' := [(0, c)]) (by decide +kernel) rfl ?_
          refine zwif_ne (q := 46) (nx := 25) (by decide +kernel) (fun c7 => ?_) (fun c7 => ?_)
          · refine zwW_p [(1, 3, 0), (0, 1, 0)] (q := 48) (ls' := [(2, 27), (0, a), (0, b), (0, c)]) (st' := [(0, 1), (0, c)]) (by decide +kernel) rfl ?_
            refine zwic_ne (q := 73) (nx := 51) (by decide +kernel) (fun c8 => ?_) (fun c8 => ?_)
            · refine zwW_p [(1, 0, 2)] (q := 74) (ls' := [(2, 27), (0, a), (0, b), (0, c)]) (st' := [(2, 27)]) (by decide +kernel) rfl ?_
              refine zwW_gc C.1 (kd := 2) (bn := 9) (n := 10) (c := 33) (nx := 77) (by decide +kernel) ?_
              refine zwW_p [(1, 2, 0), (1, 0, 2)] (q := 79) (ls' := [(2, 27), (0, a), (0, b), (0, c)]) (st' := [(2, 27), (0, b), (2, 33)]) (by decide +kernel) rfl ?_
              refine zwW_gc C.1 (kd := 2) (bn := 9) (n := 10) (c := 33) (nx := 82) (by decide +kernel) ?_
              refine zwW_p [(1, 2, 0)] (q := 83) (ls' := [(2, 27), (0, a), (0, b), (0, c)]) (st' := [(0, b), (2, 33), (0, b), (2, 33)]) (by decide +kernel) rfl ?_
              refine zwW_al C.1 (a1 := 33) (a2 := 33) (kd := 20) (n := 8) (t := 0) (lo := -2147483648) (hi := 2147483647) (nx := 84) (by decide +kernel) ⟨by decide, by decide⟩ ⟨by omega, by omega⟩ ?_
              intro v9 ev9 lv9 uv9
              refine zwW_p [(0, 5, 0)] (q := 85) (ls' := [(2, 27), (0, a), (0, b), (0, c)]) (st' := [(0, 5), (0, v9), (0, b), (2, 33)]) (by decide +kernel) rfl ?_
              refine zwW_adw (nx := 86) (by decide +kernel) ?_
              intro v10 ev10 lv10 uv10
              refine zwW_p [(0, 9999, 0)] (q := 89) (ls' := [(2, 27), (0, a), (0, b), (0, c)]) (st' := [(0, 9999), (0, v10), (0, b), (2, 33)]) (by decide +kernel) rfl ?_
              refine zwW_min (nx := 92) (by decide +kernel) rfl ?_
              intro v11 ev11
              refine zwW_as C.1 (a1 := 33) (a2 := 33) (n := 8) (lo := -2147483648) (hi := 2147483647) (nx := 93) (by decide +kernel) ⟨by decide, by decide⟩ ⟨by omega, by omega⟩ ⟨by omega, by omega⟩ ?_
              intro h12 eh12 Ih12
              have Ch12 : CI h12 := C.wc eh12 Ih12 (by decide) (by decide)
              have Qh12 : zXR [(33, 33, 0, 8)] 0 0 h h12 := zXR.wc eh12 rfl ⟨by decide, by decide, Or.inl (by decide)⟩ ⟨by omega, by omega⟩
              have Xh12 : zXR msx254 (0) (0) h h12 := X.tr (c2 := 0) (s2 := 0) Qh12 (by decide +kernel) (by decide) (by decide)
              refine zwW_retv (nx := 94) (a := 0) (b := 0) (by decide +kernel) ?_
              exact ⟨Ch12, Xh12.le (by decide) (by decide)⟩
            · refine zwW_p [(1, 0, 2)] (q := 52) (ls' := [(2, 27), (0, a), (0, b), (0, c)]) (st' := [(2, 27)]) (by decide +kernel) rfl ?_
              refine zwW_gc C.1 (kd := 2) (bn := 8) (n := 10) (c := 32) (nx := 55) (by decide +kernel) ?_
              refine zwW_p [(1, 1, 0), (1, 0, 2)] (q := 57) (ls' := [(2, 27), (0, a), (0, b), (0, c)]) (st' := [(2, 27), (0, a), (2, 32)]) (by decide +kernel) rfl ?_
              refine zwW_gc C.1 (kd := 2) (bn := 8) (n := 10) (c := 32) (nx := 60) (by decide +kernel) ?_
              refine zwW_p [(1, 1, 0)] (q := 61) (ls' := [(2, 27), (0, a), (0, b), (0, c)]) (st' := [(0, a), (2, 32), (0, a), (2, 32)]) (by decide +kernel) rfl ?_
              refine zwW_al C.1 (a1 := 32) (a2 := 32) (kd := 20) (n := 20) (t := 0) (lo := -2147483648) (hi := 2147483647) (nx := 62) (by decide +kernel) ⟨by decide, by decide⟩ ⟨by omega, by omega⟩ ?_
              intro v13 ev13 lv13 uv13
              refine zwW_p [(0, 1, 0)] (q := 63) (ls' := [(2, 27), (0, a), (0, b), (0, c)]) (st' := [(0, 1), (0, v13), (0, a), (2, 32)]) (by decide +kernel) rfl ?_
              refine zwW_adw (nx := 64) (by decide +kernel) ?_
              intro v14 ev14 lv14 uv14
              refine zwW_p [(0, 9, 0)] (q := 66) (ls' := [(2, 27), (0, a), (0, b), (0, c)]) (st' := [(0, 9), (0, v14), (0, a), (2, 32)]) (by decide +kernel) rfl ?_
              refine zwW_min (nx := 69) (by decide +kernel) rfl ?_
              intro v15 ev15
              refine zwW_as C.1 (a1 := 32) (a2 := 32) (n := 20) (lo := -2147483648) (hi := 2147483647) (nx := 70) (by decide +kernel) ⟨by decide, by decide⟩ ⟨by omega, by omega⟩ ⟨by omega, by omega⟩ ?_
              intro h16 eh16 Ih16
              have Ch16 : CI h16 := C.wc eh16 Ih16 (by decide) (by decide)
              have Qh16 : zXR [(32, 32, 0, 20)] 0 0 h h16 := zXR.wc eh16 rfl ⟨by decide, by decide, Or.inl (by decide)⟩ ⟨by omega, by omega⟩
              have Xh16 : zXR msx254 (0) (0) h h16 := X.tr (c2 := 0) (s2 := 0) Qh16 (by decide +kernel) (by decide) (by decide)
              refine zwW_p [(24, 93, 0)] (q := 93) (ls' := [(2, 27), (0, a), (0, b), (0, c)]) (st' := []) (by decide +kernel) rfl ?_
              refine zwW_retv (nx := 94) (a := 0) (b := 0) (by decide +kernel) ?_
              exact ⟨Ch16, Xh16.le (by decide) (by decide)⟩
          · refine zwW_p [(1, 0, 2)] (q := 26) (ls' := [(2, 27), (0, a), (0, b), (0, c)]) (st' := [(2, 27)]) (by decide +kernel) rfl ?_
            refine zwW_gc C.1 (kd := 2) (bn := 7) (n := 10) (c := 31) (nx := 29) (by decide +kernel) ?_
            refine zwW_p [(1, 1, 0), (1, 0, 2)] (q := 31) (ls' := [(2, 27), (0, a), (0, b), (0, c)]) (st' := [(2, 27), (0, a), (2, 31)]) (by decide +kernel) rfl ?_
            refine zwW_gc C.1 (kd := 2) (bn := 7) (n := 10) (c := 31) (nx := 34) (by decide +kernel) ?_
            refine zwW_p [(1, 1, 0)] (q := 35) (ls' := [(2, 27), (0, a), (0, b), (0, c)]) (st' := [(0, a), (2, 31), (0, a), (2, 31)]) (by decide +kernel) rfl ?_
            refine zwW_al C.1 (a1 := 31) (a2 := 31) (kd := 20) (n := 20) (t := 0) (lo := -2147483648) (hi := 2147483647) (nx := 36) (by decide +kernel) ⟨by decide, by decide⟩ ⟨by omega, by omega⟩ ?_
            intro v17 ev17 lv17 uv17
            refine zwW_p [(0, 1, 0)] (q := 37) (ls' := [(2, 27), (0, a), (0, b), (0, c)]) (st' := [(0, 1), (0, v17), (0, a), (2, 31)]) (by decide +kernel) rfl ?_
            refine zwW_adw (nx := 38) (by decide +kernel) ?_
            intro v18 ev18 lv18 uv18
            refine zwW_p [(0, 5, 0)] (q := 39) (ls' := [(2, 27), (0, a), (0, b), (0, c)]) (st' := [(0, 5), (0, v18), (0, a), (2, 31)]) (by decide +kernel) rfl ?_
            refine zwW_min (nx := 42) (by decide +kernel) rfl ?_
            intro v19 ev19
            refine zwW_as C.1 (a1 := 31) (a2 := 31) (n := 20) (lo := -2147483648) (hi := 2147483647) (nx := 43) (by decide +kernel) ⟨by decide, by decide⟩ ⟨by omega, by omega⟩ ⟨by omega, by omega⟩ ?_
            intro h20 eh20 Ih20
            have Ch20 : CI h20 := C.wc eh20 Ih20 (by decide) (by decide)
            have Qh20 : zXR [(31, 31, 0, 20)] 0 0 h h20 := zXR.wc eh20 rfl ⟨by decide, by decide, Or.inl (by decide)⟩ ⟨by omega, by omega⟩
            have Xh20 : zXR msx254 (0) (0) h h20 := X.tr (c2 := 0) (s2 := 0) Qh20 (by decide +kernel) (by decide) (by decide)
            refine zwW_p [(24, 93, 0)] (q := 93) (ls' := [(2, 27), (0, a), (0, b), (0, c)]) (st' := []) (by decide +kernel) rfl ?_
            refine zwW_retv (nx := 94) (a := 0) (b := 0) (by decide +kernel) ?_
            exact ⟨Ch20, Xh20.le (by decide) (by decide)⟩
        · exfalso; omega
def msx218 : Zms := [(31, 31, 0, 20), (32, 32, 0, 20), (33, 33, 0, 8)]
-- WheelLand$Gifts.give(ILjava/util/ArrayList;)V
theorem x218 {sc : List Int} (h : Hp) (C : CI h) (a : Int) (q_a : -2147483648 ≤ a ∧ a ≤ 2147483647) : zwC sc 5 218 [(2, 27), (0, a), (2, 3)] h (zwRv (fun g => CI g ∧ zXR msx218 (0) (0) h g)) := by
  refine zwC_of (D := 4) 5 (by decide +kernel) rfl (ls := [(2, 27), (0, a), (2, 3), (9, 0), (9, 0)]) rfl ?_
  have X : zXR msx218 0 0 h h := zXR.rf _ _
  refine zwW_p [(0, 0, 0), (2, 3, 0)] (q := 2) (ls' := [(2, 27), (0, a), (2, 3), (0, 0), (9, 0)]) (st' := []) (by decide +kernel) rfl ?_
  have L1 : ∀ (n : Nat) (v3L1 : Int) (w4L1 : Vl) (hL1 : Hp), n = ((1000 - v3L1)).toNat → (0 ≤ v3L1 ∧ v3L1 ≤ 1000) → CI hL1 → zXR msx218 (0) (0) h hL1 → zwW sc (4) 218 2 [(2, 27), (0, a), (2, 3), (0, v3L1), w4L1] [] hL1 (zwRv (fun g => CI g ∧ zXR msx218 (0) (0) h g)) := by
    intro n
    induction n using Nat.strongRecOn with
    | ind n IHL1 =>
      intro v3L1 w4L1 hL1 hnL1 iL1_0 ChL1 XhL1
      refine zwW_p [(1, 3, 0), (1, 0, 2)] (q := 4) (ls' := [(2, 27), (0, a), (2, 3), (0, v3L1), w4L1]) (st' := [(2, 27), (0, v3L1)]) (by decide +kernel) rfl ?_
      refine zwW_gs ChL1.1 (kd := 2) (bn := 0) (n := 10) (t := 0) (lo := 0) (hi := 8) (nx := 7) (by decide +kernel) ?_
      intro v2 ev2 lv2 uv2
      refine zwic_ge (q := 79) (nx := 10) (by decide +kernel) (fun c3 => ?_) (fun c3 => ?_)
      · refine zwW_retv (nx := 80) (a := 0) (b := 0) (by decide +kernel) ?_
        exact ⟨ChL1, XhL1.le (by decide) (by decide)⟩
      · refine zwW_p [(1, 3, 0), (0, 8, 0)] (q := 13) (ls' := [(2, 27), (0, a), (2, 3), (0, v3L1), w4L1]) (st' := [(0, 8), (0, v3L1)]) (by decide +kernel) rfl ?_
        refine zwic_ge (q := 79) (nx := 16) (by decide +kernel) (fun c4 => ?_) (fun c4 => ?_)
        · exfalso; omega
        · refine zwW_p [(1, 0, 2)] (q := 17) (ls' := [(2, 27), (0, a), (2, 3), (0, v3L1), w4L1]) (st' := [(2, 27)]) (by decide +kernel) rfl ?_
          refine zwW_gc ChL1.1 (kd := 2) (bn := 5) (n := 10) (c := 29) (nx := 20) (by decide +kernel) ?_
          refine zwW_p [(1, 3, 0)] (q := 21) (ls' := [(2, 27), (0, a), (2, 3), (0, v3L1), w4L1]) (st' := [(0, v3L1), (2, 29)]) (by decide +kernel) rfl ?_
          refine zwW_al ChL1.1 (a1 := 29) (a2 := 29) (kd := 20) (n := 8) (t := 0) (lo := -2147483648) (hi := 2147483647) (nx := 22) (by decide +kernel) ⟨by decide, by decide⟩ ⟨by omega, by omega⟩ ?_
          intro v5 ev5 lv5 uv5
          refine zwW_p [(2, 4, 0), (1, 1, 0), (1, 3, 0)] (q := 26) (ls' := [(2, 27), (0, a), (2, 3), (0, v3L1), (0, v5)]) (st' := [(0, v3L1), (0, a)]) (by decide +kernel) rfl ?_
          refine zwW_any2 (a := 9) (nx := 27) (by decide +kernel) rfl ⟨by omega, by omega⟩ (Or.inr ⟨by decide, by decide⟩) ?_
          intro v6 lv6 uv6
          refine zwW_p [(0, 1, 0)] (q := 28) (ls' := [(2, 27), (0, a), (2, 3), (0, v3L1), (0, v5)]) (st' := [(0, 1), (0, v6)]) (by decide +kernel) rfl ?_
          refine zwW_any2 (a := 5) (nx := 29) (by decide +kernel) rfl ⟨by omega, by omega⟩ (Or.inr ⟨by decide, by decide⟩) ?_
          intro v7 lv7 uv7
          refine zwif_eq (q := 73) (nx := 32) (by decide +kernel) (fun c8 => ?_) (fun c8 => ?_)
          · refine zwW_inc (i := 3) (c := 1) (x := v3L1) (nx := 76) (by decide +kernel) rfl ⟨by omega, by omega⟩ (ls' := [(2, 27), (0, a), (2, 3), (0, (v3L1 + 1)), (0, v5)]) rfl ?_
            refine zwW_p [(24, 2, 0)] (q := 2) (ls' := [(2, 27), (0, a), (2, 3), (0, (v3L1 + 1)), (0, v5)]) (st' := []) (by decide +kernel) rfl ?_
            exact IHL1 ((1000 - (v3L1 + 1))).toNat (by omega) (v3L1 + 1) (0, v5) hL1 rfl (by omega) ChL1 (XhL1.le (by decide) (by decide))
          · refine zwW_p [(1, 4, 0)] (q := 34) (ls' := [(2, 27), (0, a), (2, 3), (0, v3L1), (0, v5)]) (st' := [(0, v5)]) (by decide +kernel) rfl ?_
            refine zwif_lt (q := 73) (nx := 37) (by decide +kernel) (fun c9 => ?_) (fun c9 => ?_)
            · refine zwW_inc (i := 3) (c := 1) (x := v3L1) (nx := 76) (by decide +kernel) rfl ⟨by omega, by omega⟩ (ls' := [(2, 27), (0, a), (2, 3), (0, (v3L1 + 1)), (0, v5)]) rfl ?_
              refine zwW_p [(24, 2, 0)] (q := 2) (ls' := [(2, 27), (0, a), (2, 3), (0, (v3L1 + 1)), (0, v5)]) (st' := []) (by decide +kernel) rfl ?_
              exact IHL1 ((1000 - (v3L1 + 1))).toNat (by omega) (v3L1 + 1) (0, v5) hL1 rfl (by omega) ChL1 (XhL1.le (by decide) (by decide))
            · refine zwW_p [(1, 4, 0), (1, 2, 2)] (q := 40) (ls' := [(2, 27), (0, a), (2, 3), (0, v3L1), (0, v5)]) (st' := [(2, 3), (0, v5)]) (by decide +kernel) rfl ?_
              refine zwW_cm ChL1.1 (op := 60) (k' := 96) (n := 0) (kd := 0) (m := 3) (nx := 43) (r := 3) (tl := []) (st' := [(0, v5)]) (by decide +kernel) rfl (by decide +kernel) rfl (x96_3 ChL1) ?_
              rintro v10 _ ⟨rfl, ev10⟩
              have bv10 := zLb_3 ChL1
              refine zwic_ge (q := 73) (nx := 46) (by decide +kernel) (fun c11 => ?_) (fun c11 => ?_)
              · refine zwW_inc (i := 3) (c := 1) (x := v3L1) (nx := 76) (by decide +kernel) rfl ⟨by omega, by omega⟩ (ls' := [(2, 27), (0, a), (2, 3), (0, (v3L1 + 1)), (0, v5)]) rfl ?_
                refine zwW_p [(24, 2, 0)] (q := 2) (ls' := [(2, 27), (0, a), (2, 3), (0, (v3L1 + 1)), (0, v5)]) (st' := []) (by decide +kernel) rfl ?_
                exact IHL1 ((1000 - (v3L1 + 1))).toNat (by omega) (v3L1 + 1) (0, v5) hL1 rfl (by omega) ChL1 (XhL1.le (by decide) (by decide))
              · refine zwW_p [(1, 0, 2), (1, 4, 0), (1, 2, 2), (1, 4, 0)] (q := 52) (ls' := [(2, 27), (0, a), (2, 3), (0, v3L1), (0, v5)]) (st' := [(0, v5), (2, 3), (0, v5), (2, 27)]) (by decide +kernel) rfl ?_
                refine zwW_cm ChL1.1 (op := 60) (k' := 123) (n := 1) (kd := 0) (m := 3) (nx := 55) (r := 3) (tl := [(0, v5)]) (st' := [(0, v5), (2, 27)]) (by decide +kernel) rfl (by decide +kernel) rfl (x123_3 ChL1 (i := v5) ⟨by omega, by omega⟩) ?_
                rintro v12 _ ⟨rfl, Gv12, ev12⟩
                have lv12 := Gv12.1
                refine zwW_cast (a := 4) (kd := 4) (n := 19) (nx := 58) (by decide +kernel) rfl (Or.inr Gv12.2.1) ?_
                refine zwW_get (kd := 4) (bn := 1) (t := 2) (n := 19) (nx := 61) (by decide +kernel) Gv12.2.1 rfl ?_
                obtain ⟨v13, ev13⟩ : ∃ z, z = fld hL1 v12 1 := ⟨_, rfl⟩
                rw [← ev13]
                have Gv13 : gV hL1 v13 := by rw [ev13]; exact Gv12.2.2
                have lv13 := Gv13.1
                refine zwX_gi ChL1 (kd := 11) (bn := 0) (n := 17) (nx := 64) (by decide +kernel) Gv13.2.1 Gv13.1 rfl ?_
                intro v14 ev14 lv14 uv14
                refine zwW_p [(1, 0, 2)] (q := 65) (ls' := [(2, 27), (0, a), (2, 3), (0, v3L1), (0, v5)]) (st' := [(2, 27), (0, v14), (0, v5), (2, 27)]) (by decide +kernel) rfl ?_
                refine zwW_gc ChL1.1 (kd := 2) (bn := 6) (n := 10) (c := 30) (nx := 68) (by decide +kernel) ?_
                refine zwW_p [(1, 3, 0)] (q := 69) (ls' := [(2, 27), (0, a), (2, 3), (0, v3L1), (0, v5)]) (st' := [(0, v3L1), (2, 30), (0, v14), (0, v5), (2, 27)]) (by decide +kernel) rfl ?_
                refine zwW_al ChL1.1 (a1 := 30) (a2 := 30) (kd := 20) (n := 8) (t := 0) (lo := -2147483648) (hi := 2147483647) (nx := 70) (by decide +kernel) ⟨by decide, by decide⟩ ⟨by omega, by omega⟩ ?_
                intro v15 ev15 lv15 uv15
                refine zwW_cmv ChL1.1 (op := 60) (k' := 254) (n := 3) (kd := 2) (m := 10) (nx := 73) (r := 27) (tl := [(0, v5), (0, v14), (0, v15)]) (st' := []) (by decide +kernel) rfl (by decide +kernel) rfl (x254 hL1 ChL1 v5 v14 v15 (by omega) (by omega) (by omega)) ?_
                rintro h16 ⟨Ch16, Qh16⟩
                have Xh16 : zXR msx218 (0) (0) h h16 := XhL1.tr (c2 := 0) (s2 := 0) Qh16 (by decide +kernel) (by decide) (by decide)
                refine zwW_inc (i := 3) (c := 1) (x := v3L1) (nx := 76) (by decide +kernel) rfl ⟨by omega, by omega⟩ (ls' := [(2, 27), (0, a), (2, 3), (0, (v3L1 + 1)), (0, v5)]) rfl ?_
                refine zwW_p [(24, 2, 0)] (q := 2) (ls' := [(2, 27), (0, a), (2, 3), (0, (v3L1 + 1)), (0, v5)]) (st' := []) (by decide +kernel) rfl ?_
                exact IHL1 ((1000 - (v3L1 + 1))).toNat (by omega) (v3L1 + 1) (0, v5) h16 rfl (by omega) Ch16 (Xh16.le (by decide) (by decide))
  exact L1 _ 0 (9, 0) h rfl (by omega) C (X.le (by decide) (by decide))
def msx219 : Zms := [(33, 33, 0, 8)]
-- WheelLand$Gifts.spunBy(Ljava/util/ArrayList;II)I
theorem x219 {sc : List Int} (h : Hp) (C : CI h) (a b : Int) (q_a : -2147483648 ≤ a ∧ a ≤ 2147483647) (q_b : -2147483648 ≤ b ∧ b ≤ 2147483647) : zwC sc 5 219 [(2, 27), (2, 3), (0, a), (0, b)] h (zwRt 0 (fun x g => CI g ∧ zXR msx219 (0) (0) h g ∧ (-2147483648 ≤ x ∧ x ≤ 2147483647))) := by
  refine zwC_of (D := 4) 11 (by decide +kernel) rfl (ls := [(2, 27), (2, 3), (0, a), (0, b), (9, 0), (9, 0), (9, 0), (9, 0), (9, 0), (9, 0), (9, 0)]) rfl ?_
  have X : zXR msx219 0 0 h h := zXR.rf _ _
  refine zwW_p [(1, 3, 0), (2, 4, 0), (0, 0, 0), (2, 5, 0), (0, 0, 0), (2, 6, 0)] (q := 9) (ls' := [(2, 27), (2, 3), (0, a), (0, b), (0, b), (0, 0), (0, 0), (9, 0), (9, 0), (9, 0), (9, 0)]) (st' := []) (by decide +kernel) rfl ?_
  have L1 : ∀ (n : Nat) (v4L1 v5L1 v6L1 : Int) (w7L1 w8L1 w9L1 w10L1 : Vl) (hL1 : Hp), n = ((1000 - v6L1)).toNat → (-2147483648 ≤ v4L1 ∧ v4L1 ≤ 2147483647) → (-2147483648 ≤ v5L1 ∧ v5L1 ≤ 2147483647) → (0 ≤ v6L1 ∧ v6L1 ≤ 1000) → CI hL1 → zXR msx219 (0) (0) h hL1 → zwW sc (4) 219 9 [(2, 27), (2, 3), (0, a), (0, b), (0, v4L1), (0, v5L1), (0, v6L1), w7L1, w8L1, w9L1, w10L1] [] hL1 (zwRt 0 (fun x g => CI g ∧ zXR msx219 (0) (0) h g ∧ (-2147483648 ≤ x ∧ x ≤ 2147483647))) := by
    intro n
    induction n using Nat.strongRecOn with
    | ind n IHL1 =>
      intro v4L1 v5L1 v6L1 w7L1 w8L1 w9L1 w10L1 hL1 hnL1 iL1_0 iL1_1 iL1_2 ChL1 XhL1
      refine zwW_p [(1, 6, 0), (1, 1, 2)] (q := 12) (ls' := [(2, 27), (2, 3), (0, a), (0, b), (0, v4L1), (0, v5L1), (0, v6L1), w7L1, w8L1, w9L1, w10L1]) (st' := [(2, 3), (0, v6L1)]) (by decide +kernel) rfl ?_
      refine zwW_cm ChL1.1 (op := 60) (k' := 96) (n := 0) (kd := 0) (m := 3) (nx := 15) (r := 3) (tl := []) (st' := [(0, v6L1)]) (by decide +kernel) rfl (by decide +kernel) rfl (x96_3 ChL1) ?_
      rintro v2 _ ⟨rfl, ev2⟩
      have bv2 := zLb_3 ChL1
      refine zwic_ge (q := 156) (nx := 18) (by decide +kernel) (fun c3 => ?_) (fun c3 => ?_)
      · refine zwW_p [(1, 5, 0)] (q := 158) (ls' := [(2, 27), (2, 3), (0, a), (0, b), (0, v4L1), (0, v5L1), (0, v6L1), w7L1, w8L1, w9L1, w10L1]) (st' := [(0, v5L1)]) (by decide +kernel) rfl ?_
        refine zwW_ret (nx := 159) (a := 0) (b := 0) (by decide +kernel) rfl (Or.inl rfl) ?_
        exact ⟨ChL1, XhL1.le (by decide) (by decide), by omega⟩
      · refine zwW_p [(1, 6, 0), (0, 20, 0)] (q := 22) (ls' := [(2, 27), (2, 3), (0, a), (0, b), (0, v4L1), (0, v5L1), (0, v6L1), w7L1, w8L1, w9L1, w10L1]) (st' := [(0, 20), (0, v6L1)]) (by decide +kernel) rfl ?_
        refine zwic_ge (q := 156) (nx := 25) (by decide +kernel) (fun c4 => ?_) (fun c4 => ?_)
        · exfalso; omega
        · refine zwW_p [(1, 4, 0)] (q := 27) (ls' := [(2, 27), (2, 3), (0, a), (0, b), (0, v4L1), (0, v5L1), (0, v6L1), w7L1, w8L1, w9L1, w10L1]) (st' := [(0, v4L1)]) (by decide +kernel) rfl ?_
          refine zwif_le (q := 156) (nx := 30) (by decide +kernel) (fun c5 => ?_) (fun c5 => ?_)
          · refine zwW_p [(1, 5, 0)] (q := 158) (ls' := [(2, 27), (2, 3), (0, a), (0, b), (0, v4L1), (0, v5L1), (0, v6L1), w7L1, w8L1, w9L1, w10L1]) (st' := [(0, v5L1)]) (by decide +kernel) rfl ?_
            refine zwW_ret (nx := 159) (a := 0) (b := 0) (by decide +kernel) rfl (Or.inl rfl) ?_
            exact ⟨ChL1, XhL1.le (by decide) (by decide), by omega⟩
          · refine zwW_p [(1, 1, 2), (1, 6, 0)] (q := 33) (ls' := [(2, 27), (2, 3), (0, a), (0, b), (0, v4L1), (0, v5L1), (0, v6L1), w7L1, w8L1, w9L1, w10L1]) (st' := [(0, v6L1), (2, 3)]) (by decide +kernel) rfl ?_
            refine zwW_cm ChL1.1 (op := 60) (k' := 123) (n := 1) (kd := 0) (m := 3) (nx := 36) (r := 3) (tl := [(0, v6L1)]) (st' := []) (by decide +kernel) rfl (by decide +kernel) rfl (x123_3 ChL1 (i := v6L1) ⟨by omega, by omega⟩) ?_
            rintro v6 _ ⟨rfl, Gv6, ev6⟩
            have lv6 := Gv6.1
            refine zwW_cast (a := 4) (kd := 4) (n := 19) (nx := 39) (by decide +kernel) rfl (Or.inr Gv6.2.1) ?_
            refine zwW_p [(2, 7, 2), (1, 7, 2)] (q := 43) (ls' := [(2, 27), (2, 3), (0, a), (0, b), (0, v4L1), (0, v5L1), (0, v6L1), (2, v6), w8L1, w9L1, w10L1]) (st' := [(2, v6)]) (by decide +kernel) rfl ?_
            refine zwW_get (kd := 4) (bn := 1) (t := 2) (n := 19) (nx := 46) (by decide +kernel) Gv6.2.1 rfl ?_
            obtain ⟨v7, ev7⟩ : ∃ z, z = fld hL1 v6 1 := ⟨_, rfl⟩
            rw [← ev7]
            have Gv7 : gV hL1 v7 := by rw [ev7]; exact Gv6.2.2
            have lv7 := Gv7.1
            refine zwX_gi ChL1 (kd := 11) (bn := 0) (n := 17) (nx := 49) (by decide +kernel) Gv7.2.1 Gv7.1 rfl ?_
            intro v8 ev8 lv8 uv8
            refine zwW_p [(2, 8, 0), (1, 8, 0)] (q := 53) (ls' := [(2, 27), (2, 3), (0, a), (0, b), (0, v4L1), (0, v5L1), (0, v6L1), (2, v6), (0, v8), w9L1, w10L1]) (st' := [(0, v8)]) (by decide +kernel) rfl ?_
            refine zwif_lt (q := 150) (nx := 56) (by decide +kernel) (fun c9 => ?_) (fun c9 => ?_)
            · refine zwW_inc (i := 6) (c := 1) (x := v6L1) (nx := 153) (by decide +kernel) rfl ⟨by omega, by omega⟩ (ls' := [(2, 27), (2, 3), (0, a), (0, b), (0, v4L1), (0, v5L1), (0, (v6L1 + 1)), (2, v6), (0, v8), w9L1, w10L1]) rfl ?_
              refine zwW_p [(24, 9, 0)] (q := 9) (ls' := [(2, 27), (2, 3), (0, a), (0, b), (0, v4L1), (0, v5L1), (0, (v6L1 + 1)), (2, v6), (0, v8), w9L1, w10L1]) (st' := []) (by decide +kernel) rfl ?_
              exact IHL1 ((1000 - (v6L1 + 1))).toNat (by omega) v4L1 v5L1 (v6L1 + 1) (2, v6) (0, v8) w9L1 w10L1 hL1 rfl (by omega) (by omega) (by omega) ChL1 (XhL1.le (by decide) (by decide))
            · refine zwW_p [(1, 8, 0), (0, 8, 0)] (q := 60) (ls' := [(2, 27), (2, 3), (0, a), (0, b), (0, v4L1), (0, v5L1), (0, v6L1), (2, v6), (0, v8), w9L1, w10L1]) (st' := [(0, 8), (0, v8)]) (by decide +kernel) rfl ?_
              refine zwic_ge (q := 150) (nx := 63) (by decide +kernel) (fun c10 => ?_) (fun c10 => ?_)
              · refine zwW_inc (i := 6) (c := 1) (x := v6L1) (nx := 153) (by decide +kernel) rfl ⟨by omega, by omega⟩ (ls' := [(2, 27), (2, 3), (0, a), (0, b), (0, v4L1), (0, v5L1), (0, (v6L1 + 1)), (2, v6), (0, v8), w9L1, w10L1]) rfl ?_
                refine zwW_p [(24, 9, 0)] (q := 9) (ls' := [(2, 27), (2, 3), (0, a), (0, b), (0, v4L1), (0, v5L1), (0, (v6L1 + 1)), (2, v6), (0, v8), w9L1, w10L1]) (st' := []) (by decide +kernel) rfl ?_
                exact IHL1 ((1000 - (v6L1 + 1))).toNat (by omega) v4L1 v5L1 (v6L1 + 1) (2, v6) (0, v8) w9L1 w10L1 hL1 rfl (by omega) (by omega) (by omega) ChL1 (XhL1.le (by decide) (by decide))
              · refine zwW_p [(1, 0, 2)] (q := 64) (ls' := [(2, 27), (2, 3), (0, a), (0, b), (0, v4L1), (0, v5L1), (0, v6L1), (2, v6), (0, v8), w9L1, w10L1]) (st' := [(2, 27)]) (by decide +kernel) rfl ?_
                refine zwW_gc ChL1.1 (kd := 2) (bn := 7) (n := 10) (c := 31) (nx := 67) (by decide +kernel) ?_
                refine zwW_p [(1, 6, 0)] (q := 69) (ls' := [(2, 27), (2, 3), (0, a), (0, b), (0, v4L1), (0, v5L1), (0, v6L1), (2, v6), (0, v8), w9L1, w10L1]) (st' := [(0, v6L1), (2, 31)]) (by decide +kernel) rfl ?_
                refine zwW_al ChL1.1 (a1 := 31) (a2 := 31) (kd := 20) (n := 20) (t := 0) (lo := -2147483648) (hi := 2147483647) (nx := 70) (by decide +kernel) ⟨by decide, by decide⟩ ⟨by omega, by omega⟩ ?_
                intro v11 ev11 lv11 uv11
                refine zwW_p [(1, 7, 2)] (q := 72) (ls' := [(2, 27), (2, 3), (0, a), (0, b), (0, v4L1), (0, v5L1), (0, v6L1), (2, v6), (0, v8), w9L1, w10L1]) (st' := [(2, v6), (0, v11)]) (by decide +kernel) rfl ?_
                refine zwW_get (kd := 4) (bn := 1) (t := 2) (n := 19) (nx := 75) (by decide +kernel) Gv6.2.1 rfl ?_
                rw [← ev7]
                refine zwW_p [(1, 2, 0)] (q := 76) (ls' := [(2, 27), (2, 3), (0, a), (0, b), (0, v4L1), (0, v5L1), (0, v6L1), (2, v6), (0, v8), w9L1, w10L1]) (st' := [(0, a), (2, v7), (0, v11)]) (by decide +kernel) rfl ?_
                refine zwW_cv (op := 60) (k' := 222) (n := 1) (kd := 11) (m := 17) (nx := 79) (r := v7) (tl := [(0, a)]) (st' := [(0, v11)]) (by decide +kernel) rfl (by decide +kernel) Gv7.2.1 (x222 hL1 ChL1 v7 a Gv7 (by omega)) rfl ?_
                rintro v13 _ ⟨rfl, f14⟩
                refine zwW_mlw (nx := 80) (by decide +kernel) ?_
                intro v15 ev15 lv15 uv15
                refine zwW_p [(2, 9, 0), (1, 9, 0), (1, 0, 2)] (q := 85) (ls' := [(2, 27), (2, 3), (0, a), (0, b), (0, v4L1), (0, v5L1), (0, v6L1), (2, v6), (0, v8), (0, v15), w10L1]) (st' := [(2, 27), (0, v15)]) (by decide +kernel) rfl ?_
                refine zwW_gc ChL1.1 (kd := 2) (bn := 8) (n := 10) (c := 32) (nx := 88) (by decide +kernel) ?_
                refine zwW_p [(1, 6, 0)] (q := 90) (ls' := [(2, 27), (2, 3), (0, a), (0, b), (0, v4L1), (0, v5L1), (0, v6L1), (2, v6), (0, v8), (0, v15), w10L1]) (st' := [(0, v6L1), (2, 32), (0, v15)]) (by decide +kernel) rfl ?_
                refine zwW_al ChL1.1 (a1 := 32) (a2 := 32) (kd := 20) (n := 20) (t := 0) (lo := -2147483648) (hi := 2147483647) (nx := 91) (by decide +kernel) ⟨by decide, by decide⟩ ⟨by omega, by omega⟩ ?_
                intro v16 ev16 lv16 uv16
                refine zwW_p [(1, 7, 2)] (q := 93) (ls' := [(2, 27), (2, 3), (0, a), (0, b), (0, v4L1), (0, v5L1), (0, v6L1), (2, v6), (0, v8), (0, v15), w10L1]) (st' := [(2, v6), (0, v16), (0, v15)]) (by decide +kernel) rfl ?_
                refine zwX_gi ChL1 (kd := 4) (bn := 7) (n := 19) (nx := 96) (by decide +kernel) Gv6.2.1 Gv6.1 rfl ?_
                intro v17 ev17 lv17 uv17
                refine zwW_p [(1, 0, 2)] (q := 97) (ls' := [(2, 27), (2, 3), (0, a), (0, b), (0, v4L1), (0, v5L1), (0, v6L1), (2, v6), (0, v8), (0, v15), w10L1]) (st' := [(2, 27), (0, v17), (0, v16), (0, v15)]) (by decide +kernel) rfl ?_
                refine zwW_gc ChL1.1 (kd := 2) (bn := 9) (n := 10) (c := 33) (nx := 100) (by decide +kernel) ?_
                refine zwW_p [(1, 8, 0)] (q := 102) (ls' := [(2, 27), (2, 3), (0, a), (0, b), (0, v4L1), (0, v5L1), (0, v6L1), (2, v6), (0, v8), (0, v15), w10L1]) (st' := [(0, v8), (2, 33), (0, v17), (0, v16), (0, v15)]) (by decide +kernel) rfl ?_
                refine zwW_al ChL1.1 (a1 := 33) (a2 := 33) (kd := 20) (n := 8) (t := 0) (lo := -2147483648) (hi := 2147483647) (nx := 103) (by decide +kernel) ⟨by decide, by decide⟩ ⟨by omega, by omega⟩ ?_
                intro v18 ev18 lv18 uv18
                refine zwW_cs (k' := 223) (n := 4) (nx := 106) (as := [(0, v15), (0, v16), (0, v17), (0, v18)]) (st' := []) (by decide +kernel) rfl (x223 hL1 ChL1 v15 v16 v17 v18 (by omega) (by omega) (by omega) (by omega)) rfl ?_
                rintro v19 _ ⟨rfl, f20⟩
                refine zwW_p [(2, 10, 0), (1, 0, 2)] (q := 109) (ls' := [(2, 27), (2, 3), (0, a), (0, b), (0, v4L1), (0, v5L1), (0, v6L1), (2, v6), (0, v8), (0, v15), (0, v19)]) (st' := [(2, 27)]) (by decide +kernel) rfl ?_
                refine zwW_gc ChL1.1 (kd := 2) (bn := 9) (n := 10) (c := 33) (nx := 112) (by decide +kernel) ?_
                refine zwW_p [(1, 8, 0), (14, 0, 0)] (q := 115) (ls' := [(2, 27), (2, 3), (0, a), (0, b), (0, v4L1), (0, v5L1), (0, v6L1), (2, v6), (0, v8), (0, v15), (0, v19)]) (st' := [(0, v8), (2, 33), (0, v8), (2, 33)]) (by decide +kernel) rfl ?_
                refine zwW_al ChL1.1 (a1 := 33) (a2 := 33) (kd := 20) (n := 8) (t := 0) (lo := -2147483648) (hi := 2147483647) (nx := 116) (by decide +kernel) ⟨by decide, by decide⟩ ⟨by omega, by omega⟩ ?_
                intro v21 ev21 lv21 uv21
                refine zwW_p [(1, 10, 0), (1, 7, 2)] (q := 120) (ls' := [(2, 27), (2, 3), (0, a), (0, b), (0, v4L1), (0, v5L1), (0, v6L1), (2, v6), (0, v8), (0, v15), (0, v19)]) (st' := [(2, v6), (0, v19), (0, v21), (0, v8), (2, 33)]) (by decide +kernel) rfl ?_
                refine zwX_gi ChL1 (kd := 4) (bn := 7) (n := 19) (nx := 123) (by decide +kernel) Gv6.2.1 Gv6.1 rfl ?_
                intro v22 ev22 lv22 uv22
                refine zwW_cs (k' := 151) (n := 2) (nx := 126) (as := [(0, v19), (0, v22)]) (st' := [(0, v21), (0, v8), (2, 33)]) (by decide +kernel) rfl (x151 hL1 ChL1 v19 v22 (by omega) (by omega)) rfl ?_
                rintro v23 _ ⟨rfl, f24⟩
                refine zwW_sbw (nx := 127) (by decide +kernel) ?_
                intro v25 ev25 lv25 uv25
                refine zwW_as ChL1.1 (a1 := 33) (a2 := 33) (n := 8) (lo := -2147483648) (hi := 2147483647) (nx := 128) (by decide +kernel) ⟨by decide, by decide⟩ ⟨by omega, by omega⟩ ⟨by omega, by omega⟩ ?_
                intro h26 eh26 Ih26
                have Ch26 : CI h26 := ChL1.wc eh26 Ih26 (by decide) (by decide)
                have Qh26 : zXR [(33, 33, 0, 8)] 0 0 hL1 h26 := zXR.wc eh26 rfl ⟨by decide, by decide, Or.inl (by decide)⟩ ⟨by omega, by omega⟩
                have Xh26 : zXR msx219 (0) (0) h h26 := XhL1.tr (c2 := 0) (s2 := 0) Qh26 (by decide +kernel) (by decide) (by decide)
                have Gh26_0 : gH h26 v6 := Gv6.x Qh26
                refine zwW_p [(1, 5, 0), (1, 10, 0)] (q := 132) (ls' := [(2, 27), (2, 3), (0, a), (0, b), (0, v4L1), (0, v5L1), (0, v6L1), (2, v6), (0, v8), (0, v15), (0, v19)]) (st' := [(0, v19), (0, v5L1)]) (by decide +kernel) rfl ?_
                refine zwW_adw (nx := 133) (by decide +kernel) ?_
                intro v27 ev27 lv27 uv27
                refine zwW_p [(2, 5, 0), (1, 4, 0), (1, 10, 0)] (q := 139) (ls' := [(2, 27), (2, 3), (0, a), (0, b), (0, v4L1), (0, v27), (0, v6L1), (2, v6), (0, v8), (0, v15), (0, v19)]) (st' := [(0, v19), (0, v4L1)]) (by decide +kernel) rfl ?_
                refine zwif_le (q := 146) (nx := 142) (by decide +kernel) (fun c28 => ?_) (fun c28 => ?_)
                · refine zwW_p [(0, 0, 0)] (q := 147) (ls' := [(2, 27), (2, 3), (0, a), (0, b), (0, v4L1), (0, v27), (0, v6L1), (2, v6), (0, v8), (0, v15), (0, v19)]) (st' := [(0, 0), (0, v4L1)]) (by decide +kernel) rfl ?_
                  refine zwW_sub (nx := 148) (by decide +kernel) ⟨by omega, by omega⟩ ?_
                  refine zwW_p [(2, 4, 0)] (q := 150) (ls' := [(2, 27), (2, 3), (0, a), (0, b), (0, (v4L1 - 0)), (0, v27), (0, v6L1), (2, v6), (0, v8), (0, v15), (0, v19)]) (st' := []) (by decide +kernel) rfl ?_
                  refine zwW_inc (i := 6) (c := 1) (x := v6L1) (nx := 153) (by decide +kernel) rfl ⟨by omega, by omega⟩ (ls' := [(2, 27), (2, 3), (0, a), (0, b), (0, (v4L1 - 0)), (0, v27), (0, (v6L1 + 1)), (2, v6), (0, v8), (0, v15), (0, v19)]) rfl ?_
                  refine zwW_p [(24, 9, 0)] (q := 9) (ls' := [(2, 27), (2, 3), (0, a), (0, b), (0, (v4L1 - 0)), (0, v27), (0, (v6L1 + 1)), (2, v6), (0, v8), (0, v15), (0, v19)]) (st' := []) (by decide +kernel) rfl ?_
                  exact IHL1 ((1000 - (v6L1 + 1))).toNat (by omega) (v4L1 - 0) v27 (v6L1 + 1) (2, v6) (0, v8) (0, v15) (0, v19) h26 rfl (by omega) (by omega) (by omega) Ch26 (Xh26.le (by decide) (by decide))
                · refine zwW_p [(0, 1, 0), (24, 147, 0)] (q := 147) (ls' := [(2, 27), (2, 3), (0, a), (0, b), (0, v4L1), (0, v27), (0, v6L1), (2, v6), (0, v8), (0, v15), (0, v19)]) (st' := [(0, 1), (0, v4L1)]) (by decide +kernel) rfl ?_
                  refine zwW_sub (nx := 148) (by decide +kernel) ⟨by omega, by omega⟩ ?_
                  refine zwW_p [(2, 4, 0)] (q := 150) (ls' := [(2, 27), (2, 3), (0, a), (0, b), (0, (v4L1 - 1)), (0, v27), (0, v6L1), (2, v6), (0, v8), (0, v15), (0, v19)]) (st' := []) (by decide +kernel) rfl ?_
                  refine zwW_inc (i := 6) (c := 1) (x := v6L1) (nx := 153) (by decide +kernel) rfl ⟨by omega, by omega⟩ (ls' := [(2, 27), (2, 3), (0, a), (0, b), (0, (v4L1 - 1)), (0, v27), (0, (v6L1 + 1)), (2, v6), (0, v8), (0, v15), (0, v19)]) rfl ?_
                  refine zwW_p [(24, 9, 0)] (q := 9) (ls' := [(2, 27), (2, 3), (0, a), (0, b), (0, (v4L1 - 1)), (0, v27), (0, (v6L1 + 1)), (2, v6), (0, v8), (0, v15), (0, v19)]) (st' := []) (by decide +kernel) rfl ?_
                  exact IHL1 ((1000 - (v6L1 + 1))).toNat (by omega) (v4L1 - 1) v27 (v6L1 + 1) (2, v6) (0, v8) (0, v15) (0, v19) h26 rfl (by omega) (by omega) (by omega) Ch26 (Xh26.le (by decide) (by decide))
  exact L1 _ b 0 0 (9, 0) (9, 0) (9, 0) (9, 0) h rfl (by omega) (by omega) (by omega) C (X.le (by decide) (by decide))
def msx163 : Zms := [(27, 27, 1, 2), (27, 27, 2, 3), (27, 27, 3, 4), (31, 31, 0, 20), (32, 32, 0, 20), (33, 33, 0, 8)]
-- WheelLand$Gifts.choose(ILjava/util/ArrayList;Ljava/util/ArrayList;II)V
theorem x163 {sc : List Int} (h : Hp) (C : CI h) (a b c : Int) (q_a : -2147483648 ≤ a ∧ a ≤ 2147483647) (q_b : -2147483648 ≤ b ∧ b ≤ 2147483647) (q_c : -2147483648 ≤ c ∧ c ≤ 2147483647) : zwC sc 6 163 [(2, 27), (0, a), (2, 2), (2, 3), (0, b), (0, c)] h (zwRv (fun g => CI g ∧ zXR msx163 (0) (0) h g)) := by
  refine zwC_of (D := 5) 9 (by decide +kernel) rfl (ls := [(2, 27), (0, a), (2, 2), (2, 3), (0, b), (0, c), (9, 0), (9, 0), (9, 0)]) rfl ?_
  have X : zXR msx163 0 0 h h := zXR.rf _ _
  refine zwW_p [(1, 0, 2), (0, -1, 0)] (q := 2) (ls' := [(2, 27), (0, a), (2, 2), (2, 3), (0, b), (0, c), (9, 0), (9, 0), (9, 0)]) (st' := [(0, -1), (2, 27)]) (by decide +kernel) rfl ?_
  refine zwW_ps C.1 (kd := 2) (bn := 1) (n := 10) (lo := -2147483648) (hi := 2147483647) (nx := 5) (by decide +kernel) ⟨by decide, by decide⟩ ?_
  intro h1 eh1 Ih1
  have Ch1 : CI h1 := C.wc eh1 Ih1 (by decide) (by decide)
  have Qh1 : zXR [(27, 27, 1, 2)] 0 0 h h1 := zXR.wc eh1 rfl ⟨by decide, by decide, Or.inl (by decide)⟩ ⟨by decide, by decide⟩
  have Xh1 : zXR msx163 (0) (0) h h1 := X.tr (c2 := 0) (s2 := 0) Qh1 (by decide +kernel) (by decide) (by decide)
  refine zwW_p [(1, 0, 2), (0, 0, 0)] (q := 7) (ls' := [(2, 27), (0, a), (2, 2), (2, 3), (0, b), (0, c), (9, 0), (9, 0), (9, 0)]) (st' := [(0, 0), (2, 27)]) (by decide +kernel) rfl ?_
  refine zwW_ps Ch1.1 (kd := 2) (bn := 2) (n := 10) (lo := -2147483648) (hi := 2147483647) (nx := 10) (by decide +kernel) ⟨by decide, by decide⟩ ?_
  intro h2 eh2 Ih2
  have Ch2 : CI h2 := Ch1.wc eh2 Ih2 (by decide) (by decide)
  have Qh2 : zXR [(27, 27, 2, 3)] 0 0 h1 h2 := zXR.wc eh2 rfl ⟨by decide, by decide, Or.inl (by decide)⟩ ⟨by decide, by decide⟩
  have Xh2 : zXR msx163 (0) (0) h h2 := Xh1.tr (c2 := 0) (s2 := 0) Qh2 (by decide +kernel) (by decide) (by decide)
  refine zwW_p [(1, 0, 2), (0, 0, 0)] (q := 12) (ls' := [(2, 27), (0, a), (2, 2), (2, 3), (0, b), (0, c), (9, 0), (9, 0), (9, 0)]) (st' := [(0, 0), (2, 27)]) (by decide +kernel) rfl ?_
  refine zwW_ps Ch2.1 (kd := 2) (bn := 3) (n := 10) (lo := -2147483648) (hi := 2147483647) (nx := 15) (by decide +kernel) ⟨by decide, by decide⟩ ?_
  intro h3 eh3 Ih3
  have Ch3 : CI h3 := Ch2.wc eh3 Ih3 (by decide) (by decide)
  have Qh3 : zXR [(27, 27, 3, 4)] 0 0 h2 h3 := zXR.wc eh3 rfl ⟨by decide, by decide, Or.inl (by decide)⟩ ⟨by decide, by decide⟩
  have Xh3 : zXR msx163 (0) (0) h h3 := Xh2.tr (c2 := 0) (s2 := 0) Qh3 (by decide +kernel) (by decide) (by decide)
  refine zwW_p [(0, 0, 0), (2, 6, 0)] (q := 18) (ls' := [(2, 27), (0, a), (2, 2), (2, 3), (0, b), (0, c), (0, 0), (9, 0), (9, 0)]) (st' := []) (by decide +kernel) rfl ?_
  have L4 : ∀ (n : Nat) (v6L4 : Int) (w7L4 w8L4 : Vl) (hL4 : Hp), n = ((1000 - v6L4)).toNat → (0 ≤ v6L4 ∧ v6L4 ≤ 1000) → CI hL4 → zXR msx163 (0) (0) h hL4 → zwW sc (5) 163 18 [(2, 27), (0, a), (2, 2), (2, 3), (0, b), (0, c), (0, v6L4), w7L4, w8L4] [] hL4 (zwRv (fun g => CI g ∧ zXR msx163 (0) (0) h g)) := by
    intro n
    induction n using Nat.strongRecOn with
    | ind n IHL4 =>
      intro v6L4 w7L4 w8L4 hL4 hnL4 iL4_0 ChL4 XhL4
      refine zwW_p [(1, 6, 0), (0, 1, 0), (1, 0, 2)] (q := 22) (ls' := [(2, 27), (0, a), (2, 2), (2, 3), (0, b), (0, c), (0, v6L4), w7L4, w8L4]) (st' := [(2, 27), (0, 1), (0, v6L4)]) (by decide +kernel) rfl ?_
      refine zwW_gs ChL4.1 (kd := 2) (bn := 0) (n := 10) (t := 0) (lo := 0) (hi := 8) (nx := 25) (by decide +kernel) ?_
      intro v5 ev5 lv5 uv5
      refine zwW_ib (a := 8) (nx := 26) (by decide +kernel) rfl ?_
      have s26 : (i_shl 1 v5) ≤ 256 := (zshl_le ⟨by omega, by omega⟩).2
      refine zwic_ge (q := 126) (nx := 29) (by decide +kernel) (fun c6 => ?_) (fun c6 => ?_)
      · refine zwW_retv (nx := 127) (a := 0) (b := 0) (by decide +kernel) ?_
        exact ⟨ChL4, XhL4.le (by decide) (by decide)⟩
      · refine zwW_p [(1, 0, 2), (1, 6, 0)] (q := 32) (ls' := [(2, 27), (0, a), (2, 2), (2, 3), (0, b), (0, c), (0, v6L4), w7L4, w8L4]) (st' := [(0, v6L4), (2, 27)]) (by decide +kernel) rfl ?_
        refine zwW_cm ChL4.1 (op := 60) (k' := 216) (n := 1) (kd := 2) (m := 10) (nx := 35) (r := 27) (tl := [(0, v6L4)]) (st' := []) (by decide +kernel) rfl (by decide +kernel) rfl (x216 hL4 ChL4 v6L4 (by omega)) ?_
        rintro v7 _ ⟨rfl, f8⟩
        refine zwW_p [(2, 7, 0), (1, 7, 0), (1, 1, 0)] (q := 40) (ls' := [(2, 27), (0, a), (2, 2), (2, 3), (0, b), (0, c), (0, v6L4), (0, v7), w8L4]) (st' := [(0, a), (0, v7)]) (by decide +kernel) rfl ?_
        refine zwic_gt (q := 120) (nx := 43) (by decide +kernel) (fun c9 => ?_) (fun c9 => ?_)
        · refine zwW_inc (i := 6) (c := 1) (x := v6L4) (nx := 123) (by decide +kernel) rfl ⟨by omega, by omega⟩ (ls' := [(2, 27), (0, a), (2, 2), (2, 3), (0, b), (0, c), (0, (v6L4 + 1)), (0, v7), w8L4]) rfl ?_
          refine zwW_p [(24, 18, 0)] (q := 18) (ls' := [(2, 27), (0, a), (2, 2), (2, 3), (0, b), (0, c), (0, (v6L4 + 1)), (0, v7), w8L4]) (st' := []) (by decide +kernel) rfl ?_
          exact IHL4 ((1000 - (v6L4 + 1))).toNat (by omega) (v6L4 + 1) (0, v7) w8L4 hL4 rfl (by omega) ChL4 (XhL4.le (by decide) (by decide))
        · refine zwW_p [(1, 0, 2), (1, 2, 2), (1, 3, 2)] (q := 46) (ls' := [(2, 27), (0, a), (2, 2), (2, 3), (0, b), (0, c), (0, v6L4), (0, v7), w8L4]) (st' := [(2, 3), (2, 2), (2, 27)]) (by decide +kernel) rfl ?_
          refine zwW_cmv ChL4.1 (op := 60) (k' := 217) (n := 2) (kd := 2) (m := 10) (nx := 49) (r := 27) (tl := [(2, 2), (2, 3)]) (st' := []) (by decide +kernel) rfl (by decide +kernel) rfl (x217 hL4 ChL4) ?_
          rintro h10 ⟨Ch10, Qh10⟩
          have Xh10 : zXR msx163 (0) (0) h h10 := XhL4.tr (c2 := 0) (s2 := 0) Qh10 (by decide +kernel) (by decide) (by decide)
          refine zwW_p [(1, 0, 2), (1, 6, 0), (1, 3, 2)] (q := 53) (ls' := [(2, 27), (0, a), (2, 2), (2, 3), (0, b), (0, c), (0, v6L4), (0, v7), w8L4]) (st' := [(2, 3), (0, v6L4), (2, 27)]) (by decide +kernel) rfl ?_
          refine zwW_cmv Ch10.1 (op := 60) (k' := 218) (n := 2) (kd := 2) (m := 10) (nx := 56) (r := 27) (tl := [(0, v6L4), (2, 3)]) (st' := []) (by decide +kernel) rfl (by decide +kernel) rfl (x218 h10 Ch10 v6L4 (by omega)) ?_
          rintro h11 ⟨Ch11, Qh11⟩
          have Xh11 : zXR msx163 (0) (0) h h11 := Xh10.tr (c2 := 0) (s2 := 0) Qh11 (by decide +kernel) (by decide) (by decide)
          refine zwW_p [(1, 0, 2), (1, 3, 2), (1, 4, 0), (1, 5, 0)] (q := 62) (ls' := [(2, 27), (0, a), (2, 2), (2, 3), (0, b), (0, c), (0, v6L4), (0, v7), w8L4]) (st' := [(0, c), (0, b), (2, 3), (2, 27)]) (by decide +kernel) rfl ?_
          refine zwW_cm Ch11.1 (op := 60) (k' := 219) (n := 3) (kd := 2) (m := 10) (nx := 65) (r := 27) (tl := [(2, 3), (0, b), (0, c)]) (st' := []) (by decide +kernel) rfl (by decide +kernel) rfl (x219 h11 Ch11 b c (by omega) (by omega)) ?_
          rintro v13 h14 ⟨Ch14, Qh14, f12⟩
          have Xh14 : zXR msx163 (0) (0) h h14 := Xh11.tr (c2 := 0) (s2 := 0) Qh14 (by decide +kernel) (by decide) (by decide)
          refine zwW_p [(2, 8, 0), (1, 0, 2)] (q := 68) (ls' := [(2, 27), (0, a), (2, 2), (2, 3), (0, b), (0, c), (0, v6L4), (0, v7), (0, v13)]) (st' := [(2, 27)]) (by decide +kernel) rfl ?_
          refine zwW_gs Ch14.1 (kd := 2) (bn := 1) (n := 10) (t := 0) (lo := -2147483648) (hi := 2147483647) (nx := 71) (by decide +kernel) ?_
          intro v15 ev15 lv15 uv15
          refine zwW_p [(0, -1, 0)] (q := 72) (ls' := [(2, 27), (0, a), (2, 2), (2, 3), (0, b), (0, c), (0, v6L4), (0, v7), (0, v13)]) (st' := [(0, -1), (0, v15)]) (by decide +kernel) rfl ?_
          refine zwic_eq (q := 102) (nx := 75) (by decide +kernel) (fun c16 => ?_) (fun c16 => ?_)
          · refine zwW_p [(1, 0, 2), (1, 6, 0)] (q := 105) (ls' := [(2, 27), (0, a), (2, 2), (2, 3), (0, b), (0, c), (0, v6L4), (0, v7), (0, v13)]) (st' := [(0, v6L4), (2, 27)]) (by decide +kernel) rfl ?_
            refine zwW_ps Ch14.1 (kd := 2) (bn := 1) (n := 10) (lo := -2147483648) (hi := 2147483647) (nx := 108) (by decide +kernel) ⟨by omega, by omega⟩ ?_
            intro h17 eh17 Ih17
            have Ch17 : CI h17 := Ch14.wc eh17 Ih17 (by decide) (by decide)
            have Qh17 : zXR [(27, 27, 1, 2)] 0 0 h14 h17 := zXR.wc eh17 rfl ⟨by decide, by decide, Or.inl (by decide)⟩ ⟨by decide, by decide⟩
            have Xh17 : zXR msx163 (0) (0) h h17 := Xh14.tr (c2 := 0) (s2 := 0) Qh17 (by decide +kernel) (by decide) (by decide)
            refine zwW_p [(1, 0, 2), (1, 8, 0)] (q := 111) (ls' := [(2, 27), (0, a), (2, 2), (2, 3), (0, b), (0, c), (0, v6L4), (0, v7), (0, v13)]) (st' := [(0, v13), (2, 27)]) (by decide +kernel) rfl ?_
            refine zwW_ps Ch17.1 (kd := 2) (bn := 2) (n := 10) (lo := -2147483648) (hi := 2147483647) (nx := 114) (by decide +kernel) ⟨by omega, by omega⟩ ?_
            intro h18 eh18 Ih18
            have Ch18 : CI h18 := Ch17.wc eh18 Ih18 (by decide) (by decide)
            have Qh18 : zXR [(27, 27, 2, 3)] 0 0 h17 h18 := zXR.wc eh18 rfl ⟨by decide, by decide, Or.inl (by decide)⟩ ⟨by decide, by decide⟩
            have Xh18 : zXR msx163 (0) (0) h h18 := Xh17.tr (c2 := 0) (s2 := 0) Qh18 (by decide +kernel) (by decide) (by decide)
            refine zwW_p [(1, 0, 2), (1, 7, 0)] (q := 117) (ls' := [(2, 27), (0, a), (2, 2), (2, 3), (0, b), (0, c), (0, v6L4), (0, v7), (0, v13)]) (st' := [(0, v7), (2, 27)]) (by decide +kernel) rfl ?_
            refine zwW_ps Ch18.1 (kd := 2) (bn := 3) (n := 10) (lo := -2147483648) (hi := 2147483647) (nx := 120) (by decide +kernel) ⟨by omega, by omega⟩ ?_
            intro h19 eh19 Ih19
            have Ch19 : CI h19 := Ch18.wc eh19 Ih19 (by decide) (by decide)
            have Qh19 : zXR [(27, 27, 3, 4)] 0 0 h18 h19 := zXR.wc eh19 rfl ⟨by decide, by decide, Or.inl (by decide)⟩ ⟨by decide, by decide⟩
            have Xh19 : zXR msx163 (0) (0) h h19 := Xh18.tr (c2 := 0) (s2 := 0) Qh19 (by decide +kernel) (by decide) (by decide)
            refine zwW_inc (i := 6) (c := 1) (x := v6L4) (nx := 123) (by decide +kernel) rfl ⟨by omega, by omega⟩ (ls' := [(2, 27), (0, a), (2, 2), (2, 3), (0, b), (0, c), (0, (v6L4 + 1)), (0, v7), (0, v13)]) rfl ?_
            refine zwW_p [(24, 18, 0)] (q := 18) (ls' := [(2, 27), (0, a), (2, 2), (2, 3), (0, b), (0, c), (0, (v6L4 + 1)), (0, v7), (0, v13)]) (st' := []) (by decide +kernel) rfl ?_
            exact IHL4 ((1000 - (v6L4 + 1))).toNat (by omega) (v6L4 + 1) (0, v7) (0, v13) h19 rfl (by omega) Ch19 (Xh19.le (by decide) (by decide))
          · refine zwW_p [(1, 8, 0), (1, 0, 2)] (q := 78) (ls' := [(2, 27), (0, a), (2, 2), (2, 3), (0, b), (0, c), (0, v6L4), (0, v7), (0, v13)]) (st' := [(2, 27), (0, v13)]) (by decide +kernel) rfl ?_
            refine zwW_gs Ch14.1 (kd := 2) (bn := 2) (n := 10) (t := 0) (lo := -2147483648) (hi := 2147483647) (nx := 81) (by decide +kernel) ?_
            intro v20 ev20 lv20 uv20
            refine zwic_gt (q := 102) (nx := 84) (by decide +kernel) (fun c21 => ?_) (fun c21 => ?_)
            · refine zwW_p [(1, 0, 2), (1, 6, 0)] (q := 105) (ls' := [(2, 27), (0, a), (2, 2), (2, 3), (0, b), (0, c), (0, v6L4), (0, v7), (0, v13)]) (st' := [(0, v6L4), (2, 27)]) (by decide +kernel) rfl ?_
              refine zwW_ps Ch14.1 (kd := 2) (bn := 1) (n := 10) (lo := -2147483648) (hi := 2147483647) (nx := 108) (by decide +kernel) ⟨by omega, by omega⟩ ?_
              intro h22 eh22 Ih22
              have Ch22 : CI h22 := Ch14.wc eh22 Ih22 (by decide) (by decide)
              have Qh22 : zXR [(27, 27, 1, 2)] 0 0 h14 h22 := zXR.wc eh22 rfl ⟨by decide, by decide, Or.inl (by decide)⟩ ⟨by decide, by decide⟩
              have Xh22 : zXR msx163 (0) (0) h h22 := Xh14.tr (c2 := 0) (s2 := 0) Qh22 (by decide +kernel) (by decide) (by decide)
              refine zwW_p [(1, 0, 2), (1, 8, 0)] (q := 111) (ls' := [(2, 27), (0, a), (2, 2), (2, 3), (0, b), (0, c), (0, v6L4), (0, v7), (0, v13)]) (st' := [(0, v13), (2, 27)]) (by decide +kernel) rfl ?_
              refine zwW_ps Ch22.1 (kd := 2) (bn := 2) (n := 10) (lo := -2147483648) (hi := 2147483647) (nx := 114) (by decide +kernel) ⟨by omega, by omega⟩ ?_
              intro h23 eh23 Ih23
              have Ch23 : CI h23 := Ch22.wc eh23 Ih23 (by decide) (by decide)
              have Qh23 : zXR [(27, 27, 2, 3)] 0 0 h22 h23 := zXR.wc eh23 rfl ⟨by decide, by decide, Or.inl (by decide)⟩ ⟨by decide, by decide⟩
              have Xh23 : zXR msx163 (0) (0) h h23 := Xh22.tr (c2 := 0) (s2 := 0) Qh23 (by decide +kernel) (by decide) (by decide)
              refine zwW_p [(1, 0, 2), (1, 7, 0)] (q := 117) (ls' := [(2, 27), (0, a), (2, 2), (2, 3), (0, b), (0, c), (0, v6L4), (0, v7), (0, v13)]) (st' := [(0, v7), (2, 27)]) (by decide +kernel) rfl ?_
              refine zwW_ps Ch23.1 (kd := 2) (bn := 3) (n := 10) (lo := -2147483648) (hi := 2147483647) (nx := 120) (by decide +kernel) ⟨by omega, by omega⟩ ?_
              intro h24 eh24 Ih24
              have Ch24 : CI h24 := Ch23.wc eh24 Ih24 (by decide) (by decide)
              have Qh24 : zXR [(27, 27, 3, 4)] 0 0 h23 h24 := zXR.wc eh24 rfl ⟨by decide, by decide, Or.inl (by decide)⟩ ⟨by decide, by decide⟩
              have Xh24 : zXR msx163 (0) (0) h h24 := Xh23.tr (c2 := 0) (s2 := 0) Qh24 (by decide +kernel) (by decide) (by decide)
              refine zwW_inc (i := 6) (c := 1) (x := v6L4) (nx := 123) (by decide +kernel) rfl ⟨by omega, by omega⟩ (ls' := [(2, 27), (0, a), (2, 2), (2, 3), (0, b), (0, c), (0, (v6L4 + 1)), (0, v7), (0, v13)]) rfl ?_
              refine zwW_p [(24, 18, 0)] (q := 18) (ls' := [(2, 27), (0, a), (2, 2), (2, 3), (0, b), (0, c), (0, (v6L4 + 1)), (0, v7), (0, v13)]) (st' := []) (by decide +kernel) rfl ?_
              exact IHL4 ((1000 - (v6L4 + 1))).toNat (by omega) (v6L4 + 1) (0, v7) (0, v13) h24 rfl (by omega) Ch24 (Xh24.le (by decide) (by decide))
            · refine zwW_p [(1, 8, 0), (1, 0, 2)] (q := 87) (ls' := [(2, 27), (0, a), (2, 2), (2, 3), (0, b), (0, c), (0, v6L4), (0, v7), (0, v13)]) (st' := [(2, 27), (0, v13)]) (by decide +kernel) rfl ?_
              refine zwW_gs Ch14.1 (kd := 2) (bn := 2) (n := 10) (t := 0) (lo := -2147483648) (hi := 2147483647) (nx := 90) (by decide +kernel) ?_
              intro v25 ev25 lv25 uv25
              refine zwic_ne (q := 120) (nx := 93) (by decide +kernel) (fun c26 => ?_) (fun c26 => ?_)
              · refine zwW_inc (i := 6) (c := 1) (x := v6L4) (nx := 123) (by decide +kernel) rfl ⟨by omega, by omega⟩ (ls' := [(2, 27), (0, a), (2, 2), (2, 3), (0, b), (0, c), (0, (v6L4 + 1)), (0, v7), (0, v13)]) rfl ?_
                refine zwW_p [(24, 18, 0)] (q := 18) (ls' := [(2, 27), (0, a), (2, 2), (2, 3), (0, b), (0, c), (0, (v6L4 + 1)), (0, v7), (0, v13)]) (st' := []) (by decide +kernel) rfl ?_
                exact IHL4 ((1000 - (v6L4 + 1))).toNat (by omega) (v6L4 + 1) (0, v7) (0, v13) h14 rfl (by omega) Ch14 (Xh14.le (by decide) (by decide))
              · refine zwW_p [(1, 7, 0), (1, 0, 2)] (q := 96) (ls' := [(2, 27), (0, a), (2, 2), (2, 3), (0, b), (0, c), (0, v6L4), (0, v7), (0, v13)]) (st' := [(2, 27), (0, v7)]) (by decide +kernel) rfl ?_
                refine zwW_gs Ch14.1 (kd := 2) (bn := 3) (n := 10) (t := 0) (lo := -2147483648) (hi := 2147483647) (nx := 99) (by decide +kernel) ?_
                intro v27 ev27 lv27 uv27
                refine zwic_ge (q := 120) (nx := 102) (by decide +kernel) (fun c28 => ?_) (fun c28 => ?_)
                · refine zwW_inc (i := 6) (c := 1) (x := v6L4) (nx := 123) (by decide +kernel) rfl ⟨by omega, by omega⟩ (ls' := [(2, 27), (0, a), (2, 2), (2, 3), (0, b), (0, c), (0, (v6L4 + 1)), (0, v7), (0, v13)]) rfl ?_
                  refine zwW_p [(24, 18, 0)] (q := 18) (ls' := [(2, 27), (0, a), (2, 2), (2, 3), (0, b), (0, c), (0, (v6L4 + 1)), (0, v7), (0, v13)]) (st' := []) (by decide +kernel) rfl ?_
                  exact IHL4 ((1000 - (v6L4 + 1))).toNat (by omega) (v6L4 + 1) (0, v7) (0, v13) h14 rfl (by omega) Ch14 (Xh14.le (by decide) (by decide))
                · refine zwW_p [(1, 0, 2), (1, 6, 0)] (q := 105) (ls' := [(2, 27), (0, a), (2, 2), (2, 3), (0, b), (0, c), (0, v6L4), (0, v7), (0, v13)]) (st' := [(0, v6L4), (2, 27)]) (by decide +kernel) rfl ?_
                  refine zwW_ps Ch14.1 (kd := 2) (bn := 1) (n := 10) (lo := -2147483648) (hi := 2147483647) (nx := 108) (by decide +kernel) ⟨by omega, by omega⟩ ?_
                  intro h29 eh29 Ih29
                  have Ch29 : CI h29 := Ch14.wc eh29 Ih29 (by decide) (by decide)
                  have Qh29 : zXR [(27, 27, 1, 2)] 0 0 h14 h29 := zXR.wc eh29 rfl ⟨by decide, by decide, Or.inl (by decide)⟩ ⟨by decide, by decide⟩
                  have Xh29 : zXR msx163 (0) (0) h h29 := Xh14.tr (c2 := 0) (s2 := 0) Qh29 (by decide +kernel) (by decide) (by decide)
                  refine zwW_p [(1, 0, 2), (1, 8, 0)] (q := 111) (ls' := [(2, 27), (0, a), (2, 2), (2, 3), (0, b), (0, c), (0, v6L4), (0, v7), (0, v13)]) (st' := [(0, v13), (2, 27)]) (by decide +kernel) rfl ?_
                  refine zwW_ps Ch29.1 (kd := 2) (bn := 2) (n := 10) (lo := -2147483648) (hi := 2147483647) (nx := 114) (by decide +kernel) ⟨by omega, by omega⟩ ?_
                  intro h30 eh30 Ih30
                  have Ch30 : CI h30 := Ch29.wc eh30 Ih30 (by decide) (by decide)
                  have Qh30 : zXR [(27, 27, 2, 3)] 0 0 h29 h30 := zXR.wc eh30 rfl ⟨by decide, by decide, Or.inl (by decide)⟩ ⟨by decide, by decide⟩
                  have Xh30 : zXR msx163 (0) (0) h h30 := Xh29.tr (c2 := 0) (s2 := 0) Qh30 (by decide +kernel) (by decide) (by decide)
                  refine zwW_p [(1, 0, 2), (1, 7, 0)] (q := 117) (ls' := [(2, 27), (0, a), (2, 2), (2, 3), (0, b), (0, c), (0, v6L4), (0, v7), (0, v13)]) (st' := [(0, v7), (2, 27)]) (by decide +kernel) rfl ?_
                  refine zwW_ps Ch30.1 (kd := 2) (bn := 3) (n := 10) (lo := -2147483648) (hi := 2147483647) (nx := 120) (by decide +kernel) ⟨by omega, by omega⟩ ?_
                  intro h31 eh31 Ih31
                  have Ch31 : CI h31 := Ch30.wc eh31 Ih31 (by decide) (by decide)
                  have Qh31 : zXR [(27, 27, 3, 4)] 0 0 h30 h31 := zXR.wc eh31 rfl ⟨by decide, by decide, Or.inl (by decide)⟩ ⟨by decide, by decide⟩
                  have Xh31 : zXR msx163 (0) (0) h h31 := Xh30.tr (c2 := 0) (s2 := 0) Qh31 (by decide +kernel) (by decide) (by decide)
                  refine zwW_inc (i := 6) (c := 1) (x := v6L4) (nx := 123) (by decide +kernel) rfl ⟨by omega, by omega⟩ (ls' := [(2, 27), (0, a), (2, 2), (2, 3), (0, b), (0, c), (0, (v6L4 + 1)), (0, v7), (0, v13)]) rfl ?_
                  refine zwW_p [(24, 18, 0)] (q := 18) (ls' := [(2, 27), (0, a), (2, 2), (2, 3), (0, b), (0, c), (0, (v6L4 + 1)), (0, v7), (0, v13)]) (st' := []) (by decide +kernel) rfl ?_
                  exact IHL4 ((1000 - (v6L4 + 1))).toNat (by omega) (v6L4 + 1) (0, v7) (0, v13) h31 rfl (by omega) Ch31 (Xh31.le (by decide) (by decide))
  exact L4 _ 0 (9, 0) (9, 0) h3 rfl (by omega) Ch3 (Xh3.le (by decide) (by decide))
-- WheelLand$Handwork.isTold(LWheelLand$Lot;)Z
theorem x140 {sc : List Int} (h : Hp) (C : CI h) (r : Int) (G_r : gL h r) : zwC sc 5 140 [(2, 19), (2, r)] h (zwRt 0 (fun x g => h = g ∧ ((x = 1 ∧ (∃ i : Nat, (i : Int) < fld h 20 2 ∧ zv h 20 i = r)) ∨ (x = 0 ∧ (∀ i : Nat, (i : Int) < fld h 20 2 → zv h 20 i ≠ r))))) := by
  refine zwC_of (D := 4) 3 (by decide +kernel) rfl (ls := [(2, 19), (2, r), (9, 0)]) rfl ?_
  have lw_r := G_r.1
  refine zwW_p [(0, 0, 0), (2, 2, 0)] (q := 2) (ls' := [(2, 19), (2, r), (0, 0)]) (st' := []) (by decide +kernel) rfl ?_
  have L1 : ∀ (n : Nat) (kL1 : Int), n = ((1000 - kL1)).toNat → (∀ i : Nat, (i : Int) < kL1 → zv h 20 i ≠ r) → (0 ≤ kL1 ∧ kL1 ≤ 1000) → zwW sc (4) 140 2 [(2, 19), (2, r), (0, kL1)] [] h (zwRt 0 (fun x g => h = g ∧ ((x = 1 ∧ (∃ i : Nat, (i : Int) < fld h 20 2 ∧ zv h 20 i = r)) ∨ (x = 0 ∧ (∀ i : Nat, (i : Int) < fld h 20 2 → zv h 20 i ≠ r))))) := by
    intro n
    induction n using Nat.strongRecOn with
    | ind n IHL1 =>
      intro kL1 hnL1 iL1_0 iL1_1
      refine zwW_p [(1, 2, 0), (1, 0, 2)] (q := 4) (ls' := [(2, 19), (2, r), (0, kL1)]) (st' := [(2, 19), (0, kL1)]) (by decide +kernel) rfl ?_
      refine zwW_gc C.1 (kd := 3) (bn := 0) (n := 10) (c := 20) (nx := 7) (by decide +kernel) ?_
      refine zwW_cm C.1 (op := 60) (k' := 96) (n := 0) (kd := 0) (m := 3) (nx := 10) (r := 20) (tl := []) (st' := [(0, kL1)]) (by decide +kernel) rfl (by decide +kernel) rfl (x96_20 C) ?_
      rintro v2 _ ⟨rfl, ev2⟩
      have bv2 := zLb_20 C
      refine zwic_ge (q := 33) (nx := 13) (by decide +kernel) (fun c3 => ?_) (fun c3 => ?_)
      · refine zwW_p [(0, 0, 0)] (q := 34) (ls' := [(2, 19), (2, r), (0, kL1)]) (st' := [(0, 0)]) (by decide +kernel) rfl ?_
        refine zwW_ret (nx := 35) (a := 1) (b := 0) (by decide +kernel) rfl (Or.inr (Or.inl ⟨rfl, by omega⟩)) ?_
        exact ⟨rfl, Or.inr ⟨rfl, by exact fun i hi => iL1_0 i (by omega)⟩⟩
      · refine zwW_p [(1, 0, 2)] (q := 14) (ls' := [(2, 19), (2, r), (0, kL1)]) (st' := [(2, 19)]) (by decide +kernel) rfl ?_
        refine zwW_gc C.1 (kd := 3) (bn := 0) (n := 10) (c := 20) (nx := 17) (by decide +kernel) ?_
        refine zwW_p [(1, 2, 0)] (q := 18) (ls' := [(2, 19), (2, r), (0, kL1)]) (st' := [(0, kL1), (2, 20)]) (by decide +kernel) rfl ?_
        refine zwW_cm C.1 (op := 60) (k' := 123) (n := 1) (kd := 0) (m := 3) (nx := 21) (r := 20) (tl := [(0, kL1)]) (st' := []) (by decide +kernel) rfl (by decide +kernel) rfl (x123_20 C (i := kL1) ⟨by omega, by omega⟩) ?_
        rintro v4 _ ⟨rfl, Gv4, ev4⟩
        have lv4 := Gv4.1
        refine zwW_p [(1, 1, 2)] (q := 22) (ls' := [(2, 19), (2, r), (0, kL1)]) (st' := [(2, r), (2, v4)]) (by decide +kernel) rfl ?_
        refine zwac_ne (q := 27) (nx := 25) (by decide +kernel) ⟨by omega, by omega, by omega, by omega⟩ (fun c5 => ?_) (fun c5 => ?_)
        · have N27 : ∀ i : Nat, (i : Int) < kL1 + 1 → zv h 20 i ≠ r := by
            intro i hi
            by_cases z : i = (kL1).toNat
            · rw [z]; have q : v4 = zv h 20 (kL1).toNat := ev4; omega
            · exact iL1_0 i (by omega)
          refine zwW_inc (i := 2) (c := 1) (x := kL1) (nx := 30) (by decide +kernel) rfl ⟨by omega, by omega⟩ (ls' := [(2, 19), (2, r), (0, (kL1 + 1))]) rfl ?_
          refine zwW_p [(24, 2, 0)] (q := 2) (ls' := [(2, 19), (2, r), (0, (kL1 + 1))]) (st' := []) (by decide +kernel) rfl ?_
          exact IHL1 ((1000 - (kL1 + 1))).toNat (by omega) (kL1 + 1) rfl (N27) (by omega)
        · refine zwW_p [(0, 1, 0)] (q := 26) (ls' := [(2, 19), (2, r), (0, kL1)]) (st' := [(0, 1)]) (by decide +kernel) rfl ?_
          refine zwW_ret (nx := 27) (a := 1) (b := 0) (by decide +kernel) rfl (Or.inr (Or.inl ⟨rfl, by omega⟩)) ?_
          exact ⟨rfl, Or.inl ⟨rfl, by exact ⟨(kL1).toNat, by omega, by have q : v4 = zv h 20 (kL1).toNat := ev4; omega⟩⟩⟩
  exact L1 _ 0 rfl (fun i hi => by omega) (by omega)
def msx143 : Zms := [(19, 19, 2, 3), (19, 19, 3, 4), (21, 21, 0, 3), (24, 24, 0, 6)]
-- WheelLand$Handwork.begin()V
theorem x143 {sc : List Int} (h : Hp) (C : CI h) : zwC sc 2 143 [(2, 19)] h (zwRv (fun g => CI g ∧ zXR msx143 (6) (6000) h g)) := by
  refine zwC_of (D := 1) 1 (by decide +kernel) rfl (ls := [(2, 19)]) rfl ?_
  have X : zXR msx143 0 0 h h := zXR.rf _ _
  refine zwW_p [(1, 0, 2)] (q := 1) (ls' := [(2, 19)]) (st' := [(2, 19)]) (by decide +kernel) rfl ?_
  refine zwW_gc C.1 (kd := 3) (bn := 1) (n := 10) (c := 21) (nx := 4) (by decide +kernel) ?_
  refine zwW_cmv C.1 (op := 60) (k' := 141) (n := 0) (kd := 0) (m := 3) (nx := 7) (r := 21) (tl := []) (st' := []) (by decide +kernel) rfl (by decide +kernel) rfl (x141_21 C) ?_
  rintro h2 ⟨Ch2, Qh2, zh2, oh2⟩
  have zh2 : fld h2 21 2 = 0 := zh2
  have Xh2 : zXR msx143 (6) (6000) h h2 := X.tr (c2 := 6) (s2 := 6000) Qh2 (by decide +kernel) (by decide) (by decide)
  refine zwW_p [(1, 0, 2), (0, 0, 0)] (q := 9) (ls' := [(2, 19)]) (st' := [(0, 0), (2, 19)]) (by decide +kernel) rfl ?_
  refine zwW_ps Ch2.1 (kd := 3) (bn := 2) (n := 10) (lo := -2147483648) (hi := 2147483647) (nx := 12) (by decide +kernel) ⟨by decide, by decide⟩ ?_
  intro h3 eh3 Ih3
  have Ch3 : CI h3 := Ch2.wc eh3 Ih3 (by decide) (by decide)
  have Qh3 : zXR [(19, 19, 2, 3)] 0 0 h2 h3 := zXR.wc eh3 rfl ⟨by decide, by decide, Or.inl (by decide)⟩ ⟨by decide, by decide⟩
  have Xh3 : zXR msx143 (6) (6000) h h3 := Xh2.tr (c2 := 6) (s2 := 6000) Qh3 (by decide +kernel) (by decide) (by decide)
  refine zwW_p [(1, 0, 2), (0, 0, 0)] (q := 14) (ls' := [(2, 19)]) (st' := [(0, 0), (2, 19)]) (by decide +kernel) rfl ?_
  refine zwW_ps Ch3.1 (kd := 3) (bn := 3) (n := 10) (lo := -2147483648) (hi := 2147483647) (nx := 17) (by decide +kernel) ⟨by decide, by decide⟩ ?_
  intro h4 eh4 Ih4
  have Ch4 : CI h4 := Ch3.wc eh4 Ih4 (by decide) (by decide)
  have Qh4 : zXR [(19, 19, 3, 4)] 0 0 h3 h4 := zXR.wc eh4 rfl ⟨by decide, by decide, Or.inl (by decide)⟩ ⟨by decide, by decide⟩
  have Xh4 : zXR msx143 (6) (6000) h h4 := Xh3.tr (c2 := 6) (s2 := 6000) Qh4 (by decide +kernel) (by decide) (by decide)
  refine zwW_p [(1, 0, 2)] (q := 18) (ls' := [(2, 19)]) (st' := [(2, 19)]) (by decide +kernel) rfl ?_
  refine zwW_gc Ch4.1 (kd := 3) (bn := 7) (n := 10) (c := 24) (nx := 21) (by decide +kernel) ?_
  refine zwW_p [(0, 0, 0)] (q := 22) (ls' := [(2, 19)]) (st' := [(0, 0), (2, 24)]) (by decide +kernel) rfl ?_
  refine zwW_csv (k' := 180) (n := 2) (nx := 25) (as := [(2, 24), (0, 0)]) (st' := []) (by decide +kernel) rfl (x180_24 Ch4 ⟨by omega, by omega⟩) rfl ?_
  rintro h5 ⟨Ch5, Qh5, fh5⟩
  have Xh5 : zXR msx143 (6) (6000) h h5 := Xh4.tr (c2 := 6) (s2 := 6000) Qh5 (by decide +kernel) (by decide) (by decide)
  refine zwW_retv (nx := 26) (a := 0) (b := 0) (by decide +kernel) ?_
  exact ⟨Ch5, Xh5.le (by decide) (by decide)⟩
def msx144 : Zms := [(21, 21, 0, 3)]
-- WheelLand$Handwork.addLoom(LWheelLand$House;)V
theorem x144 {sc : List Int} (h : Hp) (C : CI h) (r : Int) (G_r : gH h r) (hl : h.length ≤ 999930000) : zwC sc 7 144 [(2, 19), (2, r)] h (zwRv (fun g => CI g ∧ zXR msx144 (0) (0) h g)) := by
  refine zwC_of (D := 6) 2 (by decide +kernel) rfl (ls := [(2, 19), (2, r)]) rfl ?_
  have lw_r := G_r.1
  have X : zXR msx144 0 0 h h := zXR.rf _ _
  refine zwW_p [(1, 0, 2)] (q := 1) (ls' := [(2, 19), (2, r)]) (st' := [(2, 19)]) (by decide +kernel) rfl ?_
  refine zwW_gc C.1 (kd := 3) (bn := 1) (n := 10) (c := 21) (nx := 4) (by decide +kernel) ?_
  refine zwW_cm C.1 (op := 60) (k' := 96) (n := 0) (kd := 0) (m := 3) (nx := 7) (r := 21) (tl := []) (st' := []) (by decide +kernel) rfl (by decide +kernel) rfl (x96_21 C) ?_
  rintro v1 _ ⟨rfl, ev1⟩
  have bv1 := zLb_21 C
  refine zwW_p [(0, 6, 0)] (q := 9) (ls' := [(2, 19), (2, r)]) (st' := [(0, 6), (0, v1)]) (by decide +kernel) rfl ?_
  refine zwic_ge (q := 21) (nx := 12) (by decide +kernel) (fun c2 => ?_) (fun c2 => ?_)
  · refine zwW_retv (nx := 22) (a := 0) (b := 0) (by decide +kernel) ?_
    exact ⟨C, X.le (by decide) (by decide)⟩
  · refine zwW_p [(1, 0, 2)] (q := 13) (ls' := [(2, 19), (2, r)]) (st' := [(2, 19)]) (by decide +kernel) rfl ?_
    refine zwW_gc C.1 (kd := 3) (bn := 1) (n := 10) (c := 21) (nx := 16) (by decide +kernel) ?_
    refine zwW_p [(1, 1, 2)] (q := 17) (ls' := [(2, 19), (2, r)]) (st' := [(2, r), (2, 21)]) (by decide +kernel) rfl ?_
    refine zwW_cm C.1 (op := 60) (k' := 100) (n := 1) (kd := 0) (m := 3) (nx := 20) (r := 21) (tl := [(2, r)]) (st' := []) (by decide +kernel) rfl (by decide +kernel) rfl (x100_21 C G_r (by omega) (by omega)) ?_
    rintro x h4 ⟨rfl, Ah4⟩
    have Ch4 := Ah4.1
    have Qh4 : zXR [(21, 21, 0, 3)] (0) (0) h h4 := Ah4.2.1
    have zh4 : fld h4 21 2 = fld h 21 2 + 1 := Ah4.2.2.1
    have Xh4 : zXR msx144 (0) (0) h h4 := X.tr (c2 := 0) (s2 := 0) Qh4 (by decide +kernel) (by decide) (by decide)
    have Gh4_0 : gH h4 r := G_r.x Qh4
    refine zwW_p [(15, 0, 0)] (q := 21) (ls' := [(2, 19), (2, r)]) (st' := []) (by decide +kernel) rfl ?_
    refine zwW_retv (nx := 22) (a := 0) (b := 0) (by decide +kernel) ?_
    exact ⟨Ch4, Xh4.le (by decide) (by decide)⟩
def msx211 : Zms := [(19, 19, 2, 3), (19, 19, 3, 4), (22, 22, 0, 6), (23, 23, 0, 6)]
-- WheelLand$Handwork.offer(IIII)V
theorem x211 {sc : List Int} (h : Hp) (C : CI h) (a b c d : Int) (q_a : -2147483648 ≤ a ∧ a ≤ 2147483647) (q_b : -2147483648 ≤ b ∧ b ≤ 2147483647) (q_c : -2147483648 ≤ c ∧ c ≤ 2147483647) (q_d : -2147483648 ≤ d ∧ d ≤ 2147483647) : zwC sc 1 211 [(2, 19), (0, a), (0, b), (0, c), (0, d)] h (zwRv (fun g => CI g ∧ zXR msx211 (0) (0) h g)) := by
  refine zwC_of (D := 0) 5 (by decide +kernel) rfl (ls := [(2, 19), (0, a), (0, b), (0, c), (0, d)]) rfl ?_
  have X : zXR msx211 0 0 h h := zXR.rf _ _
  refine zwW_p [(1, 1, 0)] (q := 1) (ls' := [(2, 19), (0, a), (0, b), (0, c), (0, d)]) (st' := [(0, a)]) (by decide +kernel) rfl ?_
  refine zwif_lt (q := 50) (nx := 4) (by decide +kernel) (fun c1 => ?_) (fun c1 => ?_)
  · refine zwW_retv (nx := 51) (a := 0) (b := 0) (by decide +kernel) ?_
    exact ⟨C, X.le (by decide) (by decide)⟩
  · refine zwW_p [(1, 1, 0), (0, 6, 0)] (q := 7) (ls' := [(2, 19), (0, a), (0, b), (0, c), (0, d)]) (st' := [(0, 6), (0, a)]) (by decide +kernel) rfl ?_
    refine zwic_ge (q := 50) (nx := 10) (by decide +kernel) (fun c2 => ?_) (fun c2 => ?_)
    · refine zwW_retv (nx := 51) (a := 0) (b := 0) (by decide +kernel) ?_
      exact ⟨C, X.le (by decide) (by decide)⟩
    · refine zwW_p [(1, 0, 2)] (q := 11) (ls' := [(2, 19), (0, a), (0, b), (0, c), (0, d)]) (st' := [(2, 19)]) (by decide +kernel) rfl ?_
      refine zwW_gc C.1 (kd := 3) (bn := 5) (n := 10) (c := 22) (nx := 14) (by decide +kernel) ?_
      refine zwW_p [(1, 1, 0), (1, 2, 0)] (q := 16) (ls' := [(2, 19), (0, a), (0, b), (0, c), (0, d)]) (st' := [(0, b), (0, a), (2, 22)]) (by decide +kernel) rfl ?_
      refine zwW_as C.1 (a1 := 22) (a2 := 22) (n := 6) (lo := -2147483648) (hi := 2147483647) (nx := 17) (by decide +kernel) ⟨by decide, by decide⟩ ⟨by omega, by omega⟩ ⟨by omega, by omega⟩ ?_
      intro h3 eh3 Ih3
      have Ch3 : CI h3 := C.wc eh3 Ih3 (by decide) (by decide)
      have Qh3 : zXR [(22, 22, 0, 6)] 0 0 h h3 := zXR.wc eh3 rfl ⟨by decide, by decide, Or.inl (by decide)⟩ ⟨by omega, by omega⟩
      have Xh3 : zXR msx211 (0) (0) h h3 := X.tr (c2 := 0) (s2 := 0) Qh3 (by decide +kernel) (by decide) (by decide)
      refine zwW_p [(1, 0, 2)] (q := 18) (ls' := [(2, 19), (0, a), (0, b), (0, c), (0, d)]) (st' := [(2, 19)]) (by decide +kernel) rfl ?_
      refine zwW_gc Ch3.1 (kd := 3) (bn := 6) (n := 10) (c := 23) (nx := 21) (by decide +kernel) ?_
      refine zwW_p [(1, 1, 0), (1, 4, 0)] (q := 24) (ls' := [(2, 19), (0, a), (0, b), (0, c), (0, d)]) (st' := [(0, d), (0, a), (2, 23)]) (by decide +kernel) rfl ?_
      refine zwW_as Ch3.1 (a1 := 23) (a2 := 23) (n := 6) (lo := -2147483648) (hi := 2147483647) (nx := 25) (by decide +kernel) ⟨by decide, by decide⟩ ⟨by omega, by omega⟩ ⟨by omega, by omega⟩ ?_
      intro h4 eh4 Ih4
      have Ch4 : CI h4 := Ch3.wc eh4 Ih4 (by decide) (by decide)
      have Qh4 : zXR [(23, 23, 0, 6)] 0 0 h3 h4 := zXR.wc eh4 rfl ⟨by decide, by decide, Or.inl (by decide)⟩ ⟨by omega, by omega⟩
      have Xh4 : zXR msx211 (0) (0) h h4 := Xh3.tr (c2 := 0) (s2 := 0) Qh4 (by decide +kernel) (by decide) (by decide)
      refine zwW_p [(1, 4, 0)] (q := 27) (ls' := [(2, 19), (0, a), (0, b), (0, c), (0, d)]) (st' := [(0, d)]) (by decide +kernel) rfl ?_
      refine zwif_eq (q := 50) (nx := 30) (by decide +kernel) (fun c5 => ?_) (fun c5 => ?_)
      · refine zwW_retv (nx := 51) (a := 0) (b := 0) (by decide +kernel) ?_
        exact ⟨Ch4, Xh4.le (by decide) (by decide)⟩
      · refine zwW_p [(1, 0, 2), (12, 0, 0)] (q := 32) (ls' := [(2, 19), (0, a), (0, b), (0, c), (0, d)]) (st' := [(2, 19), (2, 19)]) (by decide +kernel) rfl ?_
        refine zwW_gs Ch4.1 (kd := 3) (bn := 2) (n := 10) (t := 0) (lo := -2147483648) (hi := 2147483647) (nx := 35) (by decide +kernel) ?_
        intro v6 ev6 lv6 uv6
        refine zwW_p [(1, 2, 0)] (q := 36) (ls' := [(2, 19), (0, a), (0, b), (0, c), (0, d)]) (st' := [(0, b), (0, v6), (2, 19)]) (by decide +kernel) rfl ?_
        refine zwW_adw (nx := 37) (by decide +kernel) ?_
        intro v7 ev7 lv7 uv7
        refine zwW_ps Ch4.1 (kd := 3) (bn := 2) (n := 10) (lo := -2147483648) (hi := 2147483647) (nx := 40) (by decide +kernel) ⟨by omega, by omega⟩ ?_
        intro h8 eh8 Ih8
        have Ch8 : CI h8 := Ch4.wc eh8 Ih8 (by decide) (by decide)
        have Qh8 : zXR [(19, 19, 2, 3)] 0 0 h4 h8 := zXR.wc eh8 rfl ⟨by decide, by decide, Or.inl (by decide)⟩ ⟨by decide, by decide⟩
        have Xh8 : zXR msx211 (0) (0) h h8 := Xh4.tr (c2 := 0) (s2 := 0) Qh8 (by decide +kernel) (by decide) (by decide)
        refine zwW_p [(1, 0, 2), (12, 0, 0)] (q := 42) (ls' := [(2, 19), (0, a), (0, b), (0, c), (0, d)]) (st' := [(2, 19), (2, 19)]) (by decide +kernel) rfl ?_
        refine zwW_gs Ch8.1 (kd := 3) (bn := 3) (n := 10) (t := 0) (lo := -2147483648) (hi := 2147483647) (nx := 45) (by decide +kernel) ?_
        intro v9 ev9 lv9 uv9
        refine zwW_p [(1, 3, 0)] (q := 46) (ls' := [(2, 19), (0, a), (0, b), (0, c), (0, d)]) (st' := [(0, c), (0, v9), (2, 19)]) (by decide +kernel) rfl ?_
        refine zwW_adw (nx := 47) (by decide +kernel) ?_
        intro v10 ev10 lv10 uv10
        refine zwW_ps Ch8.1 (kd := 3) (bn := 3) (n := 10) (lo := -2147483648) (hi := 2147483647) (nx := 50) (by decide +kernel) ⟨by omega, by omega⟩ ?_
        intro h11 eh11 Ih11
        have Ch11 : CI h11 := Ch8.wc eh11 Ih11 (by decide) (by decide)
        have Qh11 : zXR [(19, 19, 3, 4)] 0 0 h8 h11 := zXR.wc eh11 rfl ⟨by decide, by decide, Or.inl (by decide)⟩ ⟨by decide, by decide⟩
        have Xh11 : zXR msx211 (0) (0) h h11 := Xh8.tr (c2 := 0) (s2 := 0) Qh11 (by decide +kernel) (by decide) (by decide)
        refine zwW_retv (nx := 51) (a := 0) (b := 0) (by decide +kernel) ?_
        exact ⟨Ch11, Xh11.le (by decide) (by decide)⟩
-- WheelLand$Handwork.whoWeaves(I)I
theorem x147 {sc : List Int} (h : Hp) (C : CI h) (a : Int) (q_a : -2147483648 ≤ a ∧ a ≤ 2147483647) : zwC sc 5 147 [(2, 19), (0, a)] h (zwRt 0 (fun x g => h = g ∧ (-2147483648 ≤ x ∧ x ≤ 2147483647))) := by
  refine zwC_of (D := 4) 3 (by decide +kernel) rfl (ls := [(2, 19), (0, a), (9, 0)]) rfl ?_
  refine zwW_p [(1, 1, 0)] (q := 1) (ls' := [(2, 19), (0, a), (9, 0)]) (st' := [(0, a)]) (by decide +kernel) rfl ?_
  refine zwif_lt (q := 19) (nx := 4) (by decide +kernel) (fun c1 => ?_) (fun c1 => ?_)
  · refine zwW_p [(0, -1, 0), (2, 2, 0), (1, 2, 0)] (q := 22) (ls' := [(2, 19), (0, a), (0, -1)]) (st' := [(0, -1)]) (by decide +kernel) rfl ?_
    refine zwif_lt (q := 53) (nx := 25) (by decide +kernel) (fun c2 => ?_) (fun c2 => ?_)
    · refine zwW_p [(0, -1, 0)] (q := 54) (ls' := [(2, 19), (0, a), (0, -1)]) (st' := [(0, -1)]) (by decide +kernel) rfl ?_
      refine zwW_ret (nx := 55) (a := 0) (b := 0) (by decide +kernel) rfl (Or.inl rfl) ?_
      exact ⟨rfl, by omega⟩
    · exfalso; omega
  · refine zwW_p [(1, 1, 0), (0, 6, 0)] (q := 7) (ls' := [(2, 19), (0, a), (9, 0)]) (st' := [(0, 6), (0, a)]) (by decide +kernel) rfl ?_
    refine zwic_ge (q := 19) (nx := 10) (by decide +kernel) (fun c3 => ?_) (fun c3 => ?_)
    · refine zwW_p [(0, -1, 0), (2, 2, 0), (1, 2, 0)] (q := 22) (ls' := [(2, 19), (0, a), (0, -1)]) (st' := [(0, -1)]) (by decide +kernel) rfl ?_
      refine zwif_lt (q := 53) (nx := 25) (by decide +kernel) (fun c4 => ?_) (fun c4 => ?_)
      · refine zwW_p [(0, -1, 0)] (q := 54) (ls' := [(2, 19), (0, a), (0, -1)]) (st' := [(0, -1)]) (by decide +kernel) rfl ?_
        refine zwW_ret (nx := 55) (a := 0) (b := 0) (by decide +kernel) rfl (Or.inl rfl) ?_
        exact ⟨rfl, by omega⟩
      · exfalso; omega
    · refine zwW_p [(1, 0, 2)] (q := 11) (ls' := [(2, 19), (0, a), (9, 0)]) (st' := [(2, 19)]) (by decide +kernel) rfl ?_
      refine zwW_gc C.1 (kd := 3) (bn := 9) (n := 10) (c := 26) (nx := 14) (by decide +kernel) ?_
      refine zwW_p [(1, 1, 0)] (q := 15) (ls' := [(2, 19), (0, a), (9, 0)]) (st' := [(0, a), (2, 26)]) (by decide +kernel) rfl ?_
      refine zwW_al C.1 (a1 := 26) (a2 := 26) (kd := 20) (n := 6) (t := 0) (lo := -2147483648) (hi := 2147483647) (nx := 16) (by decide +kernel) ⟨by decide, by decide⟩ ⟨by omega, by omega⟩ ?_
      intro v5 ev5 lv5 uv5
      refine zwW_p [(24, 20, 0), (2, 2, 0), (1, 2, 0)] (q := 22) (ls' := [(2, 19), (0, a), (0, v5)]) (st' := [(0, v5)]) (by decide +kernel) rfl ?_
      refine zwif_lt (q := 53) (nx := 25) (by decide +kernel) (fun c6 => ?_) (fun c6 => ?_)
      · refine zwW_p [(0, -1, 0)] (q := 54) (ls' := [(2, 19), (0, a), (0, v5)]) (st' := [(0, -1)]) (by decide +kernel) rfl ?_
        refine zwW_ret (nx := 55) (a := 0) (b := 0) (by decide +kernel) rfl (Or.inl rfl) ?_
        exact ⟨rfl, by omega⟩
      · refine zwW_p [(1, 2, 0), (1, 0, 2)] (q := 27) (ls' := [(2, 19), (0, a), (0, v5)]) (st' := [(2, 19), (0, v5)]) (by decide +kernel) rfl ?_
        refine zwW_gc C.1 (kd := 3) (bn := 1) (n := 10) (c := 21) (nx := 30) (by decide +kernel) ?_
        refine zwW_cm C.1 (op := 60) (k' := 96) (n := 0) (kd := 0) (m := 3) (nx := 33) (r := 21) (tl := []) (st' := [(0, v5)]) (by decide +kernel) rfl (by decide +kernel) rfl (x96_21 C) ?_
        rintro v7 _ ⟨rfl, ev7⟩
        have bv7 := zLb_21 C
        refine zwic_ge (q := 53) (nx := 36) (by decide +kernel) (fun c8 => ?_) (fun c8 => ?_)
        · refine zwW_p [(0, -1, 0)] (q := 54) (ls' := [(2, 19), (0, a), (0, v5)]) (st' := [(0, -1)]) (by decide +kernel) rfl ?_
          refine zwW_ret (nx := 55) (a := 0) (b := 0) (by decide +kernel) rfl (Or.inl rfl) ?_
          exact ⟨rfl, by omega⟩
        · refine zwW_p [(1, 0, 2)] (q := 37) (ls' := [(2, 19), (0, a), (0, v5)]) (st' := [(2, 19)]) (by decide +kernel) rfl ?_
          refine zwW_gc C.1 (kd := 3) (bn := 1) (n := 10) (c := 21) (nx := 40) (by decide +kernel) ?_
          refine zwW_p [(1, 2, 0)] (q := 41) (ls' := [(2, 19), (0, a), (0, v5)]) (st' := [(0, v5), (2, 21)]) (by decide +kernel) rfl ?_
          refine zwW_cm C.1 (op := 60) (k' := 123) (n := 1) (kd := 0) (m := 3) (nx := 44) (r := 21) (tl := [(0, v5)]) (st' := []) (by decide +kernel) rfl (by decide +kernel) rfl (x123_21 C (i := v5) ⟨by omega, by omega⟩) ?_
          rintro v9 _ ⟨rfl, Gv9, ev9⟩
          have lv9 := Gv9.1
          refine zwW_cast (a := 4) (kd := 4) (n := 19) (nx := 47) (by decide +kernel) rfl (Or.inr Gv9.2.1) ?_
          refine zwX_gi C (kd := 4) (bn := 0) (n := 19) (nx := 50) (by decide +kernel) Gv9.2.1 Gv9.1 rfl ?_
          intro v10 ev10 lv10 uv10
          refine zwW_p [(24, 54, 0)] (q := 54) (ls' := [(2, 19), (0, a), (0, v5)]) (st' := [(0, v10)]) (by decide +kernel) rfl ?_
          refine zwW_ret (nx := 55) (a := 0) (b := 0) (by decide +kernel) rfl (Or.inl rfl) ?_
          exact ⟨rfl, by omega⟩
