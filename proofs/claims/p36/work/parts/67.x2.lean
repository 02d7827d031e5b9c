/-! joined: 67.x2 68.x3 69.agram 70.x4 71.agram2 -/
section
/-! contracts of the class -/
-- WheelLand$Reader.hasRoomFor(I)Z
theorem x117 {sc : List Int} (h : Hp) (C : CI h) (a : Int) (q_a : -2147483648 ≤ a ∧ a ≤ 2147483647) : zwC sc 1 117 [(2, 9), (0, a)] h (zwRt 0 (fun x g => h = g ∧ ((x = 1 ∧ (0 ≤ 1)) ∨ (x = 0 ∧ (0 ≤ 1))))) := by
  refine zwC_of (D := 0) 2 (by decide +kernel) rfl (ls := [(2, 9), (0, a)]) rfl ?_
  refine zwW_p [(1, 0, 2)] (q := 1) (ls' := [(2, 9), (0, a)]) (st' := [(2, 9)]) (by decide +kernel) rfl ?_
  refine zwW_gs C.1 (kd := 7) (bn := 0) (n := 9) (t := 0) (lo := 0) (hi := 400) (nx := 4) (by decide +kernel) ?_
  intro v1 ev1 lv1 uv1
  refine zwW_p [(1, 1, 0)] (q := 5) (ls' := [(2, 9), (0, a)]) (st' := [(0, a), (0, v1)]) (by decide +kernel) rfl ?_
  refine zwW_adw (nx := 6) (by decide +kernel) ?_
  intro v2 ev2 lv2 uv2
  refine zwW_p [(1, 0, 2)] (q := 7) (ls' := [(2, 9), (0, a)]) (st' := [(2, 9), (0, v2)]) (by decide +kernel) rfl ?_
  refine zwW_gc C.1 (kd := 7) (bn := 1) (n := 9) (c := 10) (nx := 10) (by decide +kernel) ?_
  refine zwW_len (kd := 20) (n := 400) (nx := 11) (by decide +kernel) (C.1.s (a1 := 10) (a2 := 10) (by decide +kernel) (by omega) (by omega)) rfl ?_
  refine zwic_gt (q := 18) (nx := 14) (by decide +kernel) (fun c3 => ?_) (fun c3 => ?_)
  · refine zwW_p [(0, 0, 0)] (q := 19) (ls' := [(2, 9), (0, a)]) (st' := [(0, 0)]) (by decide +kernel) rfl ?_
    refine zwW_ret (nx := 20) (a := 1) (b := 0) (by decide +kernel) rfl (Or.inr (Or.inl ⟨rfl, Or.inl rfl⟩)) ?_
    exact ⟨rfl, Or.inr ⟨rfl, by omega⟩⟩
  · refine zwW_p [(0, 1, 0), (24, 19, 0)] (q := 19) (ls' := [(2, 9), (0, a)]) (st' := [(0, 1)]) (by decide +kernel) rfl ?_
    refine zwW_ret (nx := 20) (a := 1) (b := 0) (by decide +kernel) rfl (Or.inr (Or.inl ⟨rfl, Or.inr rfl⟩)) ?_
    exact ⟨rfl, Or.inl ⟨rfl, by omega⟩⟩
def msx118 : Zms := [(9, 9, 0, 1), (10, 10, 0, 400)]
-- WheelLand$Reader.append(I)V
theorem x118 {sc : List Int} (h : Hp) (C : CI h) (a : Int) (q_a : -2147483648 ≤ a ∧ a ≤ 2147483647) : zwC sc 1 118 [(2, 9), (0, a)] h (zwRv (fun g => CI g ∧ zXR msx118 (0) (0) h g)) := by
  refine zwC_of (D := 0) 3 (by decide +kernel) rfl (ls := [(2, 9), (0, a), (9, 0)]) rfl ?_
  have X : zXR msx118 0 0 h h := zXR.rf _ _
  refine zwW_p [(0, 24, 0), (2, 2, 0)] (q := 3) (ls' := [(2, 9), (0, a), (0, 24)]) (st' := []) (by decide +kernel) rfl ?_
  have L1 : ∀ (n : Nat) (vL1 : Int) (hL1 : Hp), n = ((vL1 + 8)).toNat → (-8 ≤ vL1 ∧ vL1 ≤ 24) → CI hL1 → zXR msx118 (0) (0) h hL1 → zwW sc (0) 118 3 [(2, 9), (0, a), (0, vL1)] [] hL1 (zwRv (fun g => CI g ∧ zXR msx118 (0) (0) h g)) := by
    intro n
    induction n using Nat.strongRecOn with
    | ind n IHL1 =>
      intro vL1 hL1 hnL1 iL1_0 ChL1 XhL1
      refine zwW_p [(1, 2, 0)] (q := 4) (ls' := [(2, 9), (0, a), (0, vL1)]) (st' := [(0, vL1)]) (by decide +kernel) rfl ?_
      refine zwif_lt (q := 51) (nx := 7) (by decide +kernel) (fun c2 => ?_) (fun c2 => ?_)
      · refine zwW_retv (nx := 52) (a := 0) (b := 0) (by decide +kernel) ?_
        exact ⟨ChL1, XhL1.le (by decide) (by decide)⟩
      · refine zwW_p [(1, 0, 2)] (q := 8) (ls' := [(2, 9), (0, a), (0, vL1)]) (st' := [(2, 9)]) (by decide +kernel) rfl ?_
        refine zwW_gs ChL1.1 (kd := 7) (bn := 0) (n := 9) (t := 0) (lo := 0) (hi := 400) (nx := 11) (by decide +kernel) ?_
        intro v3 ev3 lv3 uv3
        refine zwW_p [(1, 0, 2)] (q := 12) (ls' := [(2, 9), (0, a), (0, vL1)]) (st' := [(2, 9), (0, v3)]) (by decide +kernel) rfl ?_
        refine zwW_gc ChL1.1 (kd := 7) (bn := 1) (n := 9) (c := 10) (nx := 15) (by decide +kernel) ?_
        refine zwW_len (kd := 20) (n := 400) (nx := 16) (by decide +kernel) (ChL1.1.s (a1 := 10) (a2 := 10) (by decide +kernel) (by omega) (by omega)) rfl ?_
        refine zwic_ge (q := 51) (nx := 19) (by decide +kernel) (fun c4 => ?_) (fun c4 => ?_)
        · refine zwW_retv (nx := 52) (a := 0) (b := 0) (by decide +kernel) ?_
          exact ⟨ChL1, XhL1.le (by decide) (by decide)⟩
        · refine zwW_p [(1, 0, 2)] (q := 20) (ls' := [(2, 9), (0, a), (0, vL1)]) (st' := [(2, 9)]) (by decide +kernel) rfl ?_
          refine zwW_gc ChL1.1 (kd := 7) (bn := 1) (n := 9) (c := 10) (nx := 23) (by decide +kernel) ?_
          refine zwW_p [(1, 0, 2)] (q := 24) (ls' := [(2, 9), (0, a), (0, vL1)]) (st' := [(2, 9), (2, 10)]) (by decide +kernel) rfl ?_
          refine zwW_gs ChL1.1 (kd := 7) (bn := 0) (n := 9) (t := 0) (lo := 0) (hi := 400) (nx := 27) (by decide +kernel) ?_
          intro v5 ev5 lv5 uv5
          refine zwW_p [(1, 1, 0), (1, 2, 0)] (q := 29) (ls' := [(2, 9), (0, a), (0, vL1)]) (st' := [(0, vL1), (0, a), (0, v5), (2, 10)]) (by decide +kernel) rfl ?_
          refine zwW_any2 (a := 10) (nx := 30) (by decide +kernel) rfl (by first | omega | exact ⟨by omega, by omega⟩) (Or.inr (by first | decide | exact ⟨by decide, by decide⟩)) ?_
          intro v6 lv6 uv6
          refine zwW_p [(0, 255, 0)] (q := 33) (ls' := [(2, 9), (0, a), (0, vL1)]) (st' := [(0, 255), (0, v6), (0, v5), (2, 10)]) (by decide +kernel) rfl ?_
          refine zwW_any2 (a := 5) (nx := 34) (by decide +kernel) rfl (by first | omega | exact ⟨by omega, by omega⟩) (Or.inr (by first | decide | exact ⟨by decide, by decide⟩)) ?_
          intro v7 lv7 uv7
          refine zwW_as ChL1.1 (a1 := 10) (a2 := 10) (n := 400) (lo := -2147483648) (hi := 2147483647) (nx := 35) (by decide +kernel) (by first | decide | exact ⟨by decide, by decide⟩) (by first | omega | exact ⟨by omega, by omega⟩) (by first | omega | exact ⟨by omega, by omega⟩) ?_
          intro h8 eh8 Ih8
          have Ch8 : CI h8 := ChL1.wc eh8 Ih8 (by decide) (by decide)
          have Qh8 : zXR [(10, 10, 0, 400)] 0 0 hL1 h8 := zXR.wc eh8 rfl ⟨by decide, by decide, Or.inl (by decide)⟩ (by first | omega | exact ⟨by omega, by omega⟩)
          have Xh8 : zXR msx118 (0) (0) h h8 := XhL1.tr (c2 := 0) (s2 := 0) Qh8 (by decide +kernel) (by decide) (by decide)
          have th8_9_0 : fld h8 9 0 = fld hL1 9 0 := Qh8.f (a1 := 9) (a2 := 9) (j1 := 0) (j2 := 1) (by decide +kernel) (by first | decide | exact ⟨by decide, by decide⟩) (by first | decide | exact ⟨by decide, by decide⟩) (by first | decide | exact ⟨by decide, by decide⟩)
          refine zwW_p [(1, 0, 2), (12, 0, 0)] (q := 37) (ls' := [(2, 9), (0, a), (0, vL1)]) (st' := [(2, 9), (2, 9)]) (by decide +kernel) rfl ?_
          refine zwW_gs Ch8.1 (kd := 7) (bn := 0) (n := 9) (t := 0) (lo := 0) (hi := 400) (nx := 40) (by decide +kernel) ?_
          intro v9 ev9 lv9 uv9
          refine zwW_p [(0, 1, 0)] (q := 41) (ls' := [(2, 9), (0, a), (0, vL1)]) (st' := [(0, 1), (0, v9), (2, 9)]) (by decide +kernel) rfl ?_
          refine zwW_add (nx := 42) (by decide +kernel) (by first | omega | exact ⟨by omega, by omega⟩) ?_
          refine zwW_ps Ch8.1 (kd := 7) (bn := 0) (n := 9) (lo := 0) (hi := 400) (nx := 45) (by decide +kernel) (by first | omega | exact ⟨by omega, by omega⟩) ?_
          intro h10 eh10 Ih10
          have Ch10 : CI h10 := Ch8.wc eh10 Ih10 (by decide) (by decide)
          have Qh10 : zXR [(9, 9, 0, 1)] 0 0 h8 h10 := zXR.wc eh10 rfl ⟨by decide, by decide, Or.inl (by decide)⟩ (by first | decide | exact ⟨by decide, by decide⟩)
          have Xh10 : zXR msx118 (0) (0) h h10 := Xh8.tr (c2 := 0) (s2 := 0) Qh10 (by decide +kernel) (by decide) (by decide)
          have th10_9_0 : fld h10 9 0 = (v9 + 1) := by rw [eh10]; exact fld_wr_eq (Ch8.1.s (a1 := 9) (a2 := 9) (k := 7) (n := 9) (by decide +kernel) (by decide) (by decide)) (by decide)
          refine zwW_inc (i := 2) (c := -8) (x := vL1) (nx := 48) (by decide +kernel) rfl (by first | omega | exact ⟨by omega, by omega⟩) (ls' := [(2, 9), (0, a), (0, (vL1 + (-8)))]) rfl ?_
          refine zwW_p [(24, 3, 0)] (q := 3) (ls' := [(2, 9), (0, a), (0, (vL1 + (-8)))]) (st' := []) (by decide +kernel) rfl ?_
          exact IHL1 (((vL1 + (-8)) + 8)).toNat (by omega) (vL1 + (-8)) h10 rfl (by omega) Ch10 (Xh10.le (by decide) (by decide))
  exact L1 _ 24 h rfl (by omega) C (X.le (by decide) (by decide))
-- WheelLand$Reader.isLetter(I)Z
theorem x236 {sc : List Int} (h : Hp) (C : CI h) (a : Int) (q_a : -2147483648 ≤ a ∧ a ≤ 2147483647) (p1 : 0 ≤ a) : zwC sc 1 236 [(2, 9), (0, a)] h (zwRt 0 (fun x g => h = g ∧ ((x = 1 ∧ (0 ≤ 1)) ∨ (x = 0 ∧ (0 ≤ 1))))) := by
  refine zwC_of (D := 0) 2 (by decide +kernel) rfl (ls := [(2, 9), (0, a)]) rfl ?_
  refine zwW_p [(1, 1, 0), (1, 0, 2)] (q := 2) (ls' := [(2, 9), (0, a)]) (st' := [(2, 9), (0, a)]) (by decide +kernel) rfl ?_
  refine zwW_gs C.1 (kd := 7) (bn := 0) (n := 9) (t := 0) (lo := 0) (hi := 400) (nx := 5) (by decide +kernel) ?_
  intro v1 ev1 lv1 uv1
  refine zwic_ge (q := 34) (nx := 8) (by decide +kernel) (fun c2 => ?_) (fun c2 => ?_)
  · refine zwW_p [(0, 0, 0)] (q := 35) (ls' := [(2, 9), (0, a)]) (st' := [(0, 0)]) (by decide +kernel) rfl ?_
    refine zwW_ret (nx := 36) (a := 1) (b := 0) (by decide +kernel) rfl (Or.inr (Or.inl ⟨rfl, Or.inl rfl⟩)) ?_
    exact ⟨rfl, Or.inr ⟨rfl, by omega⟩⟩
  · refine zwW_p [(1, 0, 2)] (q := 9) (ls' := [(2, 9), (0, a)]) (st' := [(2, 9)]) (by decide +kernel) rfl ?_
    refine zwW_gc C.1 (kd := 7) (bn := 1) (n := 9) (c := 10) (nx := 12) (by decide +kernel) ?_
    refine zwW_p [(1, 1, 0)] (q := 13) (ls' := [(2, 9), (0, a)]) (st' := [(0, a), (2, 10)]) (by decide +kernel) rfl ?_
    refine zwW_al C.1 (a1 := 10) (a2 := 10) (kd := 20) (n := 400) (t := 0) (lo := -2147483648) (hi := 2147483647) (nx := 14) (by decide +kernel) (by first | decide | exact ⟨by decide, by decide⟩) (by first | omega | exact ⟨by omega, by omega⟩) ?_
    intro v3 ev3 lv3 uv3
    refine zwW_p [(0, 97, 0)] (q := 16) (ls' := [(2, 9), (0, a)]) (st' := [(0, 97), (0, v3)]) (by decide +kernel) rfl ?_
    refine zwic_lt (q := 34) (nx := 19) (by decide +kernel) (fun c4 => ?_) (fun c4 => ?_)
    · refine zwW_p [(0, 0, 0)] (q := 35) (ls' := [(2, 9), (0, a)]) (st' := [(0, 0)]) (by decide +kernel) rfl ?_
      refine zwW_ret (nx := 36) (a := 1) (b := 0) (by decide +kernel) rfl (Or.inr (Or.inl ⟨rfl, Or.inl rfl⟩)) ?_
      exact ⟨rfl, Or.inr ⟨rfl, by omega⟩⟩
    · refine zwW_p [(1, 0, 2)] (q := 20) (ls' := [(2, 9), (0, a)]) (st' := [(2, 9)]) (by decide +kernel) rfl ?_
      refine zwW_gc C.1 (kd := 7) (bn := 1) (n := 9) (c := 10) (nx := 23) (by decide +kernel) ?_
      refine zwW_p [(1, 1, 0)] (q := 24) (ls' := [(2, 9), (0, a)]) (st' := [(0, a), (2, 10)]) (by decide +kernel) rfl ?_
      refine zwW_al C.1 (a1 := 10) (a2 := 10) (kd := 20) (n := 400) (t := 0) (lo := -2147483648) (hi := 2147483647) (nx := 25) (by decide +kernel) (by first | decide | exact ⟨by decide, by decide⟩) (by first | omega | exact ⟨by omega, by omega⟩) ?_
      intro v5 ev5 lv5 uv5
      refine zwW_p [(0, 122, 0)] (q := 27) (ls' := [(2, 9), (0, a)]) (st' := [(0, 122), (0, v5)]) (by decide +kernel) rfl ?_
      refine zwic_gt (q := 34) (nx := 30) (by decide +kernel) (fun c6 => ?_) (fun c6 => ?_)
      · refine zwW_p [(0, 0, 0)] (q := 35) (ls' := [(2, 9), (0, a)]) (st' := [(0, 0)]) (by decide +kernel) rfl ?_
        refine zwW_ret (nx := 36) (a := 1) (b := 0) (by decide +kernel) rfl (Or.inr (Or.inl ⟨rfl, Or.inl rfl⟩)) ?_
        exact ⟨rfl, Or.inr ⟨rfl, by omega⟩⟩
      · refine zwW_p [(0, 1, 0), (24, 35, 0)] (q := 35) (ls' := [(2, 9), (0, a)]) (st' := [(0, 1)]) (by decide +kernel) rfl ?_
        refine zwW_ret (nx := 36) (a := 1) (b := 0) (by decide +kernel) rfl (Or.inr (Or.inl ⟨rfl, Or.inr rfl⟩)) ?_
        exact ⟨rfl, Or.inl ⟨rfl, by omega⟩⟩
-- WheelLand$Reader.isDigit(I)Z
theorem x238 {sc : List Int} (h : Hp) (C : CI h) (a : Int) (q_a : -2147483648 ≤ a ∧ a ≤ 2147483647) (p1 : 0 ≤ a) : zwC sc 1 238 [(2, 9), (0, a)] h (zwRt 0 (fun x g => h = g ∧ ((x = 1 ∧ (0 ≤ 1)) ∨ (x = 0 ∧ (0 ≤ 1))))) := by
  refine zwC_of (D := 0) 2 (by decide +kernel) rfl (ls := [(2, 9), (0, a)]) rfl ?_
  refine zwW_p [(1, 1, 0), (1, 0, 2)] (q := 2) (ls' := [(2, 9), (0, a)]) (st' := [(2, 9), (0, a)]) (by decide +kernel) rfl ?_
  refine zwW_gs C.1 (kd := 7) (bn := 0) (n := 9) (t := 0) (lo := 0) (hi := 400) (nx := 5) (by decide +kernel) ?_
  intro v1 ev1 lv1 uv1
  refine zwic_ge (q := 34) (nx := 8) (by decide +kernel) (fun c2 => ?_) (fun c2 => ?_)
  · refine zwW_p [(0, 0, 0)] (q := 35) (ls' := [(2, 9), (0, a)]) (st' := [(0, 0)]) (by decide +kernel) rfl ?_
    refine zwW_ret (nx := 36) (a := 1) (b := 0) (by decide +kernel) rfl (Or.inr (Or.inl ⟨rfl, Or.inl rfl⟩)) ?_
    exact ⟨rfl, Or.inr ⟨rfl, by omega⟩⟩
  · refine zwW_p [(1, 0, 2)] (q := 9) (ls' := [(2, 9), (0, a)]) (st' := [(2, 9)]) (by decide +kernel) rfl ?_
    refine zwW_gc C.1 (kd := 7) (bn := 1) (n := 9) (c := 10) (nx := 12) (by decide +kernel) ?_
    refine zwW_p [(1, 1, 0)] (q := 13) (ls' := [(2, 9), (0, a)]) (st' := [(0, a), (2, 10)]) (by decide +kernel) rfl ?_
    refine zwW_al C.1 (a1 := 10) (a2 := 10) (kd := 20) (n := 400) (t := 0) (lo := -2147483648) (hi := 2147483647) (nx := 14) (by decide +kernel) (by first | decide | exact ⟨by decide, by decide⟩) (by first | omega | exact ⟨by omega, by omega⟩) ?_
    intro v3 ev3 lv3 uv3
    refine zwW_p [(0, 48, 0)] (q := 16) (ls' := [(2, 9), (0, a)]) (st' := [(0, 48), (0, v3)]) (by decide +kernel) rfl ?_
    refine zwic_lt (q := 34) (nx := 19) (by decide +kernel) (fun c4 => ?_) (fun c4 => ?_)
    · refine zwW_p [(0, 0, 0)] (q := 35) (ls' := [(2, 9), (0, a)]) (st' := [(0, 0)]) (by decide +kernel) rfl ?_
      refine zwW_ret (nx := 36) (a := 1) (b := 0) (by decide +kernel) rfl (Or.inr (Or.inl ⟨rfl, Or.inl rfl⟩)) ?_
      exact ⟨rfl, Or.inr ⟨rfl, by omega⟩⟩
    · refine zwW_p [(1, 0, 2)] (q := 20) (ls' := [(2, 9), (0, a)]) (st' := [(2, 9)]) (by decide +kernel) rfl ?_
      refine zwW_gc C.1 (kd := 7) (bn := 1) (n := 9) (c := 10) (nx := 23) (by decide +kernel) ?_
      refine zwW_p [(1, 1, 0)] (q := 24) (ls' := [(2, 9), (0, a)]) (st' := [(0, a), (2, 10)]) (by decide +kernel) rfl ?_
      refine zwW_al C.1 (a1 := 10) (a2 := 10) (kd := 20) (n := 400) (t := 0) (lo := -2147483648) (hi := 2147483647) (nx := 25) (by decide +kernel) (by first | decide | exact ⟨by decide, by decide⟩) (by first | omega | exact ⟨by omega, by omega⟩) ?_
      intro v5 ev5 lv5 uv5
      refine zwW_p [(0, 57, 0)] (q := 27) (ls' := [(2, 9), (0, a)]) (st' := [(0, 57), (0, v5)]) (by decide +kernel) rfl ?_
      refine zwic_gt (q := 34) (nx := 30) (by decide +kernel) (fun c6 => ?_) (fun c6 => ?_)
      · refine zwW_p [(0, 0, 0)] (q := 35) (ls' := [(2, 9), (0, a)]) (st' := [(0, 0)]) (by decide +kernel) rfl ?_
        refine zwW_ret (nx := 36) (a := 1) (b := 0) (by decide +kernel) rfl (Or.inr (Or.inl ⟨rfl, Or.inl rfl⟩)) ?_
        exact ⟨rfl, Or.inr ⟨rfl, by omega⟩⟩
      · refine zwW_p [(0, 1, 0), (24, 35, 0)] (q := 35) (ls' := [(2, 9), (0, a)]) (st' := [(0, 1)]) (by decide +kernel) rfl ?_
        refine zwW_ret (nx := 36) (a := 1) (b := 0) (by decide +kernel) rfl (Or.inr (Or.inl ⟨rfl, Or.inr rfl⟩)) ?_
        exact ⟨rfl, Or.inl ⟨rfl, by omega⟩⟩
-- WheelLand$Reader.isSpelled(III)Z
theorem x276 {sc : List Int} (h : Hp) (C : CI h) (a b c : Int) (q_a : -2147483648 ≤ a ∧ a ≤ 2147483647) (q_b : -2147483648 ≤ b ∧ b ≤ 2147483647) (q_c : -2147483648 ≤ c ∧ c ≤ 2147483647) (p1 : 0 ≤ a ∧ a ≤ 200) (p2 : 0 ≤ b ∧ b ≤ 400) : zwC sc 5 276 [(2, 9), (0, a), (0, b), (0, c)] h (zwRt 0 (fun x g => h = g ∧ ((x = 1 ∧ (0 ≤ 1)) ∨ (x = 0 ∧ (0 ≤ 1))))) := by
  refine zwC_of (D := 4) 5 (by decide +kernel) rfl (ls := [(2, 9), (0, a), (0, b), (0, c), (9, 0)]) rfl ?_
  refine zwW_p [(0, 0, 0), (2, 4, 0)] (q := 3) (ls' := [(2, 9), (0, a), (0, b), (0, c), (0, 0)]) (st' := []) (by decide +kernel) rfl ?_
  have L1 : ∀ (n : Nat) (v4L1 : Int), n = ((1000 - v4L1)).toNat → (0 ≤ v4L1 ∧ v4L1 ≤ 1000) → zwW sc (4) 276 3 [(2, 9), (0, a), (0, b), (0, c), (0, v4L1)] [] h (zwRt 0 (fun x g => h = g ∧ ((x = 1 ∧ (0 ≤ 1)) ∨ (x = 0 ∧ (0 ≤ 1))))) := by
    intro n
    induction n using Nat.strongRecOn with
    | ind n IHL1 =>
      intro v4L1 hnL1 iL1_0
      refine zwW_p [(1, 4, 0), (1, 3, 0)] (q := 6) (ls' := [(2, 9), (0, a), (0, b), (0, c), (0, v4L1)]) (st' := [(0, c), (0, v4L1)]) (by decide +kernel) rfl ?_
      refine zwic_ge (q := 61) (nx := 9) (by decide +kernel) (fun c2 => ?_) (fun c2 => ?_)
      · refine zwW_p [(0, 1, 0)] (q := 62) (ls' := [(2, 9), (0, a), (0, b), (0, c), (0, v4L1)]) (st' := [(0, 1)]) (by decide +kernel) rfl ?_
        refine zwW_ret (nx := 63) (a := 1) (b := 0) (by decide +kernel) rfl (Or.inr (Or.inl ⟨rfl, Or.inr rfl⟩)) ?_
        exact ⟨rfl, Or.inl ⟨rfl, by omega⟩⟩
      · refine zwW_p [(1, 1, 0), (1, 4, 0)] (q := 12) (ls' := [(2, 9), (0, a), (0, b), (0, c), (0, v4L1)]) (st' := [(0, v4L1), (0, a)]) (by decide +kernel) rfl ?_
        refine zwW_add (nx := 13) (by decide +kernel) (by first | omega | exact ⟨by omega, by omega⟩) ?_
        refine zwW_p [(0, -10, 2)] (q := 15) (ls' := [(2, 9), (0, a), (0, b), (0, c), (0, v4L1)]) (st' := [(2, -10), (0, (a + v4L1))]) (by decide +kernel) rfl ?_
        refine zwW_cst (op := 60) (k' := 265) (n := 0) (nx := 18) (w := -10) (tl := []) (st' := [(0, (a + v4L1))]) (by decide +kernel) rfl (by decide +kernel) (by first | omega | exact ⟨by omega, by omega⟩) rfl (m265 h (-10) (by omega)) ?_
        rintro v3 _ ⟨rfl, f4, f5, f6⟩
        refine zwic_ge (q := 53) (nx := 21) (by decide +kernel) (fun c7 => ?_) (fun c7 => ?_)
        · refine zwW_p [(0, 0, 0)] (q := 54) (ls' := [(2, 9), (0, a), (0, b), (0, c), (0, v4L1)]) (st' := [(0, 0)]) (by decide +kernel) rfl ?_
          refine zwW_ret (nx := 55) (a := 1) (b := 0) (by decide +kernel) rfl (Or.inr (Or.inl ⟨rfl, Or.inl rfl⟩)) ?_
          exact ⟨rfl, Or.inr ⟨rfl, by omega⟩⟩
        · refine zwW_p [(1, 2, 0), (1, 4, 0)] (q := 24) (ls' := [(2, 9), (0, a), (0, b), (0, c), (0, v4L1)]) (st' := [(0, v4L1), (0, b)]) (by decide +kernel) rfl ?_
          refine zwW_add (nx := 25) (by decide +kernel) (by first | omega | exact ⟨by omega, by omega⟩) ?_
          refine zwW_p [(1, 0, 2)] (q := 26) (ls' := [(2, 9), (0, a), (0, b), (0, c), (0, v4L1)]) (st' := [(2, 9), (0, (b + v4L1))]) (by decide +kernel) rfl ?_
          refine zwW_gs C.1 (kd := 7) (bn := 0) (n := 9) (t := 0) (lo := 0) (hi := 400) (nx := 29) (by decide +kernel) ?_
          intro v8 ev8 lv8 uv8
          refine zwic_ge (q := 53) (nx := 32) (by decide +kernel) (fun c9 => ?_) (fun c9 => ?_)
          · refine zwW_p [(0, 0, 0)] (q := 54) (ls' := [(2, 9), (0, a), (0, b), (0, c), (0, v4L1)]) (st' := [(0, 0)]) (by decide +kernel) rfl ?_
            refine zwW_ret (nx := 55) (a := 1) (b := 0) (by decide +kernel) rfl (Or.inr (Or.inl ⟨rfl, Or.inl rfl⟩)) ?_
            exact ⟨rfl, Or.inr ⟨rfl, by omega⟩⟩
          · refine zwW_p [(0, -10, 2), (1, 1, 0), (1, 4, 0)] (q := 37) (ls' := [(2, 9), (0, a), (0, b), (0, c), (0, v4L1)]) (st' := [(0, v4L1), (0, a), (2, -10)]) (by decide +kernel) rfl ?_
            refine zwW_add (nx := 38) (by decide +kernel) (by first | omega | exact ⟨by omega, by omega⟩) ?_
            refine zwW_cst (op := 60) (k' := 266) (n := 1) (nx := 41) (w := -10) (tl := [(0, (a + v4L1))]) (st' := []) (by decide +kernel) rfl (by decide +kernel) (by first | omega | exact ⟨by omega, by omega⟩) rfl (m266 h (-10) (a + v4L1) (by omega) (by omega) (by omega) (by omega)) ?_
            rintro v10 _ ⟨rfl, f11, f12, f13⟩
            refine zwW_p [(1, 0, 2)] (q := 42) (ls' := [(2, 9), (0, a), (0, b), (0, c), (0, v4L1)]) (st' := [(2, 9), (0, v10)]) (by decide +kernel) rfl ?_
            refine zwW_gc C.1 (kd := 7) (bn := 1) (n := 9) (c := 10) (nx := 45) (by decide +kernel) ?_
            refine zwW_p [(1, 2, 0), (1, 4, 0)] (q := 48) (ls' := [(2, 9), (0, a), (0, b), (0, c), (0, v4L1)]) (st' := [(0, v4L1), (0, b), (2, 10), (0, v10)]) (by decide +kernel) rfl ?_
            refine zwW_add (nx := 49) (by decide +kernel) (by first | omega | exact ⟨by omega, by omega⟩) ?_
            refine zwW_al C.1 (a1 := 10) (a2 := 10) (kd := 20) (n := 400) (t := 0) (lo := -2147483648) (hi := 2147483647) (nx := 50) (by decide +kernel) (by first | decide | exact ⟨by decide, by decide⟩) (by first | omega | exact ⟨by omega, by omega⟩) ?_
            intro v14 ev14 lv14 uv14
            refine zwic_eq (q := 55) (nx := 53) (by decide +kernel) (fun c15 => ?_) (fun c15 => ?_)
            · refine zwW_inc (i := 4) (c := 1) (x := v4L1) (nx := 58) (by decide +kernel) rfl (by first | omega | exact ⟨by omega, by omega⟩) (ls' := [(2, 9), (0, a), (0, b), (0, c), (0, (v4L1 + 1))]) rfl ?_
              refine zwW_p [(24, 3, 0)] (q := 3) (ls' := [(2, 9), (0, a), (0, b), (0, c), (0, (v4L1 + 1))]) (st' := []) (by decide +kernel) rfl ?_
              exact IHL1 ((1000 - (v4L1 + 1))).toNat (by omega) (v4L1 + 1) rfl (by omega)
            · refine zwW_p [(0, 0, 0)] (q := 54) (ls' := [(2, 9), (0, a), (0, b), (0, c), (0, v4L1)]) (st' := [(0, 0)]) (by decide +kernel) rfl ?_
              refine zwW_ret (nx := 55) (a := 1) (b := 0) (by decide +kernel) rfl (Or.inr (Or.inl ⟨rfl, Or.inl rfl⟩)) ?_
              exact ⟨rfl, Or.inr ⟨rfl, by omega⟩⟩
  exact L1 _ 0 rfl (by omega)
-- WheelLand$Reader.wordAt(II)I
theorem x260 {sc : List Int} (h : Hp) (C : CI h) (a b : Int) (q_a : -2147483648 ≤ a ∧ a ≤ 2147483647) (q_b : -2147483648 ≤ b ∧ b ≤ 2147483647) (p2 : 0 ≤ a ∧ a ≤ 400) : zwC sc 6 260 [(2, 9), (0, a), (0, b)] h (zwRt 0 (fun x g => h = g ∧ (-2147483648 ≤ x ∧ x ≤ 2147483647))) := by
  refine zwC_of (D := 5) 6 (by decide +kernel) rfl (ls := [(2, 9), (0, a), (0, b), (9, 0), (9, 0), (9, 0)]) rfl ?_
  refine zwW_p [(0, 0, 0), (2, 3, 0), (0, 0, 0), (2, 4, 0), (0, 0, 0), (2, 5, 0)] (q := 8) (ls' := [(2, 9), (0, a), (0, b), (0, 0), (0, 0), (0, 0)]) (st' := []) (by decide +kernel) rfl ?_
  have L1 : ∀ (n : Nat) (wL1 sL1 kL1 : Int), n = ((1000 - kL1)).toNat → (wL1 ≤ kL1 ∧ sL1 ≤ kL1 + 1) → (0 ≤ wL1 ∧ wL1 ≤ 1000) → (0 ≤ sL1 ∧ sL1 ≤ 200) → (0 ≤ kL1 ∧ kL1 ≤ 200) → zwW sc (5) 260 8 [(2, 9), (0, a), (0, b), (0, wL1), (0, sL1), (0, kL1)] [] h (zwRt 0 (fun x g => h = g ∧ (-2147483648 ≤ x ∧ x ≤ 2147483647))) := by
    intro n
    induction n using Nat.strongRecOn with
    | ind n IHL1 =>
      intro wL1 sL1 kL1 hnL1 iL1_0 iL1_1 iL1_2 iL1_3
      refine zwW_p [(1, 5, 0), (0, -10, 2)] (q := 12) (ls' := [(2, 9), (0, a), (0, b), (0, wL1), (0, sL1), (0, kL1)]) (st' := [(2, -10), (0, kL1)]) (by decide +kernel) rfl ?_
      refine zwW_cst (op := 60) (k' := 265) (n := 0) (nx := 15) (w := -10) (tl := []) (st' := [(0, kL1)]) (by decide +kernel) rfl (by decide +kernel) (by first | omega | exact ⟨by omega, by omega⟩) rfl (m265 h (-10) (by omega)) ?_
      rintro v2 _ ⟨rfl, f3, f4, f5⟩
      refine zwic_ge (q := 67) (nx := 18) (by decide +kernel) (fun c6 => ?_) (fun c6 => ?_)
      · refine zwW_p [(0, -1, 0)] (q := 68) (ls' := [(2, 9), (0, a), (0, b), (0, wL1), (0, sL1), (0, kL1)]) (st' := [(0, -1)]) (by decide +kernel) rfl ?_
        refine zwW_ret (nx := 69) (a := 0) (b := 0) (by decide +kernel) rfl (Or.inl rfl) ?_
        exact ⟨rfl, by omega⟩
      · refine zwW_p [(0, -10, 2), (1, 5, 0)] (q := 22) (ls' := [(2, 9), (0, a), (0, b), (0, wL1), (0, sL1), (0, kL1)]) (st' := [(0, kL1), (2, -10)]) (by decide +kernel) rfl ?_
        refine zwW_cst (op := 60) (k' := 266) (n := 1) (nx := 25) (w := -10) (tl := [(0, kL1)]) (st' := []) (by decide +kernel) rfl (by decide +kernel) (by first | omega | exact ⟨by omega, by omega⟩) rfl (m266 h (-10) kL1 (by omega) (by omega) (by omega) (by omega)) ?_
        rintro v7 _ ⟨rfl, f8, f9, f10⟩
        refine zwW_p [(0, 32, 0)] (q := 27) (ls' := [(2, 9), (0, a), (0, b), (0, wL1), (0, sL1), (0, kL1)]) (st' := [(0, 32), (0, v7)]) (by decide +kernel) rfl ?_
        refine zwic_ne (q := 61) (nx := 30) (by decide +kernel) (fun c11 => ?_) (fun c11 => ?_)
        · refine zwW_inc (i := 5) (c := 1) (x := kL1) (nx := 64) (by decide +kernel) rfl (by first | omega | exact ⟨by omega, by omega⟩) (ls' := [(2, 9), (0, a), (0, b), (0, wL1), (0, sL1), (0, (kL1 + 1))]) rfl ?_
          refine zwW_p [(24, 8, 0)] (q := 8) (ls' := [(2, 9), (0, a), (0, b), (0, wL1), (0, sL1), (0, (kL1 + 1))]) (st' := []) (by decide +kernel) rfl ?_
          exact IHL1 ((1000 - (kL1 + 1))).toNat (by omega) wL1 sL1 (kL1 + 1) rfl (by omega) (by omega) (by omega) (by omega)
        · refine zwW_p [(1, 5, 0), (1, 4, 0)] (q := 34) (ls' := [(2, 9), (0, a), (0, b), (0, wL1), (0, sL1), (0, kL1)]) (st' := [(0, sL1), (0, kL1)]) (by decide +kernel) rfl ?_
          refine zwW_sub (nx := 35) (by decide +kernel) (by first | omega | exact ⟨by omega, by omega⟩) ?_
          refine zwW_p [(1, 2, 0)] (q := 36) (ls' := [(2, 9), (0, a), (0, b), (0, wL1), (0, sL1), (0, kL1)]) (st' := [(0, b), (0, (kL1 - sL1))]) (by decide +kernel) rfl ?_
          refine zwic_ne (q := 52) (nx := 39) (by decide +kernel) (fun c12 => ?_) (fun c12 => ?_)
          · refine zwW_inc (i := 3) (c := 1) (x := wL1) (nx := 55) (by decide +kernel) rfl (by first | omega | exact ⟨by omega, by omega⟩) (ls' := [(2, 9), (0, a), (0, b), (0, (wL1 + 1)), (0, sL1), (0, kL1)]) rfl ?_
            refine zwW_p [(1, 5, 0), (0, 1, 0)] (q := 58) (ls' := [(2, 9), (0, a), (0, b), (0, (wL1 + 1)), (0, sL1), (0, kL1)]) (st' := [(0, 1), (0, kL1)]) (by decide +kernel) rfl ?_
            refine zwW_add (nx := 59) (by decide +kernel) (by first | omega | exact ⟨by omega, by omega⟩) ?_
            refine zwW_p [(2, 4, 0)] (q := 61) (ls' := [(2, 9), (0, a), (0, b), (0, (wL1 + 1)), (0, (kL1 + 1)), (0, kL1)]) (st' := []) (by decide +kernel) rfl ?_
            refine zwW_inc (i := 5) (c := 1) (x := kL1) (nx := 64) (by decide +kernel) rfl (by first | omega | exact ⟨by omega, by omega⟩) (ls' := [(2, 9), (0, a), (0, b), (0, (wL1 + 1)), (0, (kL1 + 1)), (0, (kL1 + 1))]) rfl ?_
            refine zwW_p [(24, 8, 0)] (q := 8) (ls' := [(2, 9), (0, a), (0, b), (0, (wL1 + 1)), (0, (kL1 + 1)), (0, (kL1 + 1))]) (st' := []) (by decide +kernel) rfl ?_
            exact IHL1 ((1000 - (kL1 + 1))).toNat (by omega) (wL1 + 1) (kL1 + 1) (kL1 + 1) rfl (by omega) (by omega) (by omega) (by omega)
          · refine zwW_p [(1, 0, 2), (1, 4, 0), (1, 1, 0), (1, 2, 0)] (q := 44) (ls' := [(2, 9), (0, a), (0, b), (0, wL1), (0, sL1), (0, kL1)]) (st' := [(0, b), (0, a), (0, sL1), (2, 9)]) (by decide +kernel) rfl ?_
            refine zwW_cm C.1 (op := 60) (k' := 276) (n := 3) (kd := 7) (m := 9) (nx := 47) (r := 9) (tl := [(0, sL1), (0, a), (0, b)]) (st' := []) (by decide +kernel) rfl (by decide +kernel) rfl (x276 h C sL1 a b (by omega) (by omega) (by omega) (by omega) (by omega)) ?_
            rintro x _ ⟨rfl, ⟨rfl, c13⟩ | ⟨rfl, c13⟩⟩
            · refine zwif_eq (q := 52) (nx := 50) (by decide +kernel) (fun c14 => ?_) (fun c14 => ?_)
              · exfalso; omega
              · refine zwW_p [(1, 3, 0)] (q := 51) (ls' := [(2, 9), (0, a), (0, b), (0, wL1), (0, sL1), (0, kL1)]) (st' := [(0, wL1)]) (by decide +kernel) rfl ?_
                refine zwW_ret (nx := 52) (a := 0) (b := 0) (by decide +kernel) rfl (Or.inl rfl) ?_
                exact ⟨rfl, by omega⟩
            · refine zwif_eq (q := 52) (nx := 50) (by decide +kernel) (fun c15 => ?_) (fun c15 => ?_)
              · refine zwW_inc (i := 3) (c := 1) (x := wL1) (nx := 55) (by decide +kernel) rfl (by first | omega | exact ⟨by omega, by omega⟩) (ls' := [(2, 9), (0, a), (0, b), (0, (wL1 + 1)), (0, sL1), (0, kL1)]) rfl ?_
                refine zwW_p [(1, 5, 0), (0, 1, 0)] (q := 58) (ls' := [(2, 9), (0, a), (0, b), (0, (wL1 + 1)), (0, sL1), (0, kL1)]) (st' := [(0, 1), (0, kL1)]) (by decide +kernel) rfl ?_
                refine zwW_add (nx := 59) (by decide +kernel) (by first | omega | exact ⟨by omega, by omega⟩) ?_
                refine zwW_p [(2, 4, 0)] (q := 61) (ls' := [(2, 9), (0, a), (0, b), (0, (wL1 + 1)), (0, (kL1 + 1)), (0, kL1)]) (st' := []) (by decide +kernel) rfl ?_
                refine zwW_inc (i := 5) (c := 1) (x := kL1) (nx := 64) (by decide +kernel) rfl (by first | omega | exact ⟨by omega, by omega⟩) (ls' := [(2, 9), (0, a), (0, b), (0, (wL1 + 1)), (0, (kL1 + 1)), (0, (kL1 + 1))]) rfl ?_
                refine zwW_p [(24, 8, 0)] (q := 8) (ls' := [(2, 9), (0, a), (0, b), (0, (wL1 + 1)), (0, (kL1 + 1)), (0, (kL1 + 1))]) (st' := []) (by decide +kernel) rfl ?_
                exact IHL1 ((1000 - (kL1 + 1))).toNat (by omega) (wL1 + 1) (kL1 + 1) (kL1 + 1) rfl (by omega) (by omega) (by omega) (by omega)
              · exfalso; omega
  exact L1 _ 0 0 0 rfl (by omega) (by omega) (by omega) (by omega)
def msx237 : Zms := [(9, 9, 2, 3), (9, 9, 4, 5), (9, 9, 5, 6)]
-- WheelLand$Reader.takeWord()V
theorem x237 {sc : List Int} (h : Hp) (C : CI h) : zwC sc 7 237 [(2, 9)] h (zwRv (fun g => CI g ∧ zXR msx237 (0) (0) h g)) := by
  refine zwC_of (D := 6) 1 (by decide +kernel) rfl (ls := [(2, 9)]) rfl ?_
  have X : zXR msx237 0 0 h h := zXR.rf _ _
  have L1 : ∀ (n : Nat) (hL1 : Hp), n = ((400 - fld hL1 9 2)).toNat → CI hL1 → zXR msx237 (0) (0) h hL1 → zwW sc (6) 237 0 [(2, 9)] [] hL1 (zwRv (fun g => CI g ∧ zXR msx237 (0) (0) h g)) := by
    intro n
    induction n using Nat.strongRecOn with
    | ind n IHL1 =>
      intro hL1 hnL1 ChL1 XhL1
      refine zwW_p [(1, 0, 2)] (q := 1) (ls' := [(2, 9)]) (st' := [(2, 9)]) (by decide +kernel) rfl ?_
      refine zwW_gs ChL1.1 (kd := 7) (bn := 2) (n := 9) (t := 0) (lo := 0) (hi := 400) (nx := 4) (by decide +kernel) ?_
      intro v2 ev2 lv2 uv2
      refine zwW_p [(1, 0, 2)] (q := 5) (ls' := [(2, 9)]) (st' := [(2, 9), (0, v2)]) (by decide +kernel) rfl ?_
      refine zwW_gs ChL1.1 (kd := 7) (bn := 0) (n := 9) (t := 0) (lo := 0) (hi := 400) (nx := 8) (by decide +kernel) ?_
      intro v3 ev3 lv3 uv3
      refine zwic_ge (q := 35) (nx := 11) (by decide +kernel) (fun c4 => ?_) (fun c4 => ?_)
      · refine zwW_p [(1, 0, 2), (0, 1, 0)] (q := 37) (ls' := [(2, 9)]) (st' := [(0, 1), (2, 9)]) (by decide +kernel) rfl ?_
        refine zwW_ps ChL1.1 (kd := 7) (bn := 4) (n := 9) (lo := -2147483648) (hi := 2147483647) (nx := 40) (by decide +kernel) (by first | decide | exact ⟨by decide, by decide⟩) ?_
        intro h5 eh5 Ih5
        have Ch5 : CI h5 := ChL1.wc eh5 Ih5 (by decide) (by decide)
        have Qh5 : zXR [(9, 9, 4, 5)] 0 0 hL1 h5 := zXR.wc eh5 rfl ⟨by decide, by decide, Or.inl (by decide)⟩ (by first | decide | exact ⟨by decide, by decide⟩)
        have Xh5 : zXR msx237 (0) (0) h h5 := XhL1.tr (c2 := 0) (s2 := 0) Qh5 (by decide +kernel) (by decide) (by decide)
        have th5_9_2 : fld h5 9 2 = fld hL1 9 2 := Qh5.f (a1 := 9) (a2 := 9) (j1 := 2) (j2 := 3) (by decide +kernel) (by first | decide | exact ⟨by decide, by decide⟩) (by first | decide | exact ⟨by decide, by decide⟩) (by first | decide | exact ⟨by decide, by decide⟩)
        refine zwW_p [(1, 0, 2), (1, 0, 2), (1, 0, 2)] (q := 43) (ls' := [(2, 9)]) (st' := [(2, 9), (2, 9), (2, 9)]) (by decide +kernel) rfl ?_
        refine zwW_gs Ch5.1 (kd := 7) (bn := 3) (n := 9) (t := 0) (lo := 0) (hi := 400) (nx := 46) (by decide +kernel) ?_
        intro v6 ev6 lv6 uv6
        refine zwW_p [(1, 0, 2)] (q := 47) (ls' := [(2, 9)]) (st' := [(2, 9), (0, v6), (2, 9), (2, 9)]) (by decide +kernel) rfl ?_
        refine zwW_gs Ch5.1 (kd := 7) (bn := 2) (n := 9) (t := 0) (lo := 0) (hi := 400) (nx := 50) (by decide +kernel) ?_
        intro v7 ev7 lv7 uv7
        refine zwW_p [(1, 0, 2)] (q := 51) (ls' := [(2, 9)]) (st' := [(2, 9), (0, v7), (0, v6), (2, 9), (2, 9)]) (by decide +kernel) rfl ?_
        refine zwW_gs Ch5.1 (kd := 7) (bn := 3) (n := 9) (t := 0) (lo := 0) (hi := 400) (nx := 54) (by decide +kernel) ?_
        intro v8 ev8 lv8 uv8
        refine zwW_sub (nx := 55) (by decide +kernel) (by first | omega | exact ⟨by omega, by omega⟩) ?_
        refine zwW_cm Ch5.1 (op := 60) (k' := 260) (n := 2) (kd := 7) (m := 9) (nx := 58) (r := 9) (tl := [(0, v6), (0, (v7 - v8))]) (st' := [(2, 9)]) (by decide +kernel) rfl (by decide +kernel) rfl (x260 h5 Ch5 v6 (v7 - v8) (by omega) (by omega) (by omega)) ?_
        rintro v9 _ ⟨rfl, f10⟩
        refine zwW_ps Ch5.1 (kd := 7) (bn := 5) (n := 9) (lo := -2147483648) (hi := 2147483647) (nx := 61) (by decide +kernel) (by first | omega | exact ⟨by omega, by omega⟩) ?_
        intro h11 eh11 Ih11
        have Ch11 : CI h11 := Ch5.wc eh11 Ih11 (by decide) (by decide)
        have Qh11 : zXR [(9, 9, 5, 6)] 0 0 h5 h11 := zXR.wc eh11 rfl ⟨by decide, by decide, Or.inl (by decide)⟩ (by first | decide | exact ⟨by decide, by decide⟩)
        have Xh11 : zXR msx237 (0) (0) h h11 := Xh5.tr (c2 := 0) (s2 := 0) Qh11 (by decide +kernel) (by decide) (by decide)
        have th11_9_2 : fld h11 9 2 = fld h5 9 2 := Qh11.f (a1 := 9) (a2 := 9) (j1 := 2) (j2 := 3) (by decide +kernel) (by first | decide | exact ⟨by decide, by decide⟩) (by first | decide | exact ⟨by decide, by decide⟩) (by first | decide | exact ⟨by decide, by decide⟩)
        refine zwW_retv (nx := 62) (a := 0) (b := 0) (by decide +kernel) ?_
        exact ⟨Ch11, Xh11.le (by decide) (by decide)⟩
      · refine zwW_p [(1, 0, 2), (1, 0, 2)] (q := 13) (ls' := [(2, 9)]) (st' := [(2, 9), (2, 9)]) (by decide +kernel) rfl ?_
        refine zwW_gs ChL1.1 (kd := 7) (bn := 2) (n := 9) (t := 0) (lo := 0) (hi := 400) (nx := 16) (by decide +kernel) ?_
        intro v12 ev12 lv12 uv12
        refine zwW_cm ChL1.1 (op := 60) (k' := 236) (n := 1) (kd := 7) (m := 9) (nx := 19) (r := 9) (tl := [(0, v12)]) (st' := []) (by decide +kernel) rfl (by decide +kernel) rfl (x236 hL1 ChL1 v12 (by omega) (by omega)) ?_
        rintro x _ ⟨rfl, ⟨rfl, c13⟩ | ⟨rfl, c13⟩⟩
        · refine zwif_eq (q := 35) (nx := 22) (by decide +kernel) (fun c14 => ?_) (fun c14 => ?_)
          · exfalso; omega
          · refine zwW_p [(1, 0, 2), (12, 0, 0)] (q := 24) (ls' := [(2, 9)]) (st' := [(2, 9), (2, 9)]) (by decide +kernel) rfl ?_
            refine zwW_gs ChL1.1 (kd := 7) (bn := 2) (n := 9) (t := 0) (lo := 0) (hi := 400) (nx := 27) (by decide +kernel) ?_
            intro v15 ev15 lv15 uv15
            refine zwW_p [(0, 1, 0)] (q := 28) (ls' := [(2, 9)]) (st' := [(0, 1), (0, v15), (2, 9)]) (by decide +kernel) rfl ?_
            refine zwW_add (nx := 29) (by decide +kernel) (by first | omega | exact ⟨by omega, by omega⟩) ?_
            refine zwW_ps ChL1.1 (kd := 7) (bn := 2) (n := 9) (lo := 0) (hi := 400) (nx := 32) (by decide +kernel) (by first | omega | exact ⟨by omega, by omega⟩) ?_
            intro h16 eh16 Ih16
            have Ch16 : CI h16 := ChL1.wc eh16 Ih16 (by decide) (by decide)
            have Qh16 : zXR [(9, 9, 2, 3)] 0 0 hL1 h16 := zXR.wc eh16 rfl ⟨by decide, by decide, Or.inl (by decide)⟩ (by first | decide | exact ⟨by decide, by decide⟩)
            have Xh16 : zXR msx237 (0) (0) h h16 := XhL1.tr (c2 := 0) (s2 := 0) Qh16 (by decide +kernel) (by decide) (by decide)
            have th16_9_2 : fld h16 9 2 = (v15 + 1) := by rw [eh16]; exact fld_wr_eq (ChL1.1.s (a1 := 9) (a2 := 9) (k := 7) (n := 9) (by decide +kernel) (by decide) (by decide)) (by decide)
            refine zwW_p [(24, 0, 0)] (q := 0) (ls' := [(2, 9)]) (st' := []) (by decide +kernel) rfl ?_
            exact IHL1 ((400 - fld h16 9 2)).toNat (by omega) h16 rfl Ch16 (Xh16.le (by decide) (by decide))
        · refine zwif_eq (q := 35) (nx := 22) (by decide +kernel) (fun c17 => ?_) (fun c17 => ?_)
          · refine zwW_p [(1, 0, 2), (0, 1, 0)] (q := 37) (ls' := [(2, 9)]) (st' := [(0, 1), (2, 9)]) (by decide +kernel) rfl ?_
            refine zwW_ps ChL1.1 (kd := 7) (bn := 4) (n := 9) (lo := -2147483648) (hi := 2147483647) (nx := 40) (by decide +kernel) (by first | decide | exact ⟨by decide, by decide⟩) ?_
            intro h18 eh18 Ih18
            have Ch18 : CI h18 := ChL1.wc eh18 Ih18 (by decide) (by decide)
            have Qh18 : zXR [(9, 9, 4, 5)] 0 0 hL1 h18 := zXR.wc eh18 rfl ⟨by decide, by decide, Or.inl (by decide)⟩ (by first | decide | exact ⟨by decide, by decide⟩)
            have Xh18 : zXR msx237 (0) (0) h h18 := XhL1.tr (c2 := 0) (s2 := 0) Qh18 (by decide +kernel) (by decide) (by decide)
            have th18_9_2 : fld h18 9 2 = fld hL1 9 2 := Qh18.f (a1 := 9) (a2 := 9) (j1 := 2) (j2 := 3) (by decide +kernel) (by first | decide | exact ⟨by decide, by decide⟩) (by first | decide | exact ⟨by decide, by decide⟩) (by first | decide | exact ⟨by decide, by decide⟩)
            refine zwW_p [(1, 0, 2), (1, 0, 2), (1, 0, 2)] (q := 43) (ls' := [(2, 9)]) (st' := [(2, 9), (2, 9), (2, 9)]) (by decide +kernel) rfl ?_
            refine zwW_gs Ch18.1 (kd := 7) (bn := 3) (n := 9) (t := 0) (lo := 0) (hi := 400) (nx := 46) (by decide +kernel) ?_
            intro v19 ev19 lv19 uv19
            refine zwW_p [(1, 0, 2)] (q := 47) (ls' := [(2, 9)]) (st' := [(2, 9), (0, v19), (2, 9), (2, 9)]) (by decide +kernel) rfl ?_
            refine zwW_gs Ch18.1 (kd := 7) (bn := 2) (n := 9) (t := 0) (lo := 0) (hi := 400) (nx := 50) (by decide +kernel) ?_
            intro v20 ev20 lv20 uv20
            refine zwW_p [(1, 0, 2)] (q := 51) (ls' := [(2, 9)]) (st' := [(2, 9), (0, v20), (0, v19), (2, 9), (2, 9)]) (by decide +kernel) rfl ?_
            refine zwW_gs Ch18.1 (kd := 7) (bn := 3) (n := 9) (t := 0) (lo := 0) (hi := 400) (nx := 54) (by decide +kernel) ?_
            intro v21 ev21 lv21 uv21
            refine zwW_sub (nx := 55) (by decide +kernel) (by first | omega | exact ⟨by omega, by omega⟩) ?_
            refine zwW_cm Ch18.1 (op := 60) (k' := 260) (n := 2) (kd := 7) (m := 9) (nx := 58) (r := 9) (tl := [(0, v19), (0, (v20 - v21))]) (st' := [(2, 9)]) (by decide +kernel) rfl (by decide +kernel) rfl (x260 h18 Ch18 v19 (v20 - v21) (by omega) (by omega) (by omega)) ?_
            rintro v22 _ ⟨rfl, f23⟩
            refine zwW_ps Ch18.1 (kd := 7) (bn := 5) (n := 9) (lo := -2147483648) (hi := 2147483647) (nx := 61) (by decide +kernel) (by first | omega | exact ⟨by omega, by omega⟩) ?_
            intro h24 eh24 Ih24
            have Ch24 : CI h24 := Ch18.wc eh24 Ih24 (by decide) (by decide)
            have Qh24 : zXR [(9, 9, 5, 6)] 0 0 h18 h24 := zXR.wc eh24 rfl ⟨by decide, by decide, Or.inl (by decide)⟩ (by first | decide | exact ⟨by decide, by decide⟩)
            have Xh24 : zXR msx237 (0) (0) h h24 := Xh18.tr (c2 := 0) (s2 := 0) Qh24 (by decide +kernel) (by decide) (by decide)
            have th24_9_2 : fld h24 9 2 = fld h18 9 2 := Qh24.f (a1 := 9) (a2 := 9) (j1 := 2) (j2 := 3) (by decide +kernel) (by first | decide | exact ⟨by decide, by decide⟩) (by first | decide | exact ⟨by decide, by decide⟩) (by first | decide | exact ⟨by decide, by decide⟩)
            refine zwW_retv (nx := 62) (a := 0) (b := 0) (by decide +kernel) ?_
            exact ⟨Ch24, Xh24.le (by decide) (by decide)⟩
          · exfalso; omega
  exact L1 _ h rfl C (X.le (by decide) (by decide))
def msx239 : Zms := [(9, 9, 2, 3), (9, 9, 4, 5), (9, 9, 5, 6)]
-- WheelLand$Reader.takeNumber()V
theorem x239 {sc : List Int} (h : Hp) (C : CI h) : zwC sc 2 239 [(2, 9)] h (zwRv (fun g => CI g ∧ zXR msx239 (0) (0) h g)) := by
  refine zwC_of (D := 1) 1 (by decide +kernel) rfl (ls := [(2, 9)]) rfl ?_
  have X : zXR msx239 0 0 h h := zXR.rf _ _
  refine zwW_p [(1, 0, 2), (0, 2, 0)] (q := 2) (ls' := [(2, 9)]) (st' := [(0, 2), (2, 9)]) (by decide +kernel) rfl ?_
  refine zwW_ps C.1 (kd := 7) (bn := 4) (n := 9) (lo := -2147483648) (hi := 2147483647) (nx := 5) (by decide +kernel) (by first | decide | exact ⟨by decide, by decide⟩) ?_
  intro h1 eh1 Ih1
  have Ch1 : CI h1 := C.wc eh1 Ih1 (by decide) (by decide)
  have Qh1 : zXR [(9, 9, 4, 5)] 0 0 h h1 := zXR.wc eh1 rfl ⟨by decide, by decide, Or.inl (by decide)⟩ (by first | decide | exact ⟨by decide, by decide⟩)
  have Xh1 : zXR msx239 (0) (0) h h1 := X.tr (c2 := 0) (s2 := 0) Qh1 (by decide +kernel) (by decide) (by decide)
  have th1_9_2 : fld h1 9 2 = fld h 9 2 := Qh1.f (a1 := 9) (a2 := 9) (j1 := 2) (j2 := 3) (by decide +kernel) (by first | decide | exact ⟨by decide, by decide⟩) (by first | decide | exact ⟨by decide, by decide⟩) (by first | decide | exact ⟨by decide, by decide⟩)
  refine zwW_p [(1, 0, 2), (0, 0, 0)] (q := 7) (ls' := [(2, 9)]) (st' := [(0, 0), (2, 9)]) (by decide +kernel) rfl ?_
  refine zwW_ps Ch1.1 (kd := 7) (bn := 5) (n := 9) (lo := -2147483648) (hi := 2147483647) (nx := 10) (by decide +kernel) (by first | decide | exact ⟨by decide, by decide⟩) ?_
  intro h2 eh2 Ih2
  have Ch2 : CI h2 := Ch1.wc eh2 Ih2 (by decide) (by decide)
  have Qh2 : zXR [(9, 9, 5, 6)] 0 0 h1 h2 := zXR.wc eh2 rfl ⟨by decide, by decide, Or.inl (by decide)⟩ (by first | decide | exact ⟨by decide, by decide⟩)
  have Xh2 : zXR msx239 (0) (0) h h2 := Xh1.tr (c2 := 0) (s2 := 0) Qh2 (by decide +kernel) (by decide) (by decide)
  have th2_9_2 : fld h2 9 2 = fld h1 9 2 := Qh2.f (a1 := 9) (a2 := 9) (j1 := 2) (j2 := 3) (by decide +kernel) (by first | decide | exact ⟨by decide, by decide⟩) (by first | decide | exact ⟨by decide, by decide⟩) (by first | decide | exact ⟨by decide, by decide⟩)
  have L3 : ∀ (n : Nat) (hL3 : Hp), n = ((400 - fld hL3 9 2)).toNat → CI hL3 → zXR msx239 (0) (0) h hL3 → zwW sc (1) 239 10 [(2, 9)] [] hL3 (zwRv (fun g => CI g ∧ zXR msx239 (0) (0) h g)) := by
    intro n
    induction n using Nat.strongRecOn with
    | ind n IHL3 =>
      intro hL3 hnL3 ChL3 XhL3
      refine zwW_p [(1, 0, 2)] (q := 11) (ls' := [(2, 9)]) (st' := [(2, 9)]) (by decide +kernel) rfl ?_
      refine zwW_gs ChL3.1 (kd := 7) (bn := 2) (n := 9) (t := 0) (lo := 0) (hi := 400) (nx := 14) (by decide +kernel) ?_
      intro v4 ev4 lv4 uv4
      refine zwW_p [(1, 0, 2)] (q := 15) (ls' := [(2, 9)]) (st' := [(2, 9), (0, v4)]) (by decide +kernel) rfl ?_
      refine zwW_gs ChL3.1 (kd := 7) (bn := 0) (n := 9) (t := 0) (lo := 0) (hi := 400) (nx := 18) (by decide +kernel) ?_
      intro v5 ev5 lv5 uv5
      refine zwic_ge (q := 75) (nx := 21) (by decide +kernel) (fun c6 => ?_) (fun c6 => ?_)
      · refine zwW_retv (nx := 76) (a := 0) (b := 0) (by decide +kernel) ?_
        exact ⟨ChL3, XhL3.le (by decide) (by decide)⟩
      · refine zwW_p [(1, 0, 2), (1, 0, 2)] (q := 23) (ls' := [(2, 9)]) (st' := [(2, 9), (2, 9)]) (by decide +kernel) rfl ?_
        refine zwW_gs ChL3.1 (kd := 7) (bn := 2) (n := 9) (t := 0) (lo := 0) (hi := 400) (nx := 26) (by decide +kernel) ?_
        intro v7 ev7 lv7 uv7
        refine zwW_cm ChL3.1 (op := 60) (k' := 238) (n := 1) (kd := 7) (m := 9) (nx := 29) (r := 9) (tl := [(0, v7)]) (st' := []) (by decide +kernel) rfl (by decide +kernel) rfl (x238 hL3 ChL3 v7 (by omega) (by omega)) ?_
        rintro x _ ⟨rfl, ⟨rfl, c8⟩ | ⟨rfl, c8⟩⟩
        · refine zwif_eq (q := 75) (nx := 32) (by decide +kernel) (fun c9 => ?_) (fun c9 => ?_)
          · exfalso; omega
          · refine zwW_p [(1, 0, 2), (1, 0, 2)] (q := 34) (ls' := [(2, 9)]) (st' := [(2, 9), (2, 9)]) (by decide +kernel) rfl ?_
            refine zwW_gs ChL3.1 (kd := 7) (bn := 5) (n := 9) (t := 0) (lo := -2147483648) (hi := 2147483647) (nx := 37) (by decide +kernel) ?_
            intro v10 ev10 lv10 uv10
            refine zwW_p [(0, 10, 0)] (q := 39) (ls' := [(2, 9)]) (st' := [(0, 10), (0, v10), (2, 9)]) (by decide +kernel) rfl ?_
            refine zwW_mlw (nx := 40) (by decide +kernel) ?_
            intro v11 ev11 lv11 uv11
            refine zwW_p [(1, 0, 2)] (q := 41) (ls' := [(2, 9)]) (st' := [(2, 9), (0, v11), (2, 9)]) (by decide +kernel) rfl ?_
            refine zwW_gc ChL3.1 (kd := 7) (bn := 1) (n := 9) (c := 10) (nx := 44) (by decide +kernel) ?_
            refine zwW_p [(1, 0, 2)] (q := 45) (ls' := [(2, 9)]) (st' := [(2, 9), (2, 10), (0, v11), (2, 9)]) (by decide +kernel) rfl ?_
            refine zwW_gs ChL3.1 (kd := 7) (bn := 2) (n := 9) (t := 0) (lo := 0) (hi := 400) (nx := 48) (by decide +kernel) ?_
            intro v12 ev12 lv12 uv12
            refine zwW_al ChL3.1 (a1 := 10) (a2 := 10) (kd := 20) (n := 400) (t := 0) (lo := -2147483648) (hi := 2147483647) (nx := 49) (by decide +kernel) (by first | decide | exact ⟨by decide, by decide⟩) (by first | omega | exact ⟨by omega, by omega⟩) ?_
            intro v13 ev13 lv13 uv13
            refine zwW_adw (nx := 50) (by decide +kernel) ?_
            intro v14 ev14 lv14 uv14
            have Ev14 : v14 = w32 ((w32 (v10 * 10)) + v13) := by rw [ev14, ev11]
            refine zwW_p [(0, 48, 0)] (q := 52) (ls' := [(2, 9)]) (st' := [(0, 48), (0, v14), (2, 9)]) (by decide +kernel) rfl ?_
            refine zwW_sbw (nx := 53) (by decide +kernel) ?_
            intro v15 ev15 lv15 uv15
            have Ev15 : v15 = w32 ((w32 ((w32 (v10 * 10)) + v13)) - 48) := by rw [ev15, Ev14]
            refine zwW_p [(0, 10000, 0)] (q := 56) (ls' := [(2, 9)]) (st' := [(0, 10000), (0, v15), (2, 9)]) (by decide +kernel) rfl ?_
            refine zwW_min (nx := 59) (by decide +kernel) rfl ?_
            intro v16 ev16
            refine zwW_ps ChL3.1 (kd := 7) (bn := 5) (n := 9) (lo := -2147483648) (hi := 2147483647) (nx := 62) (by decide +kernel) (by first | omega | exact ⟨by omega, by omega⟩) ?_
            intro h17 eh17 Ih17
            have Ch17 : CI h17 := ChL3.wc eh17 Ih17 (by decide) (by decide)
            have Qh17 : zXR [(9, 9, 5, 6)] 0 0 hL3 h17 := zXR.wc eh17 rfl ⟨by decide, by decide, Or.inl (by decide)⟩ (by first | decide | exact ⟨by decide, by decide⟩)
            have Xh17 : zXR msx239 (0) (0) h h17 := XhL3.tr (c2 := 0) (s2 := 0) Qh17 (by decide +kernel) (by decide) (by decide)
            have th17_9_2 : fld h17 9 2 = fld hL3 9 2 := Qh17.f (a1 := 9) (a2 := 9) (j1 := 2) (j2 := 3) (by decide +kernel) (by first | decide | exact ⟨by decide, by decide⟩) (by first | decide | exact ⟨by decide, by decide⟩) (by first | decide | exact ⟨by decide, by decide⟩)
            refine zwW_p [(1, 0, 2), (12, 0, 0)] (q := 64) (ls' := [(2, 9)]) (st' := [(2, 9), (2, 9)]) (by decide +kernel) rfl ?_
            refine zwW_gs Ch17.1 (kd := 7) (bn := 2) (n := 9) (t := 0) (lo := 0) (hi := 400) (nx := 67) (by decide +kernel) ?_
            intro v18 ev18 lv18 uv18
            refine zwW_p [(0, 1, 0)] (q := 68) (ls' := [(2, 9)]) (st' := [(0, 1), (0, v18), (2, 9)]) (by decide +kernel) rfl ?_
            refine zwW_add (nx := 69) (by decide +kernel) (by first | omega | exact ⟨by omega, by omega⟩) ?_
            refine zwW_ps Ch17.1 (kd := 7) (bn := 2) (n := 9) (lo := 0) (hi := 400) (nx := 72) (by decide +kernel) (by first | omega | exact ⟨by omega, by omega⟩) ?_
            intro h19 eh19 Ih19
            have Ch19 : CI h19 := Ch17.wc eh19 Ih19 (by decide) (by decide)
            have Qh19 : zXR [(9, 9, 2, 3)] 0 0 h17 h19 := zXR.wc eh19 rfl ⟨by decide, by decide, Or.inl (by decide)⟩ (by first | decide | exact ⟨by decide, by decide⟩)
            have Xh19 : zXR msx239 (0) (0) h h19 := Xh17.tr (c2 := 0) (s2 := 0) Qh19 (by decide +kernel) (by decide) (by decide)
            have th19_9_2 : fld h19 9 2 = (v18 + 1) := by rw [eh19]; exact fld_wr_eq (Ch17.1.s (a1 := 9) (a2 := 9) (k := 7) (n := 9) (by decide +kernel) (by decide) (by decide)) (by decide)
            refine zwW_p [(24, 10, 0)] (q := 10) (ls' := [(2, 9)]) (st' := []) (by decide +kernel) rfl ?_
            exact IHL3 ((400 - fld h19 9 2)).toNat (by omega) h19 rfl Ch19 (Xh19.le (by decide) (by decide))
        · refine zwif_eq (q := 75) (nx := 32) (by decide +kernel) (fun c20 => ?_) (fun c20 => ?_)
          · refine zwW_retv (nx := 76) (a := 0) (b := 0) (by decide +kernel) ?_
            exact ⟨ChL3, XhL3.le (by decide) (by decide)⟩
          · exfalso; omega
  exact L3 _ h2 rfl Ch2 (Xh2.le (by decide) (by decide))
def msx243 : Zms := [(9, 9, 6, 7), (11, 11, 0, 400)]
-- WheelLand$Reader.write(I)Z
theorem x243 {sc : List Int} (h : Hp) (C : CI h) (a : Int) (q_a : -2147483648 ≤ a ∧ a ≤ 2147483647) : zwC sc 1 243 [(2, 9), (0, a)] h (zwRt 0 (fun x g => CI g ∧ zXR msx243 (0) (0) h g ∧ (0 ≤ x ∧ x ≤ 1))) := by
  refine zwC_of (D := 0) 2 (by decide +kernel) rfl (ls := [(2, 9), (0, a)]) rfl ?_
  have X : zXR msx243 0 0 h h := zXR.rf _ _
  refine zwW_p [(1, 0, 2)] (q := 1) (ls' := [(2, 9), (0, a)]) (st' := [(2, 9)]) (by decide +kernel) rfl ?_
  refine zwW_gs C.1 (kd := 7) (bn := 6) (n := 9) (t := 0) (lo := 0) (hi := 400) (nx := 4) (by decide +kernel) ?_
  intro v1 ev1 lv1 uv1
  refine zwW_p [(1, 0, 2)] (q := 5) (ls' := [(2, 9), (0, a)]) (st' := [(2, 9), (0, v1)]) (by decide +kernel) rfl ?_
  refine zwW_gc C.1 (kd := 7) (bn := 7) (n := 9) (c := 11) (nx := 8) (by decide +kernel) ?_
  refine zwW_len (kd := 20) (n := 400) (nx := 9) (by decide +kernel) (C.1.s (a1 := 11) (a2 := 11) (by decide +kernel) (by omega) (by omega)) rfl ?_
  refine zwic_lt (q := 14) (nx := 12) (by decide +kernel) (fun c2 => ?_) (fun c2 => ?_)
  · refine zwW_p [(1, 0, 2)] (q := 15) (ls' := [(2, 9), (0, a)]) (st' := [(2, 9)]) (by decide +kernel) rfl ?_
    refine zwW_gc C.1 (kd := 7) (bn := 7) (n := 9) (c := 11) (nx := 18) (by decide +kernel) ?_
    refine zwW_p [(1, 0, 2)] (q := 19) (ls' := [(2, 9), (0, a)]) (st' := [(2, 9), (2, 11)]) (by decide +kernel) rfl ?_
    refine zwW_gs C.1 (kd := 7) (bn := 6) (n := 9) (t := 0) (lo := 0) (hi := 400) (nx := 22) (by decide +kernel) ?_
    intro v3 ev3 lv3 uv3
    refine zwW_p [(1, 1, 0)] (q := 23) (ls' := [(2, 9), (0, a)]) (st' := [(0, a), (0, v3), (2, 11)]) (by decide +kernel) rfl ?_
    refine zwW_as C.1 (a1 := 11) (a2 := 11) (n := 400) (lo := -2147483648) (hi := 2147483647) (nx := 24) (by decide +kernel) (by first | decide | exact ⟨by decide, by decide⟩) (by first | omega | exact ⟨by omega, by omega⟩) (by first | omega | exact ⟨by omega, by omega⟩) ?_
    intro h4 eh4 Ih4
    have Ch4 : CI h4 := C.wc eh4 Ih4 (by decide) (by decide)
    have Qh4 : zXR [(11, 11, 0, 400)] 0 0 h h4 := zXR.wc eh4 rfl ⟨by decide, by decide, Or.inl (by decide)⟩ (by first | omega | exact ⟨by omega, by omega⟩)
    have Xh4 : zXR msx243 (0) (0) h h4 := X.tr (c2 := 0) (s2 := 0) Qh4 (by decide +kernel) (by decide) (by decide)
    have th4_9_6 : fld h4 9 6 = fld h 9 6 := Qh4.f (a1 := 9) (a2 := 9) (j1 := 6) (j2 := 7) (by decide +kernel) (by first | decide | exact ⟨by decide, by decide⟩) (by first | decide | exact ⟨by decide, by decide⟩) (by first | decide | exact ⟨by decide, by decide⟩)
    refine zwW_p [(1, 0, 2), (12, 0, 0)] (q := 26) (ls' := [(2, 9), (0, a)]) (st' := [(2, 9), (2, 9)]) (by decide +kernel) rfl ?_
    refine zwW_gs Ch4.1 (kd := 7) (bn := 6) (n := 9) (t := 0) (lo := 0) (hi := 400) (nx := 29) (by decide +kernel) ?_
    intro v5 ev5 lv5 uv5
    refine zwW_p [(0, 1, 0)] (q := 30) (ls' := [(2, 9), (0, a)]) (st' := [(0, 1), (0, v5), (2, 9)]) (by decide +kernel) rfl ?_
    refine zwW_add (nx := 31) (by decide +kernel) (by first | omega | exact ⟨by omega, by omega⟩) ?_
    refine zwW_ps Ch4.1 (kd := 7) (bn := 6) (n := 9) (lo := 0) (hi := 400) (nx := 34) (by decide +kernel) (by first | omega | exact ⟨by omega, by omega⟩) ?_
    intro h6 eh6 Ih6
    have Ch6 : CI h6 := Ch4.wc eh6 Ih6 (by decide) (by decide)
    have Qh6 : zXR [(9, 9, 6, 7)] 0 0 h4 h6 := zXR.wc eh6 rfl ⟨by decide, by decide, Or.inl (by decide)⟩ (by first | decide | exact ⟨by decide, by decide⟩)
    have Xh6 : zXR msx243 (0) (0) h h6 := Xh4.tr (c2 := 0) (s2 := 0) Qh6 (by decide +kernel) (by decide) (by decide)
    have th6_9_6 : fld h6 9 6 = (v5 + 1) := by rw [eh6]; exact fld_wr_eq (Ch4.1.s (a1 := 9) (a2 := 9) (k := 7) (n := 9) (by decide +kernel) (by decide) (by decide)) (by decide)
    refine zwW_p [(0, 1, 0)] (q := 35) (ls' := [(2, 9), (0, a)]) (st' := [(0, 1)]) (by decide +kernel) rfl ?_
    refine zwW_ret (nx := 36) (a := 1) (b := 0) (by decide +kernel) rfl (Or.inr (Or.inl ⟨rfl, Or.inr rfl⟩)) ?_
    exact ⟨Ch6, Xh6.le (by decide) (by decide), by omega⟩
  · refine zwW_p [(0, 0, 0)] (q := 13) (ls' := [(2, 9), (0, a)]) (st' := [(0, 0)]) (by decide +kernel) rfl ?_
    refine zwW_ret (nx := 14) (a := 1) (b := 0) (by decide +kernel) rfl (Or.inr (Or.inl ⟨rfl, Or.inl rfl⟩)) ?_
    exact ⟨C, X.le (by decide) (by decide), by omega⟩
-- WheelLand$Reader.isWord(I)Z
theorem x264 {sc : List Int} (h : Hp) (C : CI h) (a : Int) (q_a : -2147483648 ≤ a ∧ a ≤ 2147483647) : zwC sc 1 264 [(2, 9), (0, a)] h (zwRt 0 (fun x g => h = g ∧ ((x = 1 ∧ (0 ≤ 1)) ∨ (x = 0 ∧ (0 ≤ 1))))) := by
  refine zwC_of (D := 0) 2 (by decide +kernel) rfl (ls := [(2, 9), (0, a)]) rfl ?_
  refine zwW_p [(1, 0, 2)] (q := 1) (ls' := [(2, 9), (0, a)]) (st' := [(2, 9)]) (by decide +kernel) rfl ?_
  refine zwW_gs C.1 (kd := 7) (bn := 4) (n := 9) (t := 0) (lo := -2147483648) (hi := 2147483647) (nx := 4) (by decide +kernel) ?_
  intro v1 ev1 lv1 uv1
  refine zwW_p [(0, 1, 0)] (q := 5) (ls' := [(2, 9), (0, a)]) (st' := [(0, 1), (0, v1)]) (by decide +kernel) rfl ?_
  refine zwic_ne (q := 20) (nx := 8) (by decide +kernel) (fun c2 => ?_) (fun c2 => ?_)
  · refine zwW_p [(0, 0, 0)] (q := 21) (ls' := [(2, 9), (0, a)]) (st' := [(0, 0)]) (by decide +kernel) rfl ?_
    refine zwW_ret (nx := 22) (a := 1) (b := 0) (by decide +kernel) rfl (Or.inr (Or.inl ⟨rfl, Or.inl rfl⟩)) ?_
    exact ⟨rfl, Or.inr ⟨rfl, by omega⟩⟩
  · refine zwW_p [(1, 0, 2)] (q := 9) (ls' := [(2, 9), (0, a)]) (st' := [(2, 9)]) (by decide +kernel) rfl ?_
    refine zwW_gs C.1 (kd := 7) (bn := 5) (n := 9) (t := 0) (lo := -2147483648) (hi := 2147483647) (nx := 12) (by decide +kernel) ?_
    intro v3 ev3 lv3 uv3
    refine zwW_p [(1, 1, 0)] (q := 13) (ls' := [(2, 9), (0, a)]) (st' := [(0, a), (0, v3)]) (by decide +kernel) rfl ?_
    refine zwic_ne (q := 20) (nx := 16) (by decide +kernel) (fun c4 => ?_) (fun c4 => ?_)
    · refine zwW_p [(0, 0, 0)] (q := 21) (ls' := [(2, 9), (0, a)]) (st' := [(0, 0)]) (by decide +kernel) rfl ?_
      refine zwW_ret (nx := 22) (a := 1) (b := 0) (by decide +kernel) rfl (Or.inr (Or.inl ⟨rfl, Or.inl rfl⟩)) ?_
      exact ⟨rfl, Or.inr ⟨rfl, by omega⟩⟩
    · refine zwW_p [(0, 1, 0), (24, 21, 0)] (q := 21) (ls' := [(2, 9), (0, a)]) (st' := [(0, 1)]) (by decide +kernel) rfl ?_
      refine zwW_ret (nx := 22) (a := 1) (b := 0) (by decide +kernel) rfl (Or.inr (Or.inl ⟨rfl, Or.inr rfl⟩)) ?_
      exact ⟨rfl, Or.inl ⟨rfl, by omega⟩⟩
-- WheelLand$Ledger.numberOf(II)I
theorem x177 {sc : List Int} (h : Hp) (C : CI h) (a b : Int) (q_a : -2147483648 ≤ a ∧ a ≤ 2147483647) (q_b : -2147483648 ≤ b ∧ b ≤ 2147483647) : zwC sc 1 177 [(2, 34), (0, a), (0, b)] h (zwRt 0 (fun x g => h = g ∧ (-2147483648 ≤ x ∧ x ≤ 2147483647))) := by
  refine zwC_of (D := 0) 4 (by decide +kernel) rfl (ls := [(2, 34), (0, a), (0, b), (9, 0)]) rfl ?_
  refine zwW_p [(1, 1, 0)] (q := 1) (ls' := [(2, 34), (0, a), (0, b), (9, 0)]) (st' := [(0, a)]) (by decide +kernel) rfl ?_
  refine zwif_lt (q := 25) (nx := 4) (by decide +kernel) (fun c1 => ?_) (fun c1 => ?_)
  · refine zwW_p [(0, 0, 0), (2, 3, 0), (1, 3, 0)] (q := 28) (ls' := [(2, 34), (0, a), (0, b), (0, 0)]) (st' := [(0, 0)]) (by decide +kernel) rfl ?_
    refine zwif_eq (q := 45) (nx := 31) (by decide +kernel) (fun c2 => ?_) (fun c2 => ?_)
    · refine zwW_p [(0, 0, 0)] (q := 46) (ls' := [(2, 34), (0, a), (0, b), (0, 0)]) (st' := [(0, 0)]) (by decide +kernel) rfl ?_
      refine zwW_ret (nx := 47) (a := 0) (b := 0) (by decide +kernel) rfl (Or.inl rfl) ?_
      exact ⟨rfl, by omega⟩
    · exfalso; omega
  · refine zwW_p [(1, 1, 0), (0, 156, 0)] (q := 8) (ls' := [(2, 34), (0, a), (0, b), (9, 0)]) (st' := [(0, 156), (0, a)]) (by decide +kernel) rfl ?_
    refine zwic_ge (q := 25) (nx := 11) (by decide +kernel) (fun c3 => ?_) (fun c3 => ?_)
    · refine zwW_p [(0, 0, 0), (2, 3, 0), (1, 3, 0)] (q := 28) (ls' := [(2, 34), (0, a), (0, b), (0, 0)]) (st' := [(0, 0)]) (by decide +kernel) rfl ?_
      refine zwif_eq (q := 45) (nx := 31) (by decide +kernel) (fun c4 => ?_) (fun c4 => ?_)
      · refine zwW_p [(0, 0, 0)] (q := 46) (ls' := [(2, 34), (0, a), (0, b), (0, 0)]) (st' := [(0, 0)]) (by decide +kernel) rfl ?_
        refine zwW_ret (nx := 47) (a := 0) (b := 0) (by decide +kernel) rfl (Or.inl rfl) ?_
        exact ⟨rfl, by omega⟩
      · exfalso; omega
    · refine zwW_p [(1, 2, 0)] (q := 12) (ls' := [(2, 34), (0, a), (0, b), (9, 0)]) (st' := [(0, b)]) (by decide +kernel) rfl ?_
      refine zwif_lt (q := 25) (nx := 15) (by decide +kernel) (fun c5 => ?_) (fun c5 => ?_)
      · refine zwW_p [(0, 0, 0), (2, 3, 0), (1, 3, 0)] (q := 28) (ls' := [(2, 34), (0, a), (0, b), (0, 0)]) (st' := [(0, 0)]) (by decide +kernel) rfl ?_
        refine zwif_eq (q := 45) (nx := 31) (by decide +kernel) (fun c6 => ?_) (fun c6 => ?_)
        · refine zwW_p [(0, 0, 0)] (q := 46) (ls' := [(2, 34), (0, a), (0, b), (0, 0)]) (st' := [(0, 0)]) (by decide +kernel) rfl ?_
          refine zwW_ret (nx := 47) (a := 0) (b := 0) (by decide +kernel) rfl (Or.inl rfl) ?_
          exact ⟨rfl, by omega⟩
        · exfalso; omega
      · refine zwW_p [(1, 2, 0), (0, 6, 0)] (q := 18) (ls' := [(2, 34), (0, a), (0, b), (9, 0)]) (st' := [(0, 6), (0, b)]) (by decide +kernel) rfl ?_
        refine zwic_ge (q := 25) (nx := 21) (by decide +kernel) (fun c7 => ?_) (fun c7 => ?_)
        · refine zwW_p [(0, 0, 0), (2, 3, 0), (1, 3, 0)] (q := 28) (ls' := [(2, 34), (0, a), (0, b), (0, 0)]) (st' := [(0, 0)]) (by decide +kernel) rfl ?_
          refine zwif_eq (q := 45) (nx := 31) (by decide +kernel) (fun c8 => ?_) (fun c8 => ?_)
          · refine zwW_p [(0, 0, 0)] (q := 46) (ls' := [(2, 34), (0, a), (0, b), (0, 0)]) (st' := [(0, 0)]) (by decide +kernel) rfl ?_
            refine zwW_ret (nx := 47) (a := 0) (b := 0) (by decide +kernel) rfl (Or.inl rfl) ?_
            exact ⟨rfl, by omega⟩
          · exfalso; omega
        · refine zwW_p [(0, 1, 0), (24, 26, 0), (2, 3, 0), (1, 3, 0)] (q := 28) (ls' := [(2, 34), (0, a), (0, b), (0, 1)]) (st' := [(0, 1)]) (by decide +kernel) rfl ?_
          refine zwif_eq (q := 45) (nx := 31) (by decide +kernel) (fun c9 => ?_) (fun c9 => ?_)
          · exfalso; omega
          · refine zwW_p [(1, 0, 2)] (q := 32) (ls' := [(2, 34), (0, a), (0, b), (0, 1)]) (st' := [(2, 34)]) (by decide +kernel) rfl ?_
            refine zwW_gc C.1 (kd := 5) (bn := 3) (n := 4) (c := 35) (nx := 35) (by decide +kernel) ?_
            refine zwW_p [(1, 1, 0), (0, 6, 0)] (q := 38) (ls' := [(2, 34), (0, a), (0, b), (0, 1)]) (st' := [(0, 6), (0, a), (2, 35)]) (by decide +kernel) rfl ?_
            refine zwW_mul (nx := 39) (by decide +kernel) (by first | omega | exact ⟨by omega, by omega⟩) ?_
            refine zwW_p [(1, 2, 0)] (q := 40) (ls' := [(2, 34), (0, a), (0, b), (0, 1)]) (st' := [(0, b), (0, (a * 6)), (2, 35)]) (by decide +kernel) rfl ?_
            refine zwW_add (nx := 41) (by decide +kernel) (by first | omega | exact ⟨by omega, by omega⟩) ?_
            refine zwW_al C.1 (a1 := 35) (a2 := 35) (kd := 20) (n := 936) (t := 0) (lo := -2147483648) (hi := 2147483647) (nx := 42) (by decide +kernel) (by first | decide | exact ⟨by decide, by decide⟩) (by first | omega | exact ⟨by omega, by omega⟩) ?_
            intro v10 ev10 lv10 uv10
            refine zwW_p [(24, 46, 0)] (q := 46) (ls' := [(2, 34), (0, a), (0, b), (0, 1)]) (st' := [(0, v10)]) (by decide +kernel) rfl ?_
            refine zwW_ret (nx := 47) (a := 0) (b := 0) (by decide +kernel) rfl (Or.inl rfl) ?_
            exact ⟨rfl, by omega⟩
-- WheelLand$Ledger.masked(IIII)I
theorem x226 {sc : List Int} (h : Hp) (C : CI h) (a b c d : Int) (q_a : -2147483648 ≤ a ∧ a ≤ 2147483647) (q_b : -2147483648 ≤ b ∧ b ≤ 2147483647) (q_c : -2147483648 ≤ c ∧ c ≤ 2147483647) (q_d : -2147483648 ≤ d ∧ d ≤ 2147483647) : zwC sc 2 226 [(2, 34), (0, a), (0, b), (0, c), (0, d)] h (zwRt 0 (fun x g => h = g ∧ (-2147483648 ≤ x ∧ x ≤ 2147483647))) := by
  refine zwC_of (D := 1) 5 (by decide +kernel) rfl (ls := [(2, 34), (0, a), (0, b), (0, c), (0, d)]) rfl ?_
  refine zwW_p [(1, 0, 2), (1, 1, 0), (1, 2, 0)] (q := 3) (ls' := [(2, 34), (0, a), (0, b), (0, c), (0, d)]) (st' := [(0, b), (0, a), (2, 34)]) (by decide +kernel) rfl ?_
  refine zwW_cm C.1 (op := 60) (k' := 177) (n := 2) (kd := 5) (m := 4) (nx := 6) (r := 34) (tl := [(0, a), (0, b)]) (st' := []) (by decide +kernel) rfl (by decide +kernel) rfl (x177 h C a b (by omega) (by omega)) ?_
  rintro v1 _ ⟨rfl, f2⟩
  refine zwW_p [(1, 2, 0), (1, 3, 0)] (q := 8) (ls' := [(2, 34), (0, a), (0, b), (0, c), (0, d)]) (st' := [(0, c), (0, b), (0, v1)]) (by decide +kernel) rfl ?_
  refine zwic_ne (q := 16) (nx := 11) (by decide +kernel) (fun c3 => ?_) (fun c3 => ?_)
  · refine zwW_p [(0, 0, 0)] (q := 17) (ls' := [(2, 34), (0, a), (0, b), (0, c), (0, d)]) (st' := [(0, 0), (0, v1)]) (by decide +kernel) rfl ?_
    refine zwW_any2 (a := 7) (nx := 18) (by decide +kernel) rfl (by first | omega | exact ⟨by omega, by omega⟩) (Or.inr (by first | decide | exact ⟨by decide, by decide⟩)) ?_
    intro v4 lv4 uv4
    refine zwW_ret (nx := 19) (a := 0) (b := 0) (by decide +kernel) rfl (Or.inl rfl) ?_
    exact ⟨rfl, by omega⟩
  · refine zwW_p [(1, 4, 0), (24, 17, 0)] (q := 17) (ls' := [(2, 34), (0, a), (0, b), (0, c), (0, d)]) (st' := [(0, d), (0, v1)]) (by decide +kernel) rfl ?_
    refine zwW_any2 (a := 7) (nx := 18) (by decide +kernel) rfl (by first | omega | exact ⟨by omega, by omega⟩) (Or.inr (by first | decide | exact ⟨by decide, by decide⟩)) ?_
    intro v5 lv5 uv5
    refine zwW_ret (nx := 19) (a := 0) (b := 0) (by decide +kernel) rfl (Or.inl rfl) ?_
    exact ⟨rfl, by omega⟩
-- WheelLand$Ledger.verdict(III)I
theorem x178 {sc : List Int} (h : Hp) (C : CI h) (a b c : Int) (q_a : -2147483648 ≤ a ∧ a ≤ 2147483647) (q_b : -2147483648 ≤ b ∧ b ≤ 2147483647) (q_c : -2147483648 ≤ c ∧ c ≤ 2147483647) : zwC sc 3 178 [(2, 34), (0, a), (0, b), (0, c)] h (zwRt 0 (fun x g => h = g ∧ (-2147483648 ≤ x ∧ x ≤ 2147483647))) := by
  refine zwC_of (D := 2) 10 (by decide +kernel) rfl (ls := [(2, 34), (0, a), (0, b), (0, c), (9, 0), (9, 0), (9, 0), (9, 0), (9, 0), (9, 0)]) rfl ?_
  refine zwW_p [(1, 0, 2), (1, 1, 0), (0, 2, 0), (1, 2, 0), (1, 3, 0)] (q := 5) (ls' := [(2, 34), (0, a), (0, b), (0, c), (9, 0), (9, 0), (9, 0), (9, 0), (9, 0), (9, 0)]) (st' := [(0, c), (0, b), (0, 2), (0, a), (2, 34)]) (by decide +kernel) rfl ?_
  refine zwW_cm C.1 (op := 60) (k' := 226) (n := 4) (kd := 5) (m := 4) (nx := 8) (r := 34) (tl := [(0, a), (0, 2), (0, b), (0, c)]) (st' := []) (by decide +kernel) rfl (by decide +kernel) rfl (x226 h C a 2 b c (by omega) (by omega) (by omega) (by omega)) ?_
  rintro v1 _ ⟨rfl, f2⟩
  refine zwW_p [(7, 0, 0), (2, 4, 1), (1, 0, 2), (1, 1, 0), (0, 5, 0), (1, 2, 0), (1, 3, 0)] (q := 16) (ls' := [(2, 34), (0, a), (0, b), (0, c), (1, v1), (9, 0), (9, 0), (9, 0), (9, 0), (9, 0)]) (st' := [(0, c), (0, b), (0, 5), (0, a), (2, 34)]) (by decide +kernel) rfl ?_
  refine zwW_cm C.1 (op := 60) (k' := 226) (n := 4) (kd := 5) (m := 4) (nx := 19) (r := 34) (tl := [(0, a), (0, 5), (0, b), (0, c)]) (st' := []) (by decide +kernel) rfl (by decide +kernel) rfl (x226 h C a 5 b c (by omega) (by omega) (by omega) (by omega)) ?_
  rintro v3 _ ⟨rfl, f4⟩
  refine zwW_p [(7, 0, 0), (2, 6, 1), (1, 4, 1), (1, 0, 2), (1, 1, 0), (0, 3, 0), (1, 2, 0), (1, 3, 0)] (q := 29) (ls' := [(2, 34), (0, a), (0, b), (0, c), (1, v1), (9, 0), (1, v3), (9, 0), (9, 0), (9, 0)]) (st' := [(0, c), (0, b), (0, 3), (0, a), (2, 34), (1, v1)]) (by decide +kernel) rfl ?_
  refine zwW_cm C.1 (op := 60) (k' := 226) (n := 4) (kd := 5) (m := 4) (nx := 32) (r := 34) (tl := [(0, a), (0, 3), (0, b), (0, c)]) (st' := [(1, v1)]) (by decide +kernel) rfl (by decide +kernel) rfl (x226 h C a 3 b c (by omega) (by omega) (by omega) (by omega)) ?_
  rintro v5 _ ⟨rfl, f6⟩
  refine zwW_p [(7, 0, 0)] (q := 33) (ls' := [(2, 34), (0, a), (0, b), (0, c), (1, v1), (9, 0), (1, v3), (9, 0), (9, 0), (9, 0)]) (st' := [(1, v5), (1, v1)]) (by decide +kernel) rfl ?_
  refine zwW_ladd (nx := 34) (by decide +kernel) (by first | omega | exact ⟨by omega, by omega⟩) ?_
  refine zwW_p [(1, 0, 2), (1, 1, 0), (0, 4, 0), (1, 2, 0), (1, 3, 0)] (q := 39) (ls' := [(2, 34), (0, a), (0, b), (0, c), (1, v1), (9, 0), (1, v3), (9, 0), (9, 0), (9, 0)]) (st' := [(0, c), (0, b), (0, 4), (0, a), (2, 34), (1, (v1 + v5))]) (by decide +kernel) rfl ?_
  refine zwW_cm C.1 (op := 60) (k' := 226) (n := 4) (kd := 5) (m := 4) (nx := 42) (r := 34) (tl := [(0, a), (0, 4), (0, b), (0, c)]) (st' := [(1, (v1 + v5))]) (by decide +kernel) rfl (by decide +kernel) rfl (x226 h C a 4 b c (by omega) (by omega) (by omega) (by omega)) ?_
  rintro v8 _ ⟨rfl, f9⟩
  refine zwW_p [(7, 0, 0)] (q := 43) (ls' := [(2, 34), (0, a), (0, b), (0, c), (1, v1), (9, 0), (1, v3), (9, 0), (9, 0), (9, 0)]) (st' := [(1, v8), (1, (v1 + v5))]) (by decide +kernel) rfl ?_
  refine zwW_ladd (nx := 44) (by decide +kernel) (by first | omega | exact ⟨by omega, by omega⟩) ?_
  refine zwW_p [(1, 6, 1)] (q := 46) (ls' := [(2, 34), (0, a), (0, b), (0, c), (1, v1), (9, 0), (1, v3), (9, 0), (9, 0), (9, 0)]) (st' := [(1, v3), (1, ((v1 + v5) + v8))]) (by decide +kernel) rfl ?_
  refine zwlc_eq (q := 52) (nx := 50) (m := 47) (by decide +kernel) (by decide +kernel) (fun c11 => ?_) (fun c11 => ?_)
  · refine zwW_p [(1, 0, 2), (1, 1, 0), (0, 1, 0)] (q := 55) (ls' := [(2, 34), (0, a), (0, b), (0, c), (1, v1), (9, 0), (1, v3), (9, 0), (9, 0), (9, 0)]) (st' := [(0, 1), (0, a), (2, 34)]) (by decide +kernel) rfl ?_
    refine zwW_sbw (nx := 56) (by decide +kernel) ?_
    intro v12 ev12 lv12 uv12
    refine zwW_p [(0, 5, 0)] (q := 57) (ls' := [(2, 34), (0, a), (0, b), (0, c), (1, v1), (9, 0), (1, v3), (9, 0), (9, 0), (9, 0)]) (st' := [(0, 5), (0, v12), (2, 34)]) (by decide +kernel) rfl ?_
    refine zwW_cm C.1 (op := 60) (k' := 177) (n := 2) (kd := 5) (m := 4) (nx := 60) (r := 34) (tl := [(0, v12), (0, 5)]) (st' := []) (by decide +kernel) rfl (by decide +kernel) rfl (x177 h C v12 5 (by omega) (by omega)) ?_
    rintro v13 _ ⟨rfl, f14⟩
    refine zwW_p [(7, 0, 0), (2, 8, 1), (1, 6, 1), (1, 8, 1), (1, 0, 2), (1, 1, 0), (0, 1, 0), (1, 2, 0), (1, 3, 0)] (q := 72) (ls' := [(2, 34), (0, a), (0, b), (0, c), (1, v1), (9, 0), (1, v3), (9, 0), (1, v13), (9, 0)]) (st' := [(0, c), (0, b), (0, 1), (0, a), (2, 34), (1, v13), (1, v3)]) (by decide +kernel) rfl ?_
    refine zwW_cm C.1 (op := 60) (k' := 226) (n := 4) (kd := 5) (m := 4) (nx := 75) (r := 34) (tl := [(0, a), (0, 1), (0, b), (0, c)]) (st' := [(1, v13), (1, v3)]) (by decide +kernel) rfl (by decide +kernel) rfl (x226 h C a 1 b c (by omega) (by omega) (by omega) (by omega)) ?_
    rintro v15 _ ⟨rfl, f16⟩
    refine zwW_p [(7, 0, 0)] (q := 76) (ls' := [(2, 34), (0, a), (0, b), (0, c), (1, v1), (9, 0), (1, v3), (9, 0), (1, v13), (9, 0)]) (st' := [(1, v15), (1, v13), (1, v3)]) (by decide +kernel) rfl ?_
    refine zwW_ladd (nx := 77) (by decide +kernel) (by first | omega | exact ⟨by omega, by omega⟩) ?_
    refine zwlc_ne (q := 85) (nx := 81) (m := 78) (by decide +kernel) (by decide +kernel) (fun c18 => ?_) (fun c18 => ?_)
    · refine zwW_p [(0, 2, 0)] (q := 86) (ls' := [(2, 34), (0, a), (0, b), (0, c), (1, v1), (9, 0), (1, v3), (9, 0), (1, v13), (9, 0)]) (st' := [(0, 2)]) (by decide +kernel) rfl ?_
      refine zwW_ret (nx := 87) (a := 0) (b := 0) (by decide +kernel) rfl (Or.inl rfl) ?_
      exact ⟨rfl, by omega⟩
    · refine zwW_p [(0, 0, 0), (24, 86, 0)] (q := 86) (ls' := [(2, 34), (0, a), (0, b), (0, c), (1, v1), (9, 0), (1, v3), (9, 0), (1, v13), (9, 0)]) (st' := [(0, 0)]) (by decide +kernel) rfl ?_
      refine zwW_ret (nx := 87) (a := 0) (b := 0) (by decide +kernel) rfl (Or.inl rfl) ?_
      exact ⟨rfl, by omega⟩
  · refine zwW_p [(0, 1, 0)] (q := 51) (ls' := [(2, 34), (0, a), (0, b), (0, c), (1, v1), (9, 0), (1, v3), (9, 0), (9, 0), (9, 0)]) (st' := [(0, 1)]) (by decide +kernel) rfl ?_
    refine zwW_ret (nx := 52) (a := 0) (b := 0) (by decide +kernel) rfl (Or.inl rfl) ?_
    exact ⟨rfl, by omega⟩
def msx192 : Zms := [(34, 34, 2, 3), (35, 35, 0, 936)]
-- WheelLand$Ledger.close(IIII)V
theorem x192 {sc : List Int} (h : Hp) (C : CI h) (a b c d : Int) (q_a : -2147483648 ≤ a ∧ a ≤ 2147483647) (q_b : -2147483648 ≤ b ∧ b ≤ 2147483647) (q_c : -2147483648 ≤ c ∧ c ≤ 2147483647) (q_d : -2147483648 ≤ d ∧ d ≤ 2147483647) (p1 : 0 ≤ a ∧ a ≤ 156) : zwC sc 1 192 [(2, 34), (0, a), (0, b), (0, c), (0, d)] h (zwRv (fun g => CI g ∧ zXR msx192 (0) (0) h g)) := by
  refine zwC_of (D := 0) 6 (by decide +kernel) rfl (ls := [(2, 34), (0, a), (0, b), (0, c), (0, d), (9, 0)]) rfl ?_
  have X : zXR msx192 0 0 h h := zXR.rf _ _
  refine zwW_p [(1, 0, 2), (12, 0, 0)] (q := 2) (ls' := [(2, 34), (0, a), (0, b), (0, c), (0, d), (9, 0)]) (st' := [(2, 34), (2, 34)]) (by decide +kernel) rfl ?_
  refine zwW_gs C.1 (kd := 5) (bn := 2) (n := 4) (t := 0) (lo := -2147483648) (hi := 2147483647) (nx := 5) (by decide +kernel) ?_
  intro v1 ev1 lv1 uv1
  refine zwW_p [(1, 3, 0)] (q := 6) (ls' := [(2, 34), (0, a), (0, b), (0, c), (0, d), (9, 0)]) (st' := [(0, c), (0, v1), (2, 34)]) (by decide +kernel) rfl ?_
  refine zwW_adw (nx := 7) (by decide +kernel) ?_
  intro v2 ev2 lv2 uv2
  refine zwW_ps C.1 (kd := 5) (bn := 2) (n := 4) (lo := -2147483648) (hi := 2147483647) (nx := 10) (by decide +kernel) (by first | omega | exact ⟨by omega, by omega⟩) ?_
  intro h3 eh3 Ih3
  have Ch3 : CI h3 := C.wc eh3 Ih3 (by decide) (by decide)
  have Qh3 : zXR [(34, 34, 2, 3)] 0 0 h h3 := zXR.wc eh3 rfl ⟨by decide, by decide, Or.inl (by decide)⟩ (by first | decide | exact ⟨by decide, by decide⟩)
  have Xh3 : zXR msx192 (0) (0) h h3 := X.tr (c2 := 0) (s2 := 0) Qh3 (by decide +kernel) (by decide) (by decide)
  refine zwW_p [(1, 1, 0), (0, 6, 0)] (q := 13) (ls' := [(2, 34), (0, a), (0, b), (0, c), (0, d), (9, 0)]) (st' := [(0, 6), (0, a)]) (by decide +kernel) rfl ?_
  refine zwW_mul (nx := 14) (by decide +kernel) (by first | omega | exact ⟨by omega, by omega⟩) ?_
  refine zwW_p [(2, 5, 0), (1, 1, 0)] (q := 17) (ls' := [(2, 34), (0, a), (0, b), (0, c), (0, d), (0, (a * 6))]) (st' := [(0, a)]) (by decide +kernel) rfl ?_
  refine zwif_lt (q := 95) (nx := 20) (by decide +kernel) (fun c4 => ?_) (fun c4 => ?_)
  · exfalso; omega
  · refine zwW_p [(1, 1, 0), (0, 156, 0)] (q := 24) (ls' := [(2, 34), (0, a), (0, b), (0, c), (0, d), (0, (a * 6))]) (st' := [(0, 156), (0, a)]) (by decide +kernel) rfl ?_
    refine zwic_ge (q := 95) (nx := 27) (by decide +kernel) (fun c5 => ?_) (fun c5 => ?_)
    · refine zwW_retv (nx := 96) (a := 0) (b := 0) (by decide +kernel) ?_
      exact ⟨Ch3, Xh3.le (by decide) (by decide)⟩
    · refine zwW_p [(1, 0, 2)] (q := 28) (ls' := [(2, 34), (0, a), (0, b), (0, c), (0, d), (0, (a * 6))]) (st' := [(2, 34)]) (by decide +kernel) rfl ?_
      refine zwW_gc Ch3.1 (kd := 5) (bn := 3) (n := 4) (c := 35) (nx := 31) (by decide +kernel) ?_
      refine zwW_p [(1, 5, 0), (1, 2, 0)] (q := 34) (ls' := [(2, 34), (0, a), (0, b), (0, c), (0, d), (0, (a * 6))]) (st' := [(0, b), (0, (a * 6)), (2, 35)]) (by decide +kernel) rfl ?_
      refine zwW_as Ch3.1 (a1 := 35) (a2 := 35) (n := 936) (lo := -2147483648) (hi := 2147483647) (nx := 35) (by decide +kernel) (by first | decide | exact ⟨by decide, by decide⟩) (by first | omega | exact ⟨by omega, by omega⟩) (by first | omega | exact ⟨by omega, by omega⟩) ?_
      intro h6 eh6 Ih6
      have Ch6 : CI h6 := Ch3.wc eh6 Ih6 (by decide) (by decide)
      have Qh6 : zXR [(35, 35, 0, 936)] 0 0 h3 h6 := zXR.wc eh6 rfl ⟨by decide, by decide, Or.inl (by decide)⟩ (by first | omega | exact ⟨by omega, by omega⟩)
      have Xh6 : zXR msx192 (0) (0) h h6 := Xh3.tr (c2 := 0) (s2 := 0) Qh6 (by decide +kernel) (by decide) (by decide)
      refine zwW_p [(1, 0, 2)] (q := 36) (ls' := [(2, 34), (0, a), (0, b), (0, c), (0, d), (0, (a * 6))]) (st' := [(2, 34)]) (by decide +kernel) rfl ?_
      refine zwW_gc Ch6.1 (kd := 5) (bn := 3) (n := 4) (c := 35) (nx := 39) (by decide +kernel) ?_
      refine zwW_p [(1, 5, 0), (0, 1, 0)] (q := 42) (ls' := [(2, 34), (0, a), (0, b), (0, c), (0, d), (0, (a * 6))]) (st' := [(0, 1), (0, (a * 6)), (2, 35)]) (by decide +kernel) rfl ?_
      refine zwW_add (nx := 43) (by decide +kernel) (by first | omega | exact ⟨by omega, by omega⟩) ?_
      refine zwW_p [(1, 3, 0)] (q := 44) (ls' := [(2, 34), (0, a), (0, b), (0, c), (0, d), (0, (a * 6))]) (st' := [(0, c), (0, ((a * 6) + 1)), (2, 35)]) (by decide +kernel) rfl ?_
      refine zwW_as Ch6.1 (a1 := 35) (a2 := 35) (n := 936) (lo := -2147483648) (hi := 2147483647) (nx := 45) (by decide +kernel) (by first | decide | exact ⟨by decide, by decide⟩) (by first | omega | exact ⟨by omega, by omega⟩) (by first | omega | exact ⟨by omega, by omega⟩) ?_
      intro h7 eh7 Ih7
      have Ch7 : CI h7 := Ch6.wc eh7 Ih7 (by decide) (by decide)
      have Qh7 : zXR [(35, 35, 0, 936)] 0 0 h6 h7 := zXR.wc eh7 rfl ⟨by decide, by decide, Or.inl (by decide)⟩ (by first | omega | exact ⟨by omega, by omega⟩)
      have Xh7 : zXR msx192 (0) (0) h h7 := Xh6.tr (c2 := 0) (s2 := 0) Qh7 (by decide +kernel) (by decide) (by decide)
      refine zwW_p [(1, 0, 2)] (q := 46) (ls' := [(2, 34), (0, a), (0, b), (0, c), (0, d), (0, (a * 6))]) (st' := [(2, 34)]) (by decide +kernel) rfl ?_
      refine zwW_gc Ch7.1 (kd := 5) (bn := 3) (n := 4) (c := 35) (nx := 49) (by decide +kernel) ?_
      refine zwW_p [(1, 5, 0), (0, 2, 0)] (q := 52) (ls' := [(2, 34), (0, a), (0, b), (0, c), (0, d), (0, (a * 6))]) (st' := [(0, 2), (0, (a * 6)), (2, 35)]) (by decide +kernel) rfl ?_
      refine zwW_add (nx := 53) (by decide +kernel) (by first | omega | exact ⟨by omega, by omega⟩) ?_
      refine zwW_p [(1, 4, 0)] (q := 55) (ls' := [(2, 34), (0, a), (0, b), (0, c), (0, d), (0, (a * 6))]) (st' := [(0, d), (0, ((a * 6) + 2)), (2, 35)]) (by decide +kernel) rfl ?_
      refine zwW_as Ch7.1 (a1 := 35) (a2 := 35) (n := 936) (lo := -2147483648) (hi := 2147483647) (nx := 56) (by decide +kernel) (by first | decide | exact ⟨by decide, by decide⟩) (by first | omega | exact ⟨by omega, by omega⟩) (by first | omega | exact ⟨by omega, by omega⟩) ?_
      intro h8 eh8 Ih8
      have Ch8 : CI h8 := Ch7.wc eh8 Ih8 (by decide) (by decide)
      have Qh8 : zXR [(35, 35, 0, 936)] 0 0 h7 h8 := zXR.wc eh8 rfl ⟨by decide, by decide, Or.inl (by decide)⟩ (by first | omega | exact ⟨by omega, by omega⟩)
      have Xh8 : zXR msx192 (0) (0) h h8 := Xh7.tr (c2 := 0) (s2 := 0) Qh8 (by decide +kernel) (by decide) (by decide)
      refine zwW_p [(1, 0, 2)] (q := 57) (ls' := [(2, 34), (0, a), (0, b), (0, c), (0, d), (0, (a * 6))]) (st' := [(2, 34)]) (by decide +kernel) rfl ?_
      refine zwW_gc Ch8.1 (kd := 5) (bn := 3) (n := 4) (c := 35) (nx := 60) (by decide +kernel) ?_
      refine zwW_p [(1, 5, 0), (0, 3, 0)] (q := 63) (ls' := [(2, 34), (0, a), (0, b), (0, c), (0, d), (0, (a * 6))]) (st' := [(0, 3), (0, (a * 6)), (2, 35)]) (by decide +kernel) rfl ?_
      refine zwW_add (nx := 64) (by decide +kernel) (by first | omega | exact ⟨by omega, by omega⟩) ?_
      refine zwW_p [(1, 0, 2)] (q := 65) (ls' := [(2, 34), (0, a), (0, b), (0, c), (0, d), (0, (a * 6))]) (st' := [(2, 34), (0, ((a * 6) + 3)), (2, 35)]) (by decide +kernel) rfl ?_
      refine zwW_gs Ch8.1 (kd := 5) (bn := 0) (n := 4) (t := 0) (lo := -2147483648) (hi := 2147483647) (nx := 68) (by decide +kernel) ?_
      intro v9 ev9 lv9 uv9
      refine zwW_as Ch8.1 (a1 := 35) (a2 := 35) (n := 936) (lo := -2147483648) (hi := 2147483647) (nx := 69) (by decide +kernel) (by first | decide | exact ⟨by decide, by decide⟩) (by first | omega | exact ⟨by omega, by omega⟩) (by first | omega | exact ⟨by omega, by omega⟩) ?_
      intro h10 eh10 Ih10
      have Ch10 : CI h10 := Ch8.wc eh10 Ih10 (by decide) (by decide)
      have Qh10 : zXR [(35, 35, 0, 936)] 0 0 h8 h10 := zXR.wc eh10 rfl ⟨by decide, by decide, Or.inl (by decide)⟩ (by first | omega | exact ⟨by omega, by omega⟩)
      have Xh10 : zXR msx192 (0) (0) h h10 := Xh8.tr (c2 := 0) (s2 := 0) Qh10 (by decide +kernel) (by decide) (by decide)
      refine zwW_p [(1, 0, 2)] (q := 70) (ls' := [(2, 34), (0, a), (0, b), (0, c), (0, d), (0, (a * 6))]) (st' := [(2, 34)]) (by decide +kernel) rfl ?_
      refine zwW_gc Ch10.1 (kd := 5) (bn := 3) (n := 4) (c := 35) (nx := 73) (by decide +kernel) ?_
      refine zwW_p [(1, 5, 0), (0, 4, 0)] (q := 76) (ls' := [(2, 34), (0, a), (0, b), (0, c), (0, d), (0, (a * 6))]) (st' := [(0, 4), (0, (a * 6)), (2, 35)]) (by decide +kernel) rfl ?_
      refine zwW_add (nx := 77) (by decide +kernel) (by first | omega | exact ⟨by omega, by omega⟩) ?_
      refine zwW_p [(1, 0, 2)] (q := 78) (ls' := [(2, 34), (0, a), (0, b), (0, c), (0, d), (0, (a * 6))]) (st' := [(2, 34), (0, ((a * 6) + 4)), (2, 35)]) (by decide +kernel) rfl ?_
      refine zwW_gs Ch10.1 (kd := 5) (bn := 1) (n := 4) (t := 0) (lo := -2147483648) (hi := 2147483647) (nx := 81) (by decide +kernel) ?_
      intro v11 ev11 lv11 uv11
      refine zwW_as Ch10.1 (a1 := 35) (a2 := 35) (n := 936) (lo := -2147483648) (hi := 2147483647) (nx := 82) (by decide +kernel) (by first | decide | exact ⟨by decide, by decide⟩) (by first | omega | exact ⟨by omega, by omega⟩) (by first | omega | exact ⟨by omega, by omega⟩) ?_
      intro h12 eh12 Ih12
      have Ch12 : CI h12 := Ch10.wc eh12 Ih12 (by decide) (by decide)
      have Qh12 : zXR [(35, 35, 0, 936)] 0 0 h10 h12 := zXR.wc eh12 rfl ⟨by decide, by decide, Or.inl (by decide)⟩ (by first | omega | exact ⟨by omega, by omega⟩)
      have Xh12 : zXR msx192 (0) (0) h h12 := Xh10.tr (c2 := 0) (s2 := 0) Qh12 (by decide +kernel) (by decide) (by decide)
      refine zwW_p [(1, 0, 2)] (q := 83) (ls' := [(2, 34), (0, a), (0, b), (0, c), (0, d), (0, (a * 6))]) (st' := [(2, 34)]) (by decide +kernel) rfl ?_
      refine zwW_gc Ch12.1 (kd := 5) (bn := 3) (n := 4) (c := 35) (nx := 86) (by decide +kernel) ?_
      refine zwW_p [(1, 5, 0), (0, 5, 0)] (q := 89) (ls' := [(2, 34), (0, a), (0, b), (0, c), (0, d), (0, (a * 6))]) (st' := [(0, 5), (0, (a * 6)), (2, 35)]) (by decide +kernel) rfl ?_
      refine zwW_add (nx := 90) (by decide +kernel) (by first | omega | exact ⟨by omega, by omega⟩) ?_
      refine zwW_p [(1, 0, 2)] (q := 91) (ls' := [(2, 34), (0, a), (0, b), (0, c), (0, d), (0, (a * 6))]) (st' := [(2, 34), (0, ((a * 6) + 5)), (2, 35)]) (by decide +kernel) rfl ?_
      refine zwW_gs Ch12.1 (kd := 5) (bn := 2) (n := 4) (t := 0) (lo := -2147483648) (hi := 2147483647) (nx := 94) (by decide +kernel) ?_
      intro v13 ev13 lv13 uv13
      refine zwW_as Ch12.1 (a1 := 35) (a2 := 35) (n := 936) (lo := -2147483648) (hi := 2147483647) (nx := 95) (by decide +kernel) (by first | decide | exact ⟨by decide, by decide⟩) (by first | omega | exact ⟨by omega, by omega⟩) (by first | omega | exact ⟨by omega, by omega⟩) ?_
      intro h14 eh14 Ih14
      have Ch14 : CI h14 := Ch12.wc eh14 Ih14 (by decide) (by decide)
      have Qh14 : zXR [(35, 35, 0, 936)] 0 0 h12 h14 := zXR.wc eh14 rfl ⟨by decide, by decide, Or.inl (by decide)⟩ (by first | omega | exact ⟨by omega, by omega⟩)
      have Xh14 : zXR msx192 (0) (0) h h14 := Xh12.tr (c2 := 0) (s2 := 0) Qh14 (by decide +kernel) (by decide) (by decide)
      refine zwW_retv (nx := 96) (a := 0) (b := 0) (by decide +kernel) ?_
      exact ⟨Ch14, Xh14.le (by decide) (by decide)⟩
def msx161 : Zms := [(27, 27, 0, 1), (28, 28, 0, 8), (29, 29, 0, 8), (30, 30, 0, 8)]
-- WheelLand$Gifts.tell(III)V
theorem x161 {sc : List Int} (h : Hp) (C : CI h) (a b c : Int) (q_a : -2147483648 ≤ a ∧ a ≤ 2147483647) (q_b : -2147483648 ≤ b ∧ b ≤ 2147483647) (q_c : -2147483648 ≤ c ∧ c ≤ 2147483647) : zwC sc 1 161 [(2, 27), (0, a), (0, b), (0, c)] h (zwRv (fun g => CI g ∧ zXR msx161 (0) (0) h g ∧ (fld h 27 0 < 8 → fld g 27 0 = fld h 27 0 + 1))) := by
  refine zwC_of (D := 0) 4 (by decide +kernel) rfl (ls := [(2, 27), (0, a), (0, b), (0, c)]) rfl ?_
  have X : zXR msx161 0 0 h h := zXR.rf _ _
  refine zwW_p [(1, 0, 2)] (q := 1) (ls' := [(2, 27), (0, a), (0, b), (0, c)]) (st' := [(2, 27)]) (by decide +kernel) rfl ?_
  refine zwW_gs C.1 (kd := 2) (bn := 0) (n := 10) (t := 0) (lo := 0) (hi := 8) (nx := 4) (by decide +kernel) ?_
  intro v1 ev1 lv1 uv1
  refine zwW_p [(0, 8, 0)] (q := 6) (ls' := [(2, 27), (0, a), (0, b), (0, c)]) (st' := [(0, 8), (0, v1)]) (by decide +kernel) rfl ?_
  refine zwic_ge (q := 49) (nx := 9) (by decide +kernel) (fun c2 => ?_) (fun c2 => ?_)
  · refine zwW_retv (nx := 50) (a := 0) (b := 0) (by decide +kernel) ?_
    exact ⟨C, X.le (by decide) (by decide), by omega⟩
  · refine zwW_p [(1, 0, 2)] (q := 10) (ls' := [(2, 27), (0, a), (0, b), (0, c)]) (st' := [(2, 27)]) (by decide +kernel) rfl ?_
    refine zwW_gc C.1 (kd := 2) (bn := 4) (n := 10) (c := 28) (nx := 13) (by decide +kernel) ?_
    refine zwW_p [(1, 0, 2)] (q := 14) (ls' := [(2, 27), (0, a), (0, b), (0, c)]) (st' := [(2, 27), (2, 28)]) (by decide +kernel) rfl ?_
    refine zwW_gs C.1 (kd := 2) (bn := 0) (n := 10) (t := 0) (lo := 0) (hi := 8) (nx := 17) (by decide +kernel) ?_
    intro v3 ev3 lv3 uv3
    refine zwW_p [(1, 1, 0)] (q := 18) (ls' := [(2, 27), (0, a), (0, b), (0, c)]) (st' := [(0, a), (0, v3), (2, 28)]) (by decide +kernel) rfl ?_
    refine zwW_as C.1 (a1 := 28) (a2 := 28) (n := 8) (lo := -2147483648) (hi := 2147483647) (nx := 19) (by decide +kernel) (by first | decide | exact ⟨by decide, by decide⟩) (by first | omega | exact ⟨by omega, by omega⟩) (by first | omega | exact ⟨by omega, by omega⟩) ?_
    intro h4 eh4 Ih4
    have Ch4 : CI h4 := C.wc eh4 Ih4 (by decide) (by decide)
    have Qh4 : zXR [(28, 28, 0, 8)] 0 0 h h4 := zXR.wc eh4 rfl ⟨by decide, by decide, Or.inl (by decide)⟩ (by first | omega | exact ⟨by omega, by omega⟩)
    have Xh4 : zXR msx161 (0) (0) h h4 := X.tr (c2 := 0) (s2 := 0) Qh4 (by decide +kernel) (by decide) (by decide)
    have th4_27_0 : fld h4 27 0 = fld h 27 0 := Qh4.f (a1 := 27) (a2 := 27) (j1 := 0) (j2 := 1) (by decide +kernel) (by first | decide | exact ⟨by decide, by decide⟩) (by first | decide | exact ⟨by decide, by decide⟩) (by first | decide | exact ⟨by decide, by decide⟩)
    refine zwW_p [(1, 0, 2)] (q := 20) (ls' := [(2, 27), (0, a), (0, b), (0, c)]) (st' := [(2, 27)]) (by decide +kernel) rfl ?_
    refine zwW_gc Ch4.1 (kd := 2) (bn := 5) (n := 10) (c := 29) (nx := 23) (by decide +kernel) ?_
    refine zwW_p [(1, 0, 2)] (q := 24) (ls' := [(2, 27), (0, a), (0, b), (0, c)]) (st' := [(2, 27), (2, 29)]) (by decide +kernel) rfl ?_
    refine zwW_gs Ch4.1 (kd := 2) (bn := 0) (n := 10) (t := 0) (lo := 0) (hi := 8) (nx := 27) (by decide +kernel) ?_
    intro v5 ev5 lv5 uv5
    refine zwW_p [(1, 2, 0)] (q := 28) (ls' := [(2, 27), (0, a), (0, b), (0, c)]) (st' := [(0, b), (0, v5), (2, 29)]) (by decide +kernel) rfl ?_
    refine zwW_as Ch4.1 (a1 := 29) (a2 := 29) (n := 8) (lo := -2147483648) (hi := 2147483647) (nx := 29) (by decide +kernel) (by first | decide | exact ⟨by decide, by decide⟩) (by first | omega | exact ⟨by omega, by omega⟩) (by first | omega | exact ⟨by omega, by omega⟩) ?_
    intro h6 eh6 Ih6
    have Ch6 : CI h6 := Ch4.wc eh6 Ih6 (by decide) (by decide)
    have Qh6 : zXR [(29, 29, 0, 8)] 0 0 h4 h6 := zXR.wc eh6 rfl ⟨by decide, by decide, Or.inl (by decide)⟩ (by first | omega | exact ⟨by omega, by omega⟩)
    have Xh6 : zXR msx161 (0) (0) h h6 := Xh4.tr (c2 := 0) (s2 := 0) Qh6 (by decide +kernel) (by decide) (by decide)
    have th6_27_0 : fld h6 27 0 = fld h4 27 0 := Qh6.f (a1 := 27) (a2 := 27) (j1 := 0) (j2 := 1) (by decide +kernel) (by first | decide | exact ⟨by decide, by decide⟩) (by first | decide | exact ⟨by decide, by decide⟩) (by first | decide | exact ⟨by decide, by decide⟩)
    refine zwW_p [(1, 0, 2)] (q := 30) (ls' := [(2, 27), (0, a), (0, b), (0, c)]) (st' := [(2, 27)]) (by decide +kernel) rfl ?_
    refine zwW_gc Ch6.1 (kd := 2) (bn := 6) (n := 10) (c := 30) (nx := 33) (by decide +kernel) ?_
    refine zwW_p [(1, 0, 2)] (q := 34) (ls' := [(2, 27), (0, a), (0, b), (0, c)]) (st' := [(2, 27), (2, 30)]) (by decide +kernel) rfl ?_
    refine zwW_gs Ch6.1 (kd := 2) (bn := 0) (n := 10) (t := 0) (lo := 0) (hi := 8) (nx := 37) (by decide +kernel) ?_
    intro v7 ev7 lv7 uv7
    refine zwW_p [(1, 3, 0)] (q := 38) (ls' := [(2, 27), (0, a), (0, b), (0, c)]) (st' := [(0, c), (0, v7), (2, 30)]) (by decide +kernel) rfl ?_
    refine zwW_as Ch6.1 (a1 := 30) (a2 := 30) (n := 8) (lo := -2147483648) (hi := 2147483647) (nx := 39) (by decide +kernel) (by first | decide | exact ⟨by decide, by decide⟩) (by first | omega | exact ⟨by omega, by omega⟩) (by first | omega | exact ⟨by omega, by omega⟩) ?_
    intro h8 eh8 Ih8
    have Ch8 : CI h8 := Ch6.wc eh8 Ih8 (by decide) (by decide)
    have Qh8 : zXR [(30, 30, 0, 8)] 0 0 h6 h8 := zXR.wc eh8 rfl ⟨by decide, by decide, Or.inl (by decide)⟩ (by first | omega | exact ⟨by omega, by omega⟩)
    have Xh8 : zXR msx161 (0) (0) h h8 := Xh6.tr (c2 := 0) (s2 := 0) Qh8 (by decide +kernel) (by decide) (by decide)
    have th8_27_0 : fld h8 27 0 = fld h6 27 0 := Qh8.f (a1 := 27) (a2 := 27) (j1 := 0) (j2 := 1) (by decide +kernel) (by first | decide | exact ⟨by decide, by decide⟩) (by first | decide | exact ⟨by decide, by decide⟩) (by first | decide | exact ⟨by decide, by decide⟩)
    refine zwW_p [(1, 0, 2), (12, 0, 0)] (q := 41) (ls' := [(2, 27), (0, a), (0, b), (0, c)]) (st' := [(2, 27), (2, 27)]) (by decide +kernel) rfl ?_
    refine zwW_gs Ch8.1 (kd := 2) (bn := 0) (n := 10) (t := 0) (lo := 0) (hi := 8) (nx := 44) (by decide +kernel) ?_
    intro v9 ev9 lv9 uv9
    refine zwW_p [(0, 1, 0)] (q := 45) (ls' := [(2, 27), (0, a), (0, b), (0, c)]) (st' := [(0, 1), (0, v9), (2, 27)]) (by decide +kernel) rfl ?_
    refine zwW_add (nx := 46) (by decide +kernel) (by first | omega | exact ⟨by omega, by omega⟩) ?_
    refine zwW_ps Ch8.1 (kd := 2) (bn := 0) (n := 10) (lo := 0) (hi := 8) (nx := 49) (by decide +kernel) (by first | omega | exact ⟨by omega, by omega⟩) ?_
    intro h10 eh10 Ih10
    have Ch10 : CI h10 := Ch8.wc eh10 Ih10 (by decide) (by decide)
    have Qh10 : zXR [(27, 27, 0, 1)] 0 0 h8 h10 := zXR.wc eh10 rfl ⟨by decide, by decide, Or.inl (by decide)⟩ (by first | decide | exact ⟨by decide, by decide⟩)
    have Xh10 : zXR msx161 (0) (0) h h10 := Xh8.tr (c2 := 0) (s2 := 0) Qh10 (by decide +kernel) (by decide) (by decide)
    have th10_27_0 : fld h10 27 0 = (v9 + 1) := by rw [eh10]; exact fld_wr_eq (Ch8.1.s (a1 := 27) (a2 := 27) (k := 2) (n := 10) (by decide +kernel) (by decide) (by decide)) (by decide)
    refine zwW_retv (nx := 50) (a := 0) (b := 0) (by decide +kernel) ?_
    exact ⟨Ch10, Xh10.le (by decide) (by decide), by omega⟩
-- WheelLand$Gifts.priceOf(I)I
theorem x216 {sc : List Int} (h : Hp) (C : CI h) (a : Int) (q_a : -2147483648 ≤ a ∧ a ≤ 2147483647) : zwC sc 1 216 [(2, 27), (0, a)] h (zwRt 0 (fun x g => h = g ∧ (-2147483648 ≤ x ∧ x ≤ 2147483647))) := by
  refine zwC_of (D := 0) 4 (by decide +kernel) rfl (ls := [(2, 27), (0, a), (9, 0), (9, 0)]) rfl ?_
  refine zwW_p [(0, 0, 0), (2, 2, 0), (0, 0, 0), (2, 3, 0)] (q := 4) (ls' := [(2, 27), (0, a), (0, 0), (0, 0)]) (st' := []) (by decide +kernel) rfl ?_
  have L1 : ∀ (n : Nat) (v2L1 v3L1 : Int), n = ((1000 - v3L1)).toNat → (-2147483648 ≤ v2L1 ∧ v2L1 ≤ 2147483647) → (0 ≤ v3L1 ∧ v3L1 ≤ 1000) → zwW sc (0) 216 4 [(2, 27), (0, a), (0, v2L1), (0, v3L1)] [] h (zwRt 0 (fun x g => h = g ∧ (-2147483648 ≤ x ∧ x ≤ 2147483647))) := by
    intro n
    induction n using Nat.strongRecOn with
    | ind n IHL1 =>
      intro v2L1 v3L1 hnL1 iL1_0 iL1_1
      refine zwW_p [(1, 3, 0), (1, 0, 2)] (q := 6) (ls' := [(2, 27), (0, a), (0, v2L1), (0, v3L1)]) (st' := [(2, 27), (0, v3L1)]) (by decide +kernel) rfl ?_
      refine zwW_gs C.1 (kd := 2) (bn := 0) (n := 10) (t := 0) (lo := 0) (hi := 8) (nx := 9) (by decide +kernel) ?_
      intro v2 ev2 lv2 uv2
      refine zwic_ge (q := 41) (nx := 12) (by decide +kernel) (fun c3 => ?_) (fun c3 => ?_)
      · refine zwW_p [(1, 2, 0)] (q := 42) (ls' := [(2, 27), (0, a), (0, v2L1), (0, v3L1)]) (st' := [(0, v2L1)]) (by decide +kernel) rfl ?_
        refine zwW_ret (nx := 43) (a := 0) (b := 0) (by decide +kernel) rfl (Or.inl rfl) ?_
        exact ⟨rfl, by omega⟩
      · refine zwW_p [(1, 3, 0), (0, 8, 0)] (q := 15) (ls' := [(2, 27), (0, a), (0, v2L1), (0, v3L1)]) (st' := [(0, 8), (0, v3L1)]) (by decide +kernel) rfl ?_
        refine zwic_ge (q := 41) (nx := 18) (by decide +kernel) (fun c4 => ?_) (fun c4 => ?_)
        · exfalso; omega
        · refine zwW_p [(1, 1, 0), (1, 3, 0)] (q := 20) (ls' := [(2, 27), (0, a), (0, v2L1), (0, v3L1)]) (st' := [(0, v3L1), (0, a)]) (by decide +kernel) rfl ?_
          refine zwW_any2 (a := 9) (nx := 21) (by decide +kernel) rfl (by first | omega | exact ⟨by omega, by omega⟩) (Or.inr (by first | decide | exact ⟨by decide, by decide⟩)) ?_
          intro v5 lv5 uv5
          refine zwW_p [(0, 1, 0)] (q := 22) (ls' := [(2, 27), (0, a), (0, v2L1), (0, v3L1)]) (st' := [(0, 1), (0, v5)]) (by decide +kernel) rfl ?_
          refine zwW_any2 (a := 5) (nx := 23) (by decide +kernel) rfl (by first | omega | exact ⟨by omega, by omega⟩) (Or.inr (by first | decide | exact ⟨by decide, by decide⟩)) ?_
          intro v6 lv6 uv6
          refine zwif_eq (q := 35) (nx := 26) (by decide +kernel) (fun c7 => ?_) (fun c7 => ?_)
          · refine zwW_inc (i := 3) (c := 1) (x := v3L1) (nx := 38) (by decide +kernel) rfl (by first | omega | exact ⟨by omega, by omega⟩) (ls' := [(2, 27), (0, a), (0, v2L1), (0, (v3L1 + 1))]) rfl ?_
            refine zwW_p [(24, 4, 0)] (q := 4) (ls' := [(2, 27), (0, a), (0, v2L1), (0, (v3L1 + 1))]) (st' := []) (by decide +kernel) rfl ?_
            exact IHL1 ((1000 - (v3L1 + 1))).toNat (by omega) v2L1 (v3L1 + 1) rfl (by omega) (by omega)
          · refine zwW_p [(1, 2, 0), (1, 0, 2)] (q := 28) (ls' := [(2, 27), (0, a), (0, v2L1), (0, v3L1)]) (st' := [(2, 27), (0, v2L1)]) (by decide +kernel) rfl ?_
            refine zwW_gc C.1 (kd := 2) (bn := 4) (n := 10) (c := 28) (nx := 31) (by decide +kernel) ?_
            refine zwW_p [(1, 3, 0)] (q := 32) (ls' := [(2, 27), (0, a), (0, v2L1), (0, v3L1)]) (st' := [(0, v3L1), (2, 28), (0, v2L1)]) (by decide +kernel) rfl ?_
            refine zwW_al C.1 (a1 := 28) (a2 := 28) (kd := 20) (n := 8) (t := 0) (lo := -2147483648) (hi := 2147483647) (nx := 33) (by decide +kernel) (by first | decide | exact ⟨by decide, by decide⟩) (by first | omega | exact ⟨by omega, by omega⟩) ?_
            intro v8 ev8 lv8 uv8
            refine zwW_adw (nx := 34) (by decide +kernel) ?_
            intro v9 ev9 lv9 uv9
            refine zwW_p [(2, 2, 0)] (q := 35) (ls' := [(2, 27), (0, a), (0, v9), (0, v3L1)]) (st' := []) (by decide +kernel) rfl ?_
            refine zwW_inc (i := 3) (c := 1) (x := v3L1) (nx := 38) (by decide +kernel) rfl (by first | omega | exact ⟨by omega, by omega⟩) (ls' := [(2, 27), (0, a), (0, v9), (0, (v3L1 + 1))]) rfl ?_
            refine zwW_p [(24, 4, 0)] (q := 4) (ls' := [(2, 27), (0, a), (0, v9), (0, (v3L1 + 1))]) (st' := []) (by decide +kernel) rfl ?_
            exact IHL1 ((1000 - (v3L1 + 1))).toNat (by omega) v9 (v3L1 + 1) rfl (by omega) (by omega)
  exact L1 _ 0 0 rfl (by omega) (by omega)
def msx217 : Zms := [(31, 31, 0, 20), (32, 32, 0, 20), (33, 33, 0, 8)]
-- WheelLand$Gifts.standAsNow(Ljava/util/ArrayList;Ljava/util/ArrayList;)V
theorem x217 {sc : List Int} (h : Hp) (C : CI h) : zwC sc 5 217 [(2, 27), (2, 2), (2, 3)] h (zwRv (fun g => CI g ∧ zXR msx217 (0) (0) h g)) := by
  refine zwC_of (D := 4) 4 (by decide +kernel) rfl (ls := [(2, 27), (2, 2), (2, 3), (9, 0)]) rfl ?_
  have X : zXR msx217 0 0 h h := zXR.rf _ _
  refine zwW_p [(0, 0, 0), (2, 3, 0)] (q := 2) (ls' := [(2, 27), (2, 2), (2, 3), (0, 0)]) (st' := []) (by decide +kernel) rfl ?_
  have L1 : ∀ (n : Nat) (v3L1 : Int) (hL1 : Hp), n = ((1000 - v3L1)).toNat → (0 ≤ v3L1 ∧ v3L1 ≤ 1000) → CI hL1 → zXR msx217 (0) (0) h hL1 → zwW sc (4) 217 2 [(2, 27), (2, 2), (2, 3), (0, v3L1)] [] hL1 (zwRv (fun g => CI g ∧ zXR msx217 (0) (0) h g)) := by
    intro n
    induction n using Nat.strongRecOn with
    | ind n IHL1 =>
      intro v3L1 hL1 hnL1 iL1_0 ChL1 XhL1
      refine zwW_p [(1, 3, 0), (1, 2, 2)] (q := 4) (ls' := [(2, 27), (2, 2), (2, 3), (0, v3L1)]) (st' := [(2, 3), (0, v3L1)]) (by decide +kernel) rfl ?_
      refine zwW_cm ChL1.1 (op := 60) (k' := 96) (n := 0) (kd := 0) (m := 3) (nx := 7) (r := 3) (tl := []) (st' := [(0, v3L1)]) (by decide +kernel) rfl (by decide +kernel) rfl (x96_3 ChL1) ?_
      rintro v2 _ ⟨rfl, ev2⟩
      have bv2 := zLb_3 ChL1
      refine zwic_ge (q := 56) (nx := 10) (by decide +kernel) (fun c3 => ?_) (fun c3 => ?_)
      · refine zwW_p [(0, 0, 0), (2, 3, 0)] (q := 58) (ls' := [(2, 27), (2, 2), (2, 3), (0, 0)]) (st' := []) (by decide +kernel) rfl ?_
        have L4 : ∀ (n : Nat) (v3L4 : Int) (hL4 : Hp), n = ((1000 - v3L4)).toNat → (0 ≤ v3L4 ∧ v3L4 ≤ 1000) → CI hL4 → zXR msx217 (0) (0) h hL4 → zwW sc (4) 217 58 [(2, 27), (2, 2), (2, 3), (0, v3L4)] [] hL4 (zwRv (fun g => CI g ∧ zXR msx217 (0) (0) h g)) := by
          intro n
          induction n using Nat.strongRecOn with
          | ind n IHL4 =>
            intro v3L4 hL4 hnL4 iL4_0 ChL4 XhL4
            refine zwW_p [(1, 3, 0), (1, 1, 2)] (q := 60) (ls' := [(2, 27), (2, 2), (2, 3), (0, v3L4)]) (st' := [(2, 2), (0, v3L4)]) (by decide +kernel) rfl ?_
            refine zwW_cm ChL4.1 (op := 60) (k' := 96) (n := 0) (kd := 0) (m := 3) (nx := 63) (r := 2) (tl := []) (st' := [(0, v3L4)]) (by decide +kernel) rfl (by decide +kernel) rfl (x96_2 ChL4) ?_
            rintro v5 _ ⟨rfl, ev5⟩
            have bv5 := zLb_2 ChL4
            refine zwic_ge (q := 95) (nx := 66) (by decide +kernel) (fun c6 => ?_) (fun c6 => ?_)
            · refine zwW_retv (nx := 96) (a := 0) (b := 0) (by decide +kernel) ?_
              exact ⟨ChL4, XhL4.le (by decide) (by decide)⟩
            · refine zwW_p [(1, 3, 0), (0, 8, 0)] (q := 69) (ls' := [(2, 27), (2, 2), (2, 3), (0, v3L4)]) (st' := [(0, 8), (0, v3L4)]) (by decide +kernel) rfl ?_
              refine zwic_ge (q := 95) (nx := 72) (by decide +kernel) (fun c7 => ?_) (fun c7 => ?_)
              · exfalso; omega
              · refine zwW_p [(1, 0, 2)] (q := 73) (ls' := [(2, 27), (2, 2), (2, 3), (0, v3L4)]) (st' := [(2, 27)]) (by decide +kernel) rfl ?_
                refine zwW_gc ChL4.1 (kd := 2) (bn := 9) (n := 10) (c := 33) (nx := 76) (by decide +kernel) ?_
                refine zwW_p [(1, 3, 0), (1, 1, 2), (1, 3, 0)] (q := 79) (ls' := [(2, 27), (2, 2), (2, 3), (0, v3L4)]) (st' := [(0, v3L4), (2, 2), (0, v3L4), (2, 33)]) (by decide +kernel) rfl ?_
                refine zwW_cm ChL4.1 (op := 60) (k' := 123) (n := 1) (kd := 0) (m := 3) (nx := 82) (r := 2) (tl := [(0, v3L4)]) (st' := [(0, v3L4), (2, 33)]) (by decide +kernel) rfl (by decide +kernel) rfl (x123_2 ChL4 (i := v3L4) (by first | omega | exact ⟨by omega, by omega⟩)) ?_
                rintro v8 _ ⟨rfl, Gv8, ev8⟩
                have lv8 := Gv8.1
                refine zwW_cast (a := 11) (kd := 11) (n := 17) (nx := 85) (by decide +kernel) rfl (Or.inr Gv8.2.1) ?_
                refine zwX_gi ChL4 (kd := 11) (bn := 3) (n := 17) (nx := 88) (by decide +kernel) Gv8.2.1 Gv8.1 rfl ?_
                intro v9 ev9 lv9 uv9
                refine zwW_as ChL4.1 (a1 := 33) (a2 := 33) (n := 8) (lo := -2147483648) (hi := 2147483647) (nx := 89) (by decide +kernel) (by first | decide | exact ⟨by decide, by decide⟩) (by first | omega | exact ⟨by omega, by omega⟩) (by first | omega | exact ⟨by omega, by omega⟩) ?_
                intro h10 eh10 Ih10
                have Ch10 : CI h10 := ChL4.wc eh10 Ih10 (by decide) (by decide)
                have Qh10 : zXR [(33, 33, 0, 8)] 0 0 hL4 h10 := zXR.wc eh10 rfl ⟨by decide, by decide, Or.inl (by decide)⟩ (by first | omega | exact ⟨by omega, by omega⟩)
                have Xh10 : zXR msx217 (0) (0) h h10 := XhL4.tr (c2 := 0) (s2 := 0) Qh10 (by decide +kernel) (by decide) (by decide)
                have th10_2_2 : fld h10 2 2 = fld hL4 2 2 := Qh10.f (a1 := 2) (a2 := 2) (j1 := 2) (j2 := 3) (by decide +kernel) (by first | decide | exact ⟨by decide, by decide⟩) (by first | decide | exact ⟨by decide, by decide⟩) (by first | decide | exact ⟨by decide, by decide⟩)
                have th10_3_2 : fld h10 3 2 = fld hL4 3 2 := Qh10.f (a1 := 3) (a2 := 3) (j1 := 2) (j2 := 3) (by decide +kernel) (by first | decide | exact ⟨by decide, by decide⟩) (by first | decide | exact ⟨by decide, by decide⟩) (by first | decide | exact ⟨by decide, by decide⟩)
                refine zwW_inc (i := 3) (c := 1) (x := v3L4) (nx := 92) (by decide +kernel) rfl (by first | omega | exact ⟨by omega, by omega⟩) (ls' := [(2, 27), (2, 2), (2, 3), (0, (v3L4 + 1))]) rfl ?_
                refine zwW_p [(24, 58, 0)] (q := 58) (ls' := [(2, 27), (2, 2), (2, 3), (0, (v3L4 + 1))]) (st' := []) (by decide +kernel) rfl ?_
                exact IHL4 ((1000 - (v3L4 + 1))).toNat (by omega) (v3L4 + 1) h10 rfl (by omega) Ch10 (Xh10.le (by decide) (by decide))
        exact L4 _ 0 hL1 rfl (by omega) ChL1 (XhL1.le (by decide) (by decide))
      · refine zwW_p [(1, 3, 0), (0, 20, 0)] (q := 13) (ls' := [(2, 27), (2, 2), (2, 3), (0, v3L1)]) (st' := [(0, 20), (0, v3L1)]) (by decide +kernel) rfl ?_
        refine zwic_ge (q := 56) (nx := 16) (by decide +kernel) (fun c11 => ?_) (fun c11 => ?_)
        · exfalso; omega
        · refine zwW_p [(1, 0, 2)] (q := 17) (ls' := [(2, 27), (2, 2), (2, 3), (0, v3L1)]) (st' := [(2, 27)]) (by decide +kernel) rfl ?_
          refine zwW_gc ChL1.1 (kd := 2) (bn := 7) (n := 10) (c := 31) (nx := 20) (by decide +kernel) ?_
          refine zwW_p [(1, 3, 0), (1, 2, 2), (1, 3, 0)] (q := 23) (ls' := [(2, 27), (2, 2), (2, 3), (0, v3L1)]) (st' := [(0, v3L1), (2, 3), (0, v3L1), (2, 31)]) (by decide +kernel) rfl ?_
          refine zwW_cm ChL1.1 (op := 60) (k' := 123) (n := 1) (kd := 0) (m := 3) (nx := 26) (r := 3) (tl := [(0, v3L1)]) (st' := [(0, v3L1), (2, 31)]) (by decide +kernel) rfl (by decide +kernel) rfl (x123_3 ChL1 (i := v3L1) (by first | omega | exact ⟨by omega, by omega⟩)) ?_
          rintro v12 _ ⟨rfl, Gv12, ev12⟩
          have lv12 := Gv12.1
          refine zwW_cast (a := 4) (kd := 4) (n := 19) (nx := 29) (by decide +kernel) rfl (Or.inr Gv12.2.1) ?_
          refine zwX_gi ChL1 (kd := 4) (bn := 2) (n := 19) (nx := 32) (by decide +kernel) Gv12.2.1 Gv12.1 rfl ?_
          intro v13 ev13 lv13 uv13
          refine zwW_as ChL1.1 (a1 := 31) (a2 := 31) (n := 20) (lo := -2147483648) (hi := 2147483647) (nx := 33) (by decide +kernel) (by first | decide | exact ⟨by decide, by decide⟩) (by first | omega | exact ⟨by omega, by omega⟩) (by first | omega | exact ⟨by omega, by omega⟩) ?_
          intro h14 eh14 Ih14
          have Ch14 : CI h14 := ChL1.wc eh14 Ih14 (by decide) (by decide)
          have Qh14 : zXR [(31, 31, 0, 20)] 0 0 hL1 h14 := zXR.wc eh14 rfl ⟨by decide, by decide, Or.inl (by decide)⟩ (by first | omega | exact ⟨by omega, by omega⟩)
          have Xh14 : zXR msx217 (0) (0) h h14 := XhL1.tr (c2 := 0) (s2 := 0) Qh14 (by decide +kernel) (by decide) (by decide)
          have th14_2_2 : fld h14 2 2 = fld hL1 2 2 := Qh14.f (a1 := 2) (a2 := 2) (j1 := 2) (j2 := 3) (by decide +kernel) (by first | decide | exact ⟨by decide, by decide⟩) (by first | decide | exact ⟨by decide, by decide⟩) (by first | decide | exact ⟨by decide, by decide⟩)
          have th14_3_2 : fld h14 3 2 = fld hL1 3 2 := Qh14.f (a1 := 3) (a2 := 3) (j1 := 2) (j2 := 3) (by decide +kernel) (by first | decide | exact ⟨by decide, by decide⟩) (by first | decide | exact ⟨by decide, by decide⟩) (by first | decide | exact ⟨by decide, by decide⟩)
          refine zwW_p [(1, 0, 2)] (q := 34) (ls' := [(2, 27), (2, 2), (2, 3), (0, v3L1)]) (st' := [(2, 27)]) (by decide +kernel) rfl ?_
          refine zwW_gc Ch14.1 (kd := 2) (bn := 8) (n := 10) (c := 32) (nx := 37) (by decide +kernel) ?_
          refine zwW_p [(1, 3, 0), (1, 2, 2), (1, 3, 0)] (q := 40) (ls' := [(2, 27), (2, 2), (2, 3), (0, v3L1)]) (st' := [(0, v3L1), (2, 3), (0, v3L1), (2, 32)]) (by decide +kernel) rfl ?_
          refine zwW_cm Ch14.1 (op := 60) (k' := 123) (n := 1) (kd := 0) (m := 3) (nx := 43) (r := 3) (tl := [(0, v3L1)]) (st' := [(0, v3L1), (2, 32)]) (by decide +kernel) rfl (by decide +kernel) rfl (x123_3 Ch14 (i := v3L1) (by first | omega | exact ⟨by omega, by omega⟩)) ?_
          rintro v15 _ ⟨rfl, Gv15, ev15⟩
          have lv15 := Gv15.1
          refine zwW_cast (a := 4) (kd := 4) (n := 19) (nx := 46) (by decide +kernel) rfl (Or.inr Gv15.2.1) ?_
          refine zwX_gi Ch14 (kd := 4) (bn := 3) (n := 19) (nx := 49) (by decide +kernel) Gv15.2.1 Gv15.1 rfl ?_
          intro v16 ev16 lv16 uv16
          refine zwW_as Ch14.1 (a1 := 32) (a2 := 32) (n := 20) (lo := -2147483648) (hi := 2147483647) (nx := 50) (by decide +kernel) (by first | decide | exact ⟨by decide, by decide⟩) (by first | omega | exact ⟨by omega, by omega⟩) (by first | omega | exact ⟨by omega, by omega⟩) ?_
          intro h17 eh17 Ih17
          have Ch17 : CI h17 := Ch14.wc eh17 Ih17 (by decide) (by decide)
          have Qh17 : zXR [(32, 32, 0, 20)] 0 0 h14 h17 := zXR.wc eh17 rfl ⟨by decide, by decide, Or.inl (by decide)⟩ (by first | omega | exact ⟨by omega, by omega⟩)
          have Xh17 : zXR msx217 (0) (0) h h17 := Xh14.tr (c2 := 0) (s2 := 0) Qh17 (by decide +kernel) (by decide) (by decide)
          have th17_2_2 : fld h17 2 2 = fld h14 2 2 := Qh17.f (a1 := 2) (a2 := 2) (j1 := 2) (j2 := 3) (by decide +kernel) (by first | decide | exact ⟨by decide, by decide⟩) (by first | decide | exact ⟨by decide, by decide⟩) (by first | decide | exact ⟨by decide, by decide⟩)
          have th17_3_2 : fld h17 3 2 = fld h14 3 2 := Qh17.f (a1 := 3) (a2 := 3) (j1 := 2) (j2 := 3) (by decide +kernel) (by first | decide | exact ⟨by decide, by decide⟩) (by first | decide | exact ⟨by decide, by decide⟩) (by first | decide | exact ⟨by decide, by decide⟩)
          refine zwW_inc (i := 3) (c := 1) (x := v3L1) (nx := 53) (by decide +kernel) rfl (by first | omega | exact ⟨by omega, by omega⟩) (ls' := [(2, 27), (2, 2), (2, 3), (0, (v3L1 + 1))]) rfl ?_
          refine zwW_p [(24, 2, 0)] (q := 2) (ls' := [(2, 27), (2, 2), (2, 3), (0, (v3L1 + 1))]) (st' := []) (by decide +kernel) rfl ?_
          exact IHL1 ((1000 - (v3L1 + 1))).toNat (by omega) (v3L1 + 1) h17 rfl (by omega) Ch17 (Xh17.le (by decide) (by decide))
  exact L1 _ 0 h rfl (by omega) C (X.le (by decide) (by decide))
def msx254 : Zms := [(31, 31, 0, 20), (32, 32, 0, 20), (33, 33, 0, 8)]
-- WheelLand$Gifts.giveOne(III)V
theorem x254 {sc : List Int} (h : Hp) (C : CI h) (a b c : Int) (q_a : -2147483648 ≤ a ∧ a ≤ 2147483647) (q_b : -2147483648 ≤ b ∧ b ≤ 2147483647) (q_c : -2147483648 ≤ c ∧ c ≤ 2147483647) : zwC sc 2 254 [(2, 27), (0, a), (0, b), (0, c)] h (zwRv (fun g => CI g ∧ zXR msx254 (0) (0) h g)) := by
  refine zwC_of (D := 1) 4 (by decide +kernel) rfl (ls := [(2, 27), (0, a), (0, b), (0, c)]) rfl ?_
  have X : zXR msx254 0 0 h h := zXR.rf _ _
  refine zwW_p [(1, 1, 0), (0, 0, 0), (0, 19, 0)] (q := 4) (ls' := [(2, 27), (0, a), (0, b), (0, c)]) (st' := [(0, 19), (0, 0), (0, a)]) (by decide +kernel) rfl ?_
  refine zwW_cs (k' := 98) (n := 3) (nx := 7) (as := [(0, a), (0, 0), (0, 19)]) (st' := []) (by decide +kernel) rfl (x98 h C a 0 19 (by omega) (by omega) (by omega)) rfl ?_
  rintro x _ ⟨rfl, ⟨rfl, c1⟩ | ⟨rfl, c1⟩⟩
  · refine zwif_ne (q := 20) (nx := 10) (by decide +kernel) (fun c2 => ?_) (fun c2 => ?_)
    · refine zwW_retv (nx := 21) (a := 0) (b := 0) (by decide +kernel) ?_
      exact ⟨C, X.le (by decide) (by decide)⟩
    · exfalso; omega
  · refine zwif_ne (q := 20) (nx := 10) (by decide +kernel) (fun c3 => ?_) (fun c3 => ?_)
    · exfalso; omega
    · refine zwW_p [(1, 2, 0), (0, 0, 0), (0, 7, 0)] (q := 14) (ls' := [(2, 27), (0, a), (0, b), (0, c)]) (st' := [(0, 7), (0, 0), (0, b)]) (by decide +kernel) rfl ?_
      refine zwW_cs (k' := 98) (n := 3) (nx := 17) (as := [(0, b), (0, 0), (0, 7)]) (st' := []) (by decide +kernel) rfl (x98 h C b 0 7 (by omega) (by omega) (by omega)) rfl ?_
      rintro x _ ⟨rfl, ⟨rfl, c4⟩ | ⟨rfl, c4⟩⟩
      · refine zwif_eq (q := 21) (nx := 20) (by decide +kernel) (fun c5 => ?_) (fun c5 => ?_)
        · exfalso; omega
        · refine zwW_retv (nx := 21) (a := 0) (b := 0) (by decide +kernel) ?_
          exact ⟨C, X.le (by decide) (by decide)⟩
      · refine zwif_eq (q := 21) (nx := 20) (by decide +kernel) (fun c6 => ?_) (fun c6 => ?_)
        · refine zwW_p [(1, 3, 0)] (q := 22) (ls' := [(2, 27), (0, a), (0, b), (0, c)]) (st' := [(0, c)]) (by decide +kernel) rfl ?_
          refine zwif_ne (q := 46) (nx := 25) (by decide +kernel) (fun c7 => ?_) (fun c7 => ?_)
          · refine zwW_p [(1, 3, 0), (0, 1, 0)] (q := 48) (ls' := [(2, 27), (0, a), (0, b), (0, c)]) (st' := [(0, 1), (0, c)]) (by decide +kernel) rfl ?_
            refine zwic_ne (q := 73) (nx := 51) (by decide +kernel) (fun c8 => ?_) (fun c8 => ?_)
            · refine zwW_p [(1, 0, 2)] (q := 74) (ls' := [(2, 27), (0, a), (0, b), (0, c)]) (st' := [(2, 27)]) (by decide +kernel) rfl ?_
              refine zwW_gc C.1 (kd := 2) (bn := 9) (n := 10) (c := 33) (nx := 77) (by decide +kernel) ?_
              refine zwW_p [(1, 2, 0), (1, 0, 2)] (q := 79) (ls' := [(2, 27), (0, a), (0, b), (0, c)]) (st' := [(2, 27), (0, b), (2, 33)]) (by decide +kernel) rfl ?_
              refine zwW_gc C.1 (kd := 2) (bn := 9) (n := 10) (c := 33) (nx := 82) (by decide +kernel) ?_
              refine zwW_p [(1, 2, 0)] (q := 83) (ls' := [(2, 27), (0, a), (0, b), (0, c)]) (st' := [(0, b), (2, 33), (0, b), (2, 33)]) (by decide +kernel) rfl ?_
              refine zwW_al C.1 (a1 := 33) (a2 := 33) (kd := 20) (n := 8) (t := 0) (lo := -2147483648) (hi := 2147483647) (nx := 84) (by decide +kernel) (by first | decide | exact ⟨by decide, by decide⟩) (by first | omega | exact ⟨by omega, by omega⟩) ?_
              intro v9 ev9 lv9 uv9
              refine zwW_p [(0, 5, 0)] (q := 85) (ls' := [(2, 27), (0, a), (0, b), (0, c)]) (st' := [(0, 5), (0, v9), (0, b), (2, 33)]) (by decide +kernel) rfl ?_
              refine zwW_adw (nx := 86) (by decide +kernel) ?_
              intro v10 ev10 lv10 uv10
              refine zwW_p [(0, 9999, 0)] (q := 89) (ls' := [(2, 27), (0, a), (0, b), (0, c)]) (st' := [(0, 9999), (0, v10), (0, b), (2, 33)]) (by decide +kernel) rfl ?_
              refine zwW_min (nx := 92) (by decide +kernel) rfl ?_
              intro v11 ev11
              refine zwW_as C.1 (a1 := 33) (a2 := 33) (n := 8) (lo := -2147483648) (hi := 2147483647) (nx := 93) (by decide +kernel) (by first | decide | exact ⟨by decide, by decide⟩) (by first | omega | exact ⟨by omega, by omega⟩) (by first | omega | exact ⟨by omega, by omega⟩) ?_
              intro h12 eh12 Ih12
              have Ch12 : CI h12 := C.wc eh12 Ih12 (by decide) (by decide)
              have Qh12 : zXR [(33, 33, 0, 8)] 0 0 h h12 := zXR.wc eh12 rfl ⟨by decide, by decide, Or.inl (by decide)⟩ (by first | omega | exact ⟨by omega, by omega⟩)
              have Xh12 : zXR msx254 (0) (0) h h12 := X.tr (c2 := 0) (s2 := 0) Qh12 (by decide +kernel) (by decide) (by decide)
              refine zwW_retv (nx := 94) (a := 0) (b := 0) (by decide +kernel) ?_
              exact ⟨Ch12, Xh12.le (by decide) (by decide)⟩
            · refine zwW_p [(1, 0, 2)] (q := 52) (ls' := [(2, 27), (0, a), (0, b), (0, c)]) (st' := [(2, 27)]) (by decide +kernel) rfl ?_
              refine zwW_gc C.1 (kd := 2) (bn := 8) (n := 10) (c := 32) (nx := 55) (by decide +kernel) ?_
              refine zwW_p [(1, 1, 0), (1, 0, 2)] (q := 57) (ls' := [(2, 27), (0, a), (0, b), (0, c)]) (st' := [(2, 27), (0, a), (2, 32)]) (by decide +kernel) rfl ?_
              refine zwW_gc C.1 (kd := 2) (bn := 8) (n := 10) (c := 32) (nx := 60) (by decide +kernel) ?_
              refine zwW_p [(1, 1, 0)] (q := 61) (ls' := [(2, 27), (0, a), (0, b), (0, c)]) (st' := [(0, a), (2, 32), (0, a), (2, 32)]) (by decide +kernel) rfl ?_
              refine zwW_al C.1 (a1 := 32) (a2 := 32) (kd := 20) (n := 20) (t := 0) (lo := -2147483648) (hi := 2147483647) (nx := 62) (by decide +kernel) (by first | decide | exact ⟨by decide, by decide⟩) (by first | omega | exact ⟨by omega, by omega⟩) ?_
              intro v13 ev13 lv13 uv13
              refine zwW_p [(0, 1, 0)] (q := 63) (ls' := [(2, 27), (0, a), (0, b), (0, c)]) (st' := [(0, 1), (0, v13), (0, a), (2, 32)]) (by decide +kernel) rfl ?_
              refine zwW_adw (nx := 64) (by decide +kernel) ?_
              intro v14 ev14 lv14 uv14
              refine zwW_p [(0, 9, 0)] (q := 66) (ls' := [(2, 27), (0, a), (0, b), (0, c)]) (st' := [(0, 9), (0, v14), (0, a), (2, 32)]) (by decide +kernel) rfl ?_
              refine zwW_min (nx := 69) (by decide +kernel) rfl ?_
              intro v15 ev15
              refine zwW_as C.1 (a1 := 32) (a2 := 32) (n := 20) (lo := -2147483648) (hi := 2147483647) (nx := 70) (by decide +kernel) (by first | decide | exact ⟨by decide, by decide⟩) (by first | omega | exact ⟨by omega, by omega⟩) (by first | omega | exact ⟨by omega, by omega⟩) ?_
              intro h16 eh16 Ih16
              have Ch16 : CI h16 := C.wc eh16 Ih16 (by decide) (by decide)
              have Qh16 : zXR [(32, 32, 0, 20)] 0 0 h h16 := zXR.wc eh16 rfl ⟨by decide, by decide, Or.inl (by decide)⟩ (by first | omega | exact ⟨by omega, by omega⟩)
              have Xh16 : zXR msx254 (0) (0) h h16 := X.tr (c2 := 0) (s2 := 0) Qh16 (by decide +kernel) (by decide) (by decide)
              refine zwW_p [(24, 93, 0)] (q := 93) (ls' := [(2, 27), (0, a), (0, b), (0, c)]) (st' := []) (by decide +kernel) rfl ?_
              refine zwW_retv (nx := 94) (a := 0) (b := 0) (by decide +kernel) ?_
              exact ⟨Ch16, Xh16.le (by decide) (by decide)⟩
          · refine zwW_p [(1, 0, 2)] (q := 26) (ls' := [(2, 27), (0, a), (0, b), (0, c)]) (st' := [(2, 27)]) (by decide +kernel) rfl ?_
            refine zwW_gc C.1 (kd := 2) (bn := 7) (n := 10) (c := 31) (nx := 29) (by decide +kernel) ?_
            refine zwW_p [(1, 1, 0), (1, 0, 2)] (q := 31) (ls' := [(2, 27), (0, a), (0, b), (0, c)]) (st' := [(2, 27), (0, a), (2, 31)]) (by decide +kernel) rfl ?_
            refine zwW_gc C.1 (kd := 2) (bn := 7) (n := 10) (c := 31) (nx := 34) (by decide +kernel) ?_
            refine zwW_p [(1, 1, 0)] (q := 35) (ls' := [(2, 27), (0, a), (0, b), (0, c)]) (st' := [(0, a), (2, 31), (0, a), (2, 31)]) (by decide +kernel) rfl ?_
            refine zwW_al C.1 (a1 := 31) (a2 := 31) (kd := 20) (n := 20) (t := 0) (lo := -2147483648) (hi := 2147483647) (nx := 36) (by decide +kernel) (by first | decide | exact ⟨by decide, by decide⟩) (by first | omega | exact ⟨by omega, by omega⟩) ?_
            intro v17 ev17 lv17 uv17
            refine zwW_p [(0, 1, 0)] (q := 37) (ls' := [(2, 27), (0, a), (0, b), (0, c)]) (st' := [(0, 1), (0, v17), (0, a), (2, 31)]) (by decide +kernel) rfl ?_
            refine zwW_adw (nx := 38) (by decide +kernel) ?_
            intro v18 ev18 lv18 uv18
            refine zwW_p [(0, 5, 0)] (q := 39) (ls' := [(2, 27), (0, a), (0, b), (0, c)]) (st' := [(0, 5), (0, v18), (0, a), (2, 31)]) (by decide +kernel) rfl ?_
            refine zwW_min (nx := 42) (by decide +kernel) rfl ?_
            intro v19 ev19
            refine zwW_as C.1 (a1 := 31) (a2 := 31) (n := 20) (lo := -2147483648) (hi := 2147483647) (nx := 43) (by decide +kernel) (by first | decide | exact ⟨by decide, by decide⟩) (by first | omega | exact ⟨by omega, by omega⟩) (by first | omega | exact ⟨by omega, by omega⟩) ?_
            intro h20 eh20 Ih20
            have Ch20 : CI h20 := C.wc eh20 Ih20 (by decide) (by decide)
            have Qh20 : zXR [(31, 31, 0, 20)] 0 0 h h20 := zXR.wc eh20 rfl ⟨by decide, by decide, Or.inl (by decide)⟩ (by first | omega | exact ⟨by omega, by omega⟩)
            have Xh20 : zXR msx254 (0) (0) h h20 := X.tr (c2 := 0) (s2 := 0) Qh20 (by decide +kernel) (by decide) (by decide)
            refine zwW_p [(24, 93, 0)] (q := 93) (ls' := [(2, 27), (0, a), (0, b), (0, c)]) (st' := []) (by decide +kernel) rfl ?_
            refine zwW_retv (nx := 94) (a := 0) (b := 0) (by decide +kernel) ?_
            exact ⟨Ch20, Xh20.le (by decide) (by decide)⟩
        · exfalso; omega
def msx218 : Zms := [(31, 31, 0, 20), (32, 32, 0, 20), (33, 33, 0, 8)]
-- WheelLand$Gifts.give(ILjava/util/ArrayList;)V
theorem x218 {sc : List Int} (h : Hp) (C : CI h) (a : Int) (q_a : -2147483648 ≤ a ∧ a ≤ 2147483647) : zwC sc 5 218 [(2, 27), (0, a), (2, 3)] h (zwRv (fun g => CI g ∧ zXR msx218 (0) (0) h g)) := by
  refine zwC_of (D := 4) 5 (by decide +kernel) rfl (ls := [(2, 27), (0, a), (2, 3), (9, 0), (9, 0)]) rfl ?_
  have X : zXR msx218 0 0 h h := zXR.rf _ _
  refine zwW_p [(0, 0, 0), (2, 3, 0)] (q := 2) (ls' := [(2, 27), (0, a), (2, 3), (0, 0), (9, 0)]) (st' := []) (by decide +kernel) rfl ?_
  have L1 : ∀ (n : Nat) (v3L1 : Int) (w4L1 : Vl) (hL1 : Hp), n = ((1000 - v3L1)).toNat → (0 ≤ v3L1 ∧ v3L1 ≤ 1000) → CI hL1 → zXR msx218 (0) (0) h hL1 → zwW sc (4) 218 2 [(2, 27), (0, a), (2, 3), (0, v3L1), w4L1] [] hL1 (zwRv (fun g => CI g ∧ zXR msx218 (0) (0) h g)) := by
    intro n
    induction n using Nat.strongRecOn with
    | ind n IHL1 =>
      intro v3L1 w4L1 hL1 hnL1 iL1_0 ChL1 XhL1
      refine zwW_p [(1, 3, 0), (1, 0, 2)] (q := 4) (ls' := [(2, 27), (0, a), (2, 3), (0, v3L1), w4L1]) (st' := [(2, 27), (0, v3L1)]) (by decide +kernel) rfl ?_
      refine zwW_gs ChL1.1 (kd := 2) (bn := 0) (n := 10) (t := 0) (lo := 0) (hi := 8) (nx := 7) (by decide +kernel) ?_
      intro v2 ev2 lv2 uv2
      refine zwic_ge (q := 79) (nx := 10) (by decide +kernel) (fun c3 => ?_) (fun c3 => ?_)
      · refine zwW_retv (nx := 80) (a := 0) (b := 0) (by decide +kernel) ?_
        exact ⟨ChL1, XhL1.le (by decide) (by decide)⟩
      · refine zwW_p [(1, 3, 0), (0, 8, 0)] (q := 13) (ls' := [(2, 27), (0, a), (2, 3), (0, v3L1), w4L1]) (st' := [(0, 8), (0, v3L1)]) (by decide +kernel) rfl ?_
        refine zwic_ge (q := 79) (nx := 16) (by decide +kernel) (fun c4 => ?_) (fun c4 => ?_)
        · exfalso; omega
        · refine zwW_p [(1, 0, 2)] (q := 17) (ls' := [(2, 27), (0, a), (2, 3), (0, v3L1), w4L1]) (st' := [(2, 27)]) (by decide +kernel) rfl ?_
          refine zwW_gc ChL1.1 (kd := 2) (bn := 5) (n := 10) (c := 29) (nx := 20) (by decide +kernel) ?_
          refine zwW_p [(1, 3, 0)] (q := 21) (ls' := [(2, 27), (0, a), (2, 3), (0, v3L1), w4L1]) (st' := [(0, v3L1), (2, 29)]) (by decide +kernel) rfl ?_
          refine zwW_al ChL1.1 (a1 := 29) (a2 := 29) (kd := 20) (n := 8) (t := 0) (lo := -2147483648) (hi := 2147483647) (nx := 22) (by decide +kernel) (by first | decide | exact ⟨by decide, by decide⟩) (by first | omega | exact ⟨by omega, by omega⟩) ?_
          intro v5 ev5 lv5 uv5
          refine zwW_p [(2, 4, 0), (1, 1, 0), (1, 3, 0)] (q := 26) (ls' := [(2, 27), (0, a), (2, 3), (0, v3L1), (0, v5)]) (st' := [(0, v3L1), (0, a)]) (by decide +kernel) rfl ?_
          refine zwW_any2 (a := 9) (nx := 27) (by decide +kernel) rfl (by first | omega | exact ⟨by omega, by omega⟩) (Or.inr (by first | decide | exact ⟨by decide, by decide⟩)) ?_
          intro v6 lv6 uv6
          refine zwW_p [(0, 1, 0)] (q := 28) (ls' := [(2, 27), (0, a), (2, 3), (0, v3L1), (0, v5)]) (st' := [(0, 1), (0, v6)]) (by decide +kernel) rfl ?_
          refine zwW_any2 (a := 5) (nx := 29) (by decide +kernel) rfl (by first | omega | exact ⟨by omega, by omega⟩) (Or.inr (by first | decide | exact ⟨by decide, by decide⟩)) ?_
          intro v7 lv7 uv7
          refine zwif_eq (q := 73) (nx := 32) (by decide +kernel) (fun c8 => ?_) (fun c8 => ?_)
          · refine zwW_inc (i := 3) (c := 1) (x := v3L1) (nx := 76) (by decide +kernel) rfl (by first | omega | exact ⟨by omega, by omega⟩) (ls' := [(2, 27), (0, a), (2, 3), (0, (v3L1 + 1)), (0, v5)]) rfl ?_
            refine zwW_p [(24, 2, 0)] (q := 2) (ls' := [(2, 27), (0, a), (2, 3), (0, (v3L1 + 1)), (0, v5)]) (st' := []) (by decide +kernel) rfl ?_
            exact IHL1 ((1000 - (v3L1 + 1))).toNat (by omega) (v3L1 + 1) (0, v5) hL1 rfl (by omega) ChL1 (XhL1.le (by decide) (by decide))
          · refine zwW_p [(1, 4, 0)] (q := 34) (ls' := [(2, 27), (0, a), (2, 3), (0, v3L1), (0, v5)]) (st' := [(0, v5)]) (by decide +kernel) rfl ?_
            refine zwif_lt (q := 73) (nx := 37) (by decide +kernel) (fun c9 => ?_) (fun c9 => ?_)
            · refine zwW_inc (i := 3) (c := 1) (x := v3L1) (nx := 76) (by decide +kernel) rfl (by first | omega | exact ⟨by omega, by omega⟩) (ls' := [(2, 27), (0, a), (2, 3), (0, (v3L1 + 1)), (0, v5)]) rfl ?_
              refine zwW_p [(24, 2, 0)] (q := 2) (ls' := [(2, 27), (0, a), (2, 3), (0, (v3L1 + 1)), (0, v5)]) (st' := []) (by decide +kernel) rfl ?_
              exact IHL1 ((1000 - (v3L1 + 1))).toNat (by omega) (v3L1 + 1) (0, v5) hL1 rfl (by omega) ChL1 (XhL1.le (by decide) (by decide))
            · refine zwW_p [(1, 4, 0), (1, 2, 2)] (q := 40) (ls' := [(2, 27), (0, a), (2, 3), (0, v3L1), (0, v5)]) (st' := [(2, 3), (0, v5)]) (by decide +kernel) rfl ?_
              refine zwW_cm ChL1.1 (op := 60) (k' := 96) (n := 0) (kd := 0) (m := 3) (nx := 43) (r := 3) (tl := []) (st' := [(0, v5)]) (by decide +kernel) rfl (by decide +kernel) rfl (x96_3 ChL1) ?_
              rintro v10 _ ⟨rfl, ev10⟩
              have bv10 := zLb_3 ChL1
              refine zwic_ge (q := 73) (nx := 46) (by decide +kernel) (fun c11 => ?_) (fun c11 => ?_)
              · refine zwW_inc (i := 3) (c := 1) (x := v3L1) (nx := 76) (by decide +kernel) rfl (by first | omega | exact ⟨by omega, by omega⟩) (ls' := [(2, 27), (0, a), (2, 3), (0, (v3L1 + 1)), (0, v5)]) rfl ?_
                refine zwW_p [(24, 2, 0)] (q := 2) (ls' := [(2, 27), (0, a), (2, 3), (0, (v3L1 + 1)), (0, v5)]) (st' := []) (by decide +kernel) rfl ?_
                exact IHL1 ((1000 - (v3L1 + 1))).toNat (by omega) (v3L1 + 1) (0, v5) hL1 rfl (by omega) ChL1 (XhL1.le (by decide) (by decide))
              · refine zwW_p [(1, 0, 2), (1, 4, 0), (1, 2, 2), (1, 4, 0)] (q := 52) (ls' := [(2, 27), (0, a), (2, 3), (0, v3L1), (0, v5)]) (st' := [(0, v5), (2, 3), (0, v5), (2, 27)]) (by decide +kernel) rfl ?_
                refine zwW_cm ChL1.1 (op := 60) (k' := 123) (n := 1) (kd := 0) (m := 3) (nx := 55) (r := 3) (tl := [(0, v5)]) (st' := [(0, v5), (2, 27)]) (by decide +kernel) rfl (by decide +kernel) rfl (x123_3 ChL1 (i := v5) (by first | omega | exact ⟨by omega, by omega⟩)) ?_
                rintro v12 _ ⟨rfl, Gv12, ev12⟩
                have lv12 := Gv12.1
                refine zwW_cast (a := 4) (kd := 4) (n := 19) (nx := 58) (by decide +kernel) rfl (Or.inr Gv12.2.1) ?_
                refine zwW_get (kd := 4) (bn := 1) (t := 2) (n := 19) (nx := 61) (by decide +kernel) Gv12.2.1 rfl ?_
                obtain ⟨v13, ev13⟩ : ∃ z, z = fld hL1 v12 1 := ⟨_, rfl⟩
                rw [← ev13]
                have Gv13 : gV hL1 v13 := by rw [ev13]; exact Gv12.2.2
                have lv13 := Gv13.1
                refine zwX_gi ChL1 (kd := 11) (bn := 0) (n := 17) (nx := 64) (by decide +kernel) Gv13.2.1 Gv13.1 rfl ?_
                intro v14 ev14 lv14 uv14
                refine zwW_p [(1, 0, 2)] (q := 65) (ls' := [(2, 27), (0, a), (2, 3), (0, v3L1), (0, v5)]) (st' := [(2, 27), (0, v14), (0, v5), (2, 27)]) (by decide +kernel) rfl ?_
                refine zwW_gc ChL1.1 (kd := 2) (bn := 6) (n := 10) (c := 30) (nx := 68) (by decide +kernel) ?_
                refine zwW_p [(1, 3, 0)] (q := 69) (ls' := [(2, 27), (0, a), (2, 3), (0, v3L1), (0, v5)]) (st' := [(0, v3L1), (2, 30), (0, v14), (0, v5), (2, 27)]) (by decide +kernel) rfl ?_
                refine zwW_al ChL1.1 (a1 := 30) (a2 := 30) (kd := 20) (n := 8) (t := 0) (lo := -2147483648) (hi := 2147483647) (nx := 70) (by decide +kernel) (by first | decide | exact ⟨by decide, by decide⟩) (by first | omega | exact ⟨by omega, by omega⟩) ?_
                intro v15 ev15 lv15 uv15
                refine zwW_cmv ChL1.1 (op := 60) (k' := 254) (n := 3) (kd := 2) (m := 10) (nx := 73) (r := 27) (tl := [(0, v5), (0, v14), (0, v15)]) (st' := []) (by decide +kernel) rfl (by decide +kernel) rfl (x254 hL1 ChL1 v5 v14 v15 (by omega) (by omega) (by omega)) ?_
                rintro h16 ⟨Ch16, Qh16⟩
                have Xh16 : zXR msx218 (0) (0) h h16 := XhL1.tr (c2 := 0) (s2 := 0) Qh16 (by decide +kernel) (by decide) (by decide)
                refine zwW_inc (i := 3) (c := 1) (x := v3L1) (nx := 76) (by decide +kernel) rfl (by first | omega | exact ⟨by omega, by omega⟩) (ls' := [(2, 27), (0, a), (2, 3), (0, (v3L1 + 1)), (0, v5)]) rfl ?_
                refine zwW_p [(24, 2, 0)] (q := 2) (ls' := [(2, 27), (0, a), (2, 3), (0, (v3L1 + 1)), (0, v5)]) (st' := []) (by decide +kernel) rfl ?_
                exact IHL1 ((1000 - (v3L1 + 1))).toNat (by omega) (v3L1 + 1) (0, v5) h16 rfl (by omega) Ch16 (Xh16.le (by decide) (by decide))
  exact L1 _ 0 (9, 0) h rfl (by omega) C (X.le (by decide) (by decide))
def msx219 : Zms := [(33, 33, 0, 8)]
-- WheelLand$Gifts.spunBy(Ljava/util/ArrayList;II)I
theorem x219 {sc : List Int} (h : Hp) (C : CI h) (a b : Int) (q_a : -2147483648 ≤ a ∧ a ≤ 2147483647) (q_b : -2147483648 ≤ b ∧ b ≤ 2147483647) : zwC sc 5 219 [(2, 27), (2, 3), (0, a), (0, b)] h (zwRt 0 (fun x g => CI g ∧ zXR msx219 (0) (0) h g ∧ (-2147483648 ≤ x ∧ x ≤ 2147483647))) := by
  refine zwC_of (D := 4) 11 (by decide +kernel) rfl (ls := [(2, 27), (2, 3), (0, a), (0, b), (9, 0), (9, 0), (9, 0), (9, 0), (9, 0), (9, 0), (9, 0)]) rfl ?_
  have X : zXR msx219 0 0 h h := zXR.rf _ _
  refine zwW_p [(1, 3, 0), (2, 4, 0), (0, 0, 0), (2, 5, 0), (0, 0, 0), (2, 6, 0)] (q := 9) (ls' := [(2, 27), (2, 3), (0, a), (0, b), (0, b), (0, 0), (0, 0), (9, 0), (9, 0), (9, 0), (9, 0)]) (st' := []) (by decide +kernel) rfl ?_
  have L1 : ∀ (n : Nat) (v4L1 v5L1 v6L1 : Int) (w7L1 w8L1 w9L1 w10L1 : Vl) (hL1 : Hp), n = ((1000 - v6L1)).toNat → (-2147483648 ≤ v4L1 ∧ v4L1 ≤ 2147483647) → (-2147483648 ≤ v5L1 ∧ v5L1 ≤ 2147483647) → (0 ≤ v6L1 ∧ v6L1 ≤ 1000) → CI hL1 → zXR msx219 (0) (0) h hL1 → zwW sc (4) 219 9 [(2, 27), (2, 3), (0, a), (0, b), (0, v4L1), (0, v5L1), (0, v6L1), w7L1, w8L1, w9L1, w10L1] [] hL1 (zwRt 0 (fun x g => CI g ∧ zXR msx219 (0) (0) h g ∧ (-2147483648 ≤ x ∧ x ≤ 2147483647))) := by
    intro n
    induction n using Nat.strongRecOn with
    | ind n IHL1 =>
      intro v4L1 v5L1 v6L1 w7L1 w8L1 w9L1 w10L1 hL1 hnL1 iL1_0 iL1_1 iL1_2 ChL1 XhL1
      refine zwW_p [(1, 6, 0), (1, 1, 2)] (q := 12) (ls' := [(2, 27), (2, 3), (0, a), (0, b), (0, v4L1), (0, v5L1), (0, v6L1), w7L1, w8L1, w9L1, w10L1]) (st' := [(2, 3), (0, v6L1)]) (by decide +kernel) rfl ?_
      refine zwW_cm ChL1.1 (op := 60) (k' := 96) (n := 0) (kd := 0) (m := 3) (nx := 15) (r := 3) (tl := []) (st' := [(0, v6L1)]) (by decide +kernel) rfl (by decide +kernel) rfl (x96_3 ChL1) ?_
      rintro v2 _ ⟨rfl, ev2⟩
      have bv2 := zLb_3 ChL1
      refine zwic_ge (q := 156) (nx := 18) (by decide +kernel) (fun c3 => ?_) (fun c3 => ?_)
      · refine zwW_p [(1, 5, 0)] (q := 158) (ls' := [(2, 27), (2, 3), (0, a), (0, b), (0, v4L1), (0, v5L1), (0, v6L1), w7L1, w8L1, w9L1, w10L1]) (st' := [(0, v5L1)]) (by decide +kernel) rfl ?_
        refine zwW_ret (nx := 159) (a := 0) (b := 0) (by decide +kernel) rfl (Or.inl rfl) ?_
        exact ⟨ChL1, XhL1.le (by decide) (by decide), by omega⟩
      · refine zwW_p [(1, 6, 0), (0, 20, 0)] (q := 22) (ls' := [(2, 27), (2, 3), (0, a), (0, b), (0, v4L1), (0, v5L1), (0, v6L1), w7L1, w8L1, w9L1, w10L1]) (st' := [(0, 20), (0, v6L1)]) (by decide +kernel) rfl ?_
        refine zwic_ge (q := 156) (nx := 25) (by decide +kernel) (fun c4 => ?_) (fun c4 => ?_)
        · exfalso; omega
        · refine zwW_p [(1, 4, 0)] (q := 27) (ls' := [(2, 27), (2, 3), (0, a), (0, b), (0, v4L1), (0, v5L1), (0, v6L1), w7L1, w8L1, w9L1, w10L1]) (st' := [(0, v4L1)]) (by decide +kernel) rfl ?_
          refine zwif_le (q := 156) (nx := 30) (by decide +kernel) (fun c5 => ?_) (fun c5 => ?_)
          · refine zwW_p [(1, 5, 0)] (q := 158) (ls' := [(2, 27), (2, 3), (0, a), (0, b), (0, v4L1), (0, v5L1), (0, v6L1), w7L1, w8L1, w9L1, w10L1]) (st' := [(0, v5L1)]) (by decide +kernel) rfl ?_
            refine zwW_ret (nx := 159) (a := 0) (b := 0) (by decide +kernel) rfl (Or.inl rfl) ?_
            exact ⟨ChL1, XhL1.le (by decide) (by decide), by omega⟩
          · refine zwW_p [(1, 1, 2), (1, 6, 0)] (q := 33) (ls' := [(2, 27), (2, 3), (0, a), (0, b), (0, v4L1), (0, v5L1), (0, v6L1), w7L1, w8L1, w9L1, w10L1]) (st' := [(0, v6L1), (2, 3)]) (by decide +kernel) rfl ?_
            refine zwW_cm ChL1.1 (op := 60) (k' := 123) (n := 1) (kd := 0) (m := 3) (nx := 36) (r := 3) (tl := [(0, v6L1)]) (st' := []) (by decide +kernel) rfl (by decide +kernel) rfl (x123_3 ChL1 (i := v6L1) (by first | omega | exact ⟨by omega, by omega⟩)) ?_
            rintro v6 _ ⟨rfl, Gv6, ev6⟩
            have lv6 := Gv6.1
            refine zwW_cast (a := 4) (kd := 4) (n := 19) (nx := 39) (by decide +kernel) rfl (Or.inr Gv6.2.1) ?_
            refine zwW_p [(2, 7, 2), (1, 7, 2)] (q := 43) (ls' := [(2, 27), (2, 3), (0, a), (0, b), (0, v4L1), (0, v5L1), (0, v6L1), (2, v6), w8L1, w9L1, w10L1]) (st' := [(2, v6)]) (by decide +kernel) rfl ?_
            refine zwW_get (kd := 4) (bn := 1) (t := 2) (n := 19) (nx := 46) (by decide +kernel) Gv6.2.1 rfl ?_
            obtain ⟨v7, ev7⟩ : ∃ z, z = fld hL1 v6 1 := ⟨_, rfl⟩
            rw [← ev7]
            have Gv7 : gV hL1 v7 := by rw [ev7]; exact Gv6.2.2
            have lv7 := Gv7.1
            refine zwX_gi ChL1 (kd := 11) (bn := 0) (n := 17) (nx := 49) (by decide +kernel) Gv7.2.1 Gv7.1 rfl ?_
            intro v8 ev8 lv8 uv8
            refine zwW_p [(2, 8, 0), (1, 8, 0)] (q := 53) (ls' := [(2, 27), (2, 3), (0, a), (0, b), (0, v4L1), (0, v5L1), (0, v6L1), (2, v6), (0, v8), w9L1, w10L1]) (st' := [(0, v8)]) (by decide +kernel) rfl ?_
            refine zwif_lt (q := 150) (nx := 56) (by decide +kernel) (fun c9 => ?_) (fun c9 => ?_)
            · refine zwW_inc (i := 6) (c := 1) (x := v6L1) (nx := 153) (by decide +kernel) rfl (by first | omega | exact ⟨by omega, by omega⟩) (ls' := [(2, 27), (2, 3), (0, a), (0, b), (0, v4L1), (0, v5L1), (0, (v6L1 + 1)), (2, v6), (0, v8), w9L1, w10L1]) rfl ?_
              refine zwW_p [(24, 9, 0)] (q := 9) (ls' := [(2, 27), (2, 3), (0, a), (0, b), (0, v4L1), (0, v5L1), (0, (v6L1 + 1)), (2, v6), (0, v8), w9L1, w10L1]) (st' := []) (by decide +kernel) rfl ?_
              exact IHL1 ((1000 - (v6L1 + 1))).toNat (by omega) v4L1 v5L1 (v6L1 + 1) (2, v6) (0, v8) w9L1 w10L1 hL1 rfl (by omega) (by omega) (by omega) ChL1 (XhL1.le (by decide) (by decide))
            · refine zwW_p [(1, 8, 0), (0, 8, 0)] (q := 60) (ls' := [(2, 27), (2, 3), (0, a), (0, b), (0, v4L1), (0, v5L1), (0, v6L1), (2, v6), (0, v8), w9L1, w10L1]) (st' := [(0, 8), (0, v8)]) (by decide +kernel) rfl ?_
              refine zwic_ge (q := 150) (nx := 63) (by decide +kernel) (fun c10 => ?_) (fun c10 => ?_)
              · refine zwW_inc (i := 6) (c := 1) (x := v6L1) (nx := 153) (by decide +kernel) rfl (by first | omega | exact ⟨by omega, by omega⟩) (ls' := [(2, 27), (2, 3), (0, a), (0, b), (0, v4L1), (0, v5L1), (0, (v6L1 + 1)), (2, v6), (0, v8), w9L1, w10L1]) rfl ?_
                refine zwW_p [(24, 9, 0)] (q := 9) (ls' := [(2, 27), (2, 3), (0, a), (0, b), (0, v4L1), (0, v5L1), (0, (v6L1 + 1)), (2, v6), (0, v8), w9L1, w10L1]) (st' := []) (by decide +kernel) rfl ?_
                exact IHL1 ((1000 - (v6L1 + 1))).toNat (by omega) v4L1 v5L1 (v6L1 + 1) (2, v6) (0, v8) w9L1 w10L1 hL1 rfl (by omega) (by omega) (by omega) ChL1 (XhL1.le (by decide) (by decide))
              · refine zwW_p [(1, 0, 2)] (q := 64) (ls' := [(2, 27), (2, 3), (0, a), (0, b), (0, v4L1), (0, v5L1), (0, v6L1), (2, v6), (0, v8), w9L1, w10L1]) (st' := [(2, 27)]) (by decide +kernel) rfl ?_
                refine zwW_gc ChL1.1 (kd := 2) (bn := 7) (n := 10) (c := 31) (nx := 67) (by decide +kernel) ?_
                refine zwW_p [(1, 6, 0)] (q := 69) (ls' := [(2, 27), (2, 3), (0, a), (0, b), (0, v4L1), (0, v5L1), (0, v6L1), (2, v6), (0, v8), w9L1, w10L1]) (st' := [(0, v6L1), (2, 31)]) (by decide +kernel) rfl ?_
                refine zwW_al ChL1.1 (a1 := 31) (a2 := 31) (kd := 20) (n := 20) (t := 0) (lo := -2147483648) (hi := 2147483647) (nx := 70) (by decide +kernel) (by first | decide | exact ⟨by decide, by decide⟩) (by first | omega | exact ⟨by omega, by omega⟩) ?_
                intro v11 ev11 lv11 uv11
                refine zwW_p [(1, 7, 2)] (q := 72) (ls' := [(2, 27), (2, 3), (0, a), (0, b), (0, v4L1), (0, v5L1), (0, v6L1), (2, v6), (0, v8), w9L1, w10L1]) (st' := [(2, v6), (0, v11)]) (by decide +kernel) rfl ?_
                refine zwW_get (kd := 4) (bn := 1) (t := 2) (n := 19) (nx := 75) (by decide +kernel) Gv6.2.1 rfl ?_
                rw [← ev7]
                refine zwW_p [(1, 2, 0)] (q := 76) (ls' := [(2, 27), (2, 3), (0, a), (0, b), (0, v4L1), (0, v5L1), (0, v6L1), (2, v6), (0, v8), w9L1, w10L1]) (st' := [(0, a), (2, v7), (0, v11)]) (by decide +kernel) rfl ?_
                refine zwW_cv (op := 60) (k' := 222) (n := 1) (kd := 11) (m := 17) (nx := 79) (r := v7) (tl := [(0, a)]) (st' := [(0, v11)]) (by decide +kernel) rfl (by decide +kernel) Gv7.2.1 (x222 hL1 ChL1 v7 a Gv7 (by omega)) rfl ?_
                rintro v13 _ ⟨rfl, f14⟩
                refine zwW_mlw (nx := 80) (by decide +kernel) ?_
                intro v15 ev15 lv15 uv15
                refine zwW_p [(2, 9, 0), (1, 9, 0), (1, 0, 2)] (q := 85) (ls' := [(2, 27), (2, 3), (0, a), (0, b), (0, v4L1), (0, v5L1), (0, v6L1), (2, v6), (0, v8), (0, v15), w10L1]) (st' := [(2, 27), (0, v15)]) (by decide +kernel) rfl ?_
                refine zwW_gc ChL1.1 (kd := 2) (bn := 8) (n := 10) (c := 32) (nx := 88) (by decide +kernel) ?_
                refine zwW_p [(1, 6, 0)] (q := 90) (ls' := [(2, 27), (2, 3), (0, a), (0, b), (0, v4L1), (0, v5L1), (0, v6L1), (2, v6), (0, v8), (0, v15), w10L1]) (st' := [(0, v6L1), (2, 32), (0, v15)]) (by decide +kernel) rfl ?_
                refine zwW_al ChL1.1 (a1 := 32) (a2 := 32) (kd := 20) (n := 20) (t := 0) (lo := -2147483648) (hi := 2147483647) (nx := 91) (by decide +kernel) (by first | decide | exact ⟨by decide, by decide⟩) (by first | omega | exact ⟨by omega, by omega⟩) ?_
                intro v16 ev16 lv16 uv16
                refine zwW_p [(1, 7, 2)] (q := 93) (ls' := [(2, 27), (2, 3), (0, a), (0, b), (0, v4L1), (0, v5L1), (0, v6L1), (2, v6), (0, v8), (0, v15), w10L1]) (st' := [(2, v6), (0, v16), (0, v15)]) (by decide +kernel) rfl ?_
                refine zwX_gi ChL1 (kd := 4) (bn := 7) (n := 19) (nx := 96) (by decide +kernel) Gv6.2.1 Gv6.1 rfl ?_
                intro v17 ev17 lv17 uv17
                refine zwW_p [(1, 0, 2)] (q := 97) (ls' := [(2, 27), (2, 3), (0, a), (0, b), (0, v4L1), (0, v5L1), (0, v6L1), (2, v6), (0, v8), (0, v15), w10L1]) (st' := [(2, 27), (0, v17), (0, v16), (0, v15)]) (by decide +kernel) rfl ?_
                refine zwW_gc ChL1.1 (kd := 2) (bn := 9) (n := 10) (c := 33) (nx := 100) (by decide +kernel) ?_
                refine zwW_p [(1, 8, 0)] (q := 102) (ls' := [(2, 27), (2, 3), (0, a), (0, b), (0, v4L1), (0, v5L1), (0, v6L1), (2, v6), (0, v8), (0, v15), w10L1]) (st' := [(0, v8), (2, 33), (0, v17), (0, v16), (0, v15)]) (by decide +kernel) rfl ?_
                refine zwW_al ChL1.1 (a1 := 33) (a2 := 33) (kd := 20) (n := 8) (t := 0) (lo := -2147483648) (hi := 2147483647) (nx := 103) (by decide +kernel) (by first | decide | exact ⟨by decide, by decide⟩) (by first | omega | exact ⟨by omega, by omega⟩) ?_
                intro v18 ev18 lv18 uv18
                refine zwW_cs (k' := 223) (n := 4) (nx := 106) (as := [(0, v15), (0, v16), (0, v17), (0, v18)]) (st' := []) (by decide +kernel) rfl (x223 hL1 ChL1 v15 v16 v17 v18 (by omega) (by omega) (by omega) (by omega)) rfl ?_
                rintro v19 _ ⟨rfl, f20⟩
                refine zwW_p [(2, 10, 0), (1, 0, 2)] (q := 109) (ls' := [(2, 27), (2, 3), (0, a), (0, b), (0, v4L1), (0, v5L1), (0, v6L1), (2, v6), (0, v8), (0, v15), (0, v19)]) (st' := [(2, 27)]) (by decide +kernel) rfl ?_
                refine zwW_gc ChL1.1 (kd := 2) (bn := 9) (n := 10) (c := 33) (nx := 112) (by decide +kernel) ?_
                refine zwW_p [(1, 8, 0), (14, 0, 0)] (q := 115) (ls' := [(2, 27), (2, 3), (0, a), (0, b), (0, v4L1), (0, v5L1), (0, v6L1), (2, v6), (0, v8), (0, v15), (0, v19)]) (st' := [(0, v8), (2, 33), (0, v8), (2, 33)]) (by decide +kernel) rfl ?_
                refine zwW_al ChL1.1 (a1 := 33) (a2 := 33) (kd := 20) (n := 8) (t := 0) (lo := -2147483648) (hi := 2147483647) (nx := 116) (by decide +kernel) (by first | decide | exact ⟨by decide, by decide⟩) (by first | omega | exact ⟨by omega, by omega⟩) ?_
                intro v21 ev21 lv21 uv21
                refine zwW_p [(1, 10, 0), (1, 7, 2)] (q := 120) (ls' := [(2, 27), (2, 3), (0, a), (0, b), (0, v4L1), (0, v5L1), (0, v6L1), (2, v6), (0, v8), (0, v15), (0, v19)]) (st' := [(2, v6), (0, v19), (0, v21), (0, v8), (2, 33)]) (by decide +kernel) rfl ?_
                refine zwX_gi ChL1 (kd := 4) (bn := 7) (n := 19) (nx := 123) (by decide +kernel) Gv6.2.1 Gv6.1 rfl ?_
                intro v22 ev22 lv22 uv22
                refine zwW_cs (k' := 151) (n := 2) (nx := 126) (as := [(0, v19), (0, v22)]) (st' := [(0, v21), (0, v8), (2, 33)]) (by decide +kernel) rfl (x151 hL1 ChL1 v19 v22 (by omega) (by omega)) rfl ?_
                rintro v23 _ ⟨rfl, f24⟩
                refine zwW_sbw (nx := 127) (by decide +kernel) ?_
                intro v25 ev25 lv25 uv25
                refine zwW_as ChL1.1 (a1 := 33) (a2 := 33) (n := 8) (lo := -2147483648) (hi := 2147483647) (nx := 128) (by decide +kernel) (by first | decide | exact ⟨by decide, by decide⟩) (by first | omega | exact ⟨by omega, by omega⟩) (by first | omega | exact ⟨by omega, by omega⟩) ?_
                intro h26 eh26 Ih26
                have Ch26 : CI h26 := ChL1.wc eh26 Ih26 (by decide) (by decide)
                have Qh26 : zXR [(33, 33, 0, 8)] 0 0 hL1 h26 := zXR.wc eh26 rfl ⟨by decide, by decide, Or.inl (by decide)⟩ (by first | omega | exact ⟨by omega, by omega⟩)
                have Xh26 : zXR msx219 (0) (0) h h26 := XhL1.tr (c2 := 0) (s2 := 0) Qh26 (by decide +kernel) (by decide) (by decide)
                have Gh26_0 : gH h26 v6 := Gv6.x Qh26
                refine zwW_p [(1, 5, 0), (1, 10, 0)] (q := 132) (ls' := [(2, 27), (2, 3), (0, a), (0, b), (0, v4L1), (0, v5L1), (0, v6L1), (2, v6), (0, v8), (0, v15), (0, v19)]) (st' := [(0, v19), (0, v5L1)]) (by decide +kernel) rfl ?_
                refine zwW_adw (nx := 133) (by decide +kernel) ?_
                intro v27 ev27 lv27 uv27
                refine zwW_p [(2, 5, 0), (1, 4, 0), (1, 10, 0)] (q := 139) (ls' := [(2, 27), (2, 3), (0, a), (0, b), (0, v4L1), (0, v27), (0, v6L1), (2, v6), (0, v8), (0, v15), (0, v19)]) (st' := [(0, v19), (0, v4L1)]) (by decide +kernel) rfl ?_
                refine zwif_le (q := 146) (nx := 142) (by decide +kernel) (fun c28 => ?_) (fun c28 => ?_)
                · refine zwW_p [(0, 0, 0)] (q := 147) (ls' := [(2, 27), (2, 3), (0, a), (0, b), (0, v4L1), (0, v27), (0, v6L1), (2, v6), (0, v8), (0, v15), (0, v19)]) (st' := [(0, 0), (0, v4L1)]) (by decide +kernel) rfl ?_
                  refine zwW_sub (nx := 148) (by decide +kernel) (by first | omega | exact ⟨by omega, by omega⟩) ?_
                  refine zwW_p [(2, 4, 0)] (q := 150) (ls' := [(2, 27), (2, 3), (0, a), (0, b), (0, (v4L1 - 0)), (0, v27), (0, v6L1), (2, v6), (0, v8), (0, v15), (0, v19)]) (st' := []) (by decide +kernel) rfl ?_
                  refine zwW_inc (i := 6) (c := 1) (x := v6L1) (nx := 153) (by decide +kernel) rfl (by first | omega | exact ⟨by omega, by omega⟩) (ls' := [(2, 27), (2, 3), (0, a), (0, b), (0, (v4L1 - 0)), (0, v27), (0, (v6L1 + 1)), (2, v6), (0, v8), (0, v15), (0, v19)]) rfl ?_
                  refine zwW_p [(24, 9, 0)] (q := 9) (ls' := [(2, 27), (2, 3), (0, a), (0, b), (0, (v4L1 - 0)), (0, v27), (0, (v6L1 + 1)), (2, v6), (0, v8), (0, v15), (0, v19)]) (st' := []) (by decide +kernel) rfl ?_
                  exact IHL1 ((1000 - (v6L1 + 1))).toNat (by omega) (v4L1 - 0) v27 (v6L1 + 1) (2, v6) (0, v8) (0, v15) (0, v19) h26 rfl (by omega) (by omega) (by omega) Ch26 (Xh26.le (by decide) (by decide))
                · refine zwW_p [(0, 1, 0), (24, 147, 0)] (q := 147) (ls' := [(2, 27), (2, 3), (0, a), (0, b), (0, v4L1), (0, v27), (0, v6L1), (2, v6), (0, v8), (0, v15), (0, v19)]) (st' := [(0, 1), (0, v4L1)]) (by decide +kernel) rfl ?_
                  refine zwW_sub (nx := 148) (by decide +kernel) (by first | omega | exact ⟨by omega, by omega⟩) ?_
                  refine zwW_p [(2, 4, 0)] (q := 150) (ls' := [(2, 27), (2, 3), (0, a), (0, b), (0, (v4L1 - 1)), (0, v27), (0, v6L1), (2, v6), (0, v8), (0, v15), (0, v19)]) (st' := []) (by decide +kernel) rfl ?_
                  refine zwW_inc (i := 6) (c := 1) (x := v6L1) (nx := 153) (by decide +kernel) rfl (by first | omega | exact ⟨by omega, by omega⟩) (ls' := [(2, 27), (2, 3), (0, a), (0, b), (0, (v4L1 - 1)), (0, v27), (0, (v6L1 + 1)), (2, v6), (0, v8), (0, v15), (0, v19)]) rfl ?_
                  refine zwW_p [(24, 9, 0)] (q := 9) (ls' := [(2, 27), (2, 3), (0, a), (0, b), (0, (v4L1 - 1)), (0, v27), (0, (v6L1 + 1)), (2, v6), (0, v8), (0, v15), (0, v19)]) (st' := []) (by decide +kernel) rfl ?_
                  exact IHL1 ((1000 - (v6L1 + 1))).toNat (by omega) (v4L1 - 1) v27 (v6L1 + 1) (2, v6) (0, v8) (0, v15) (0, v19) h26 rfl (by omega) (by omega) (by omega) Ch26 (Xh26.le (by decide) (by decide))
  exact L1 _ b 0 0 (9, 0) (9, 0) (9, 0) (9, 0) h rfl (by omega) (by omega) (by omega) C (X.le (by decide) (by decide))
def msx163 : Zms := [(27, 27, 1, 2), (27, 27, 2, 3), (27, 27, 3, 4), (31, 31, 0, 20), (32, 32, 0, 20), (33, 33, 0, 8)]
-- WheelLand$Gifts.choose(ILjava/util/ArrayList;Ljava/util/ArrayList;II)V
theorem x163 {sc : List Int} (h : Hp) (C : CI h) (a b c : Int) (q_a : -2147483648 ≤ a ∧ a ≤ 2147483647) (q_b : -2147483648 ≤ b ∧ b ≤ 2147483647) (q_c : -2147483648 ≤ c ∧ c ≤ 2147483647) : zwC sc 6 163 [(2, 27), (0, a), (2, 2), (2, 3), (0, b), (0, c)] h (zwRv (fun g => CI g ∧ zXR msx163 (0) (0) h g)) := by
  refine zwC_of (D := 5) 9 (by decide +kernel) rfl (ls := [(2, 27), (0, a), (2, 2), (2, 3), (0, b), (0, c), (9, 0), (9, 0), (9, 0)]) rfl ?_
  have X : zXR msx163 0 0 h h := zXR.rf _ _
  refine zwW_p [(1, 0, 2), (0, -1, 0)] (q := 2) (ls' := [(2, 27), (0, a), (2, 2), (2, 3), (0, b), (0, c), (9, 0), (9, 0), (9, 0)]) (st' := [(0, -1), (2, 27)]) (by decide +kernel) rfl ?_
  refine zwW_ps C.1 (kd := 2) (bn := 1) (n := 10) (lo := -2147483648) (hi := 2147483647) (nx := 5) (by decide +kernel) (by first | decide | exact ⟨by decide, by decide⟩) ?_
  intro h1 eh1 Ih1
  have Ch1 : CI h1 := C.wc eh1 Ih1 (by decide) (by decide)
  have Qh1 : zXR [(27, 27, 1, 2)] 0 0 h h1 := zXR.wc eh1 rfl ⟨by decide, by decide, Or.inl (by decide)⟩ (by first | decide | exact ⟨by decide, by decide⟩)
  have Xh1 : zXR msx163 (0) (0) h h1 := X.tr (c2 := 0) (s2 := 0) Qh1 (by decide +kernel) (by decide) (by decide)
  refine zwW_p [(1, 0, 2), (0, 0, 0)] (q := 7) (ls' := [(2, 27), (0, a), (2, 2), (2, 3), (0, b), (0, c), (9, 0), (9, 0), (9, 0)]) (st' := [(0, 0), (2, 27)]) (by decide +kernel) rfl ?_
  refine zwW_ps Ch1.1 (kd := 2) (bn := 2) (n := 10) (lo := -2147483648) (hi := 2147483647) (nx := 10) (by decide +kernel) (by first | decide | exact ⟨by decide, by decide⟩) ?_
  intro h2 eh2 Ih2
  have Ch2 : CI h2 := Ch1.wc eh2 Ih2 (by decide) (by decide)
  have Qh2 : zXR [(27, 27, 2, 3)] 0 0 h1 h2 := zXR.wc eh2 rfl ⟨by decide, by decide, Or.inl (by decide)⟩ (by first | decide | exact ⟨by decide, by decide⟩)
  have Xh2 : zXR msx163 (0) (0) h h2 := Xh1.tr (c2 := 0) (s2 := 0) Qh2 (by decide +kernel) (by decide) (by decide)
  refine zwW_p [(1, 0, 2), (0, 0, 0)] (q := 12) (ls' := [(2, 27), (0, a), (2, 2), (2, 3), (0, b), (0, c), (9, 0), (9, 0), (9, 0)]) (st' := [(0, 0), (2, 27)]) (by decide +kernel) rfl ?_
  refine zwW_ps Ch2.1 (kd := 2) (bn := 3) (n := 10) (lo := -2147483648) (hi := 2147483647) (nx := 15) (by decide +kernel) (by first | decide | exact ⟨by decide, by decide⟩) ?_
  intro h3 eh3 Ih3
  have Ch3 : CI h3 := Ch2.wc eh3 Ih3 (by decide) (by decide)
  have Qh3 : zXR [(27, 27, 3, 4)] 0 0 h2 h3 := zXR.wc eh3 rfl ⟨by decide, by decide, Or.inl (by decide)⟩ (by first | decide | exact ⟨by decide, by decide⟩)
  have Xh3 : zXR msx163 (0) (0) h h3 := Xh2.tr (c2 := 0) (s2 := 0) Qh3 (by decide +kernel) (by decide) (by decide)
  refine zwW_p [(0, 0, 0), (2, 6, 0)] (q := 18) (ls' := [(2, 27), (0, a), (2, 2), (2, 3), (0, b), (0, c), (0, 0), (9, 0), (9, 0)]) (st' := []) (by decide +kernel) rfl ?_
  have L4 : ∀ (n : Nat) (v6L4 : Int) (w7L4 w8L4 : Vl) (hL4 : Hp), n = ((1000 - v6L4)).toNat → (0 ≤ v6L4 ∧ v6L4 ≤ 1000) → CI hL4 → zXR msx163 (0) (0) h hL4 → zwW sc (5) 163 18 [(2, 27), (0, a), (2, 2), (2, 3), (0, b), (0, c), (0, v6L4), w7L4, w8L4] [] hL4 (zwRv (fun g => CI g ∧ zXR msx163 (0) (0) h g)) := by
    intro n
    induction n using Nat.strongRecOn with
    | ind n IHL4 =>
      intro v6L4 w7L4 w8L4 hL4 hnL4 iL4_0 ChL4 XhL4
      refine zwW_p [(1, 6, 0), (0, 1, 0), (1, 0, 2)] (q := 22) (ls' := [(2, 27), (0, a), (2, 2), (2, 3), (0, b), (0, c), (0, v6L4), w7L4, w8L4]) (st' := [(2, 27), (0, 1), (0, v6L4)]) (by decide +kernel) rfl ?_
      refine zwW_gs ChL4.1 (kd := 2) (bn := 0) (n := 10) (t := 0) (lo := 0) (hi := 8) (nx := 25) (by decide +kernel) ?_
      intro v5 ev5 lv5 uv5
      refine zwW_ib (a := 8) (nx := 26) (by decide +kernel) rfl ?_
      have s26 : (i_shl 1 v5) ≤ 256 := (zshl_le (by first | omega | exact ⟨by omega, by omega⟩)).2
      refine zwic_ge (q := 126) (nx := 29) (by decide +kernel) (fun c6 => ?_) (fun c6 => ?_)
      · refine zwW_retv (nx := 127) (a := 0) (b := 0) (by decide +kernel) ?_
        exact ⟨ChL4, XhL4.le (by decide) (by decide)⟩
      · refine zwW_p [(1, 0, 2), (1, 6, 0)] (q := 32) (ls' := [(2, 27), (0, a), (2, 2), (2, 3), (0, b), (0, c), (0, v6L4), w7L4, w8L4]) (st' := [(0, v6L4), (2, 27)]) (by decide +kernel) rfl ?_
        refine zwW_cm ChL4.1 (op := 60) (k' := 216) (n := 1) (kd := 2) (m := 10) (nx := 35) (r := 27) (tl := [(0, v6L4)]) (st' := []) (by decide +kernel) rfl (by decide +kernel) rfl (x216 hL4 ChL4 v6L4 (by omega)) ?_
        rintro v7 _ ⟨rfl, f8⟩
        refine zwW_p [(2, 7, 0), (1, 7, 0), (1, 1, 0)] (q := 40) (ls' := [(2, 27), (0, a), (2, 2), (2, 3), (0, b), (0, c), (0, v6L4), (0, v7), w8L4]) (st' := [(0, a), (0, v7)]) (by decide +kernel) rfl ?_
        refine zwic_gt (q := 120) (nx := 43) (by decide +kernel) (fun c9 => ?_) (fun c9 => ?_)
        · refine zwW_inc (i := 6) (c := 1) (x := v6L4) (nx := 123) (by decide +kernel) rfl (by first | omega | exact ⟨by omega, by omega⟩) (ls' := [(2, 27), (0, a), (2, 2), (2, 3), (0, b), (0, c), (0, (v6L4 + 1)), (0, v7), w8L4]) rfl ?_
          refine zwW_p [(24, 18, 0)] (q := 18) (ls' := [(2, 27), (0, a), (2, 2), (2, 3), (0, b), (0, c), (0, (v6L4 + 1)), (0, v7), w8L4]) (st' := []) (by decide +kernel) rfl ?_
          exact IHL4 ((1000 - (v6L4 + 1))).toNat (by omega) (v6L4 + 1) (0, v7) w8L4 hL4 rfl (by omega) ChL4 (XhL4.le (by decide) (by decide))
        · refine zwW_p [(1, 0, 2), (1, 2, 2), (1, 3, 2)] (q := 46) (ls' := [(2, 27), (0, a), (2, 2), (2, 3), (0, b), (0, c), (0, v6L4), (0, v7), w8L4]) (st' := [(2, 3), (2, 2), (2, 27)]) (by decide +kernel) rfl ?_
          refine zwW_cmv ChL4.1 (op := 60) (k' := 217) (n := 2) (kd := 2) (m := 10) (nx := 49) (r := 27) (tl := [(2, 2), (2, 3)]) (st' := []) (by decide +kernel) rfl (by decide +kernel) rfl (x217 hL4 ChL4) ?_
          rintro h10 ⟨Ch10, Qh10⟩
          have Xh10 : zXR msx163 (0) (0) h h10 := XhL4.tr (c2 := 0) (s2 := 0) Qh10 (by decide +kernel) (by decide) (by decide)
          refine zwW_p [(1, 0, 2), (1, 6, 0), (1, 3, 2)] (q := 53) (ls' := [(2, 27), (0, a), (2, 2), (2, 3), (0, b), (0, c), (0, v6L4), (0, v7), w8L4]) (st' := [(2, 3), (0, v6L4), (2, 27)]) (by decide +kernel) rfl ?_
          refine zwW_cmv Ch10.1 (op := 60) (k' := 218) (n := 2) (kd := 2) (m := 10) (nx := 56) (r := 27) (tl := [(0, v6L4), (2, 3)]) (st' := []) (by decide +kernel) rfl (by decide +kernel) rfl (x218 h10 Ch10 v6L4 (by omega)) ?_
          rintro h11 ⟨Ch11, Qh11⟩
          have Xh11 : zXR msx163 (0) (0) h h11 := Xh10.tr (c2 := 0) (s2 := 0) Qh11 (by decide +kernel) (by decide) (by decide)
          refine zwW_p [(1, 0, 2), (1, 3, 2), (1, 4, 0), (1, 5, 0)] (q := 62) (ls' := [(2, 27), (0, a), (2, 2), (2, 3), (0, b), (0, c), (0, v6L4), (0, v7), w8L4]) (st' := [(0, c), (0, b), (2, 3), (2, 27)]) (by decide +kernel) rfl ?_
          refine zwW_cm Ch11.1 (op := 60) (k' := 219) (n := 3) (kd := 2) (m := 10) (nx := 65) (r := 27) (tl := [(2, 3), (0, b), (0, c)]) (st' := []) (by decide +kernel) rfl (by decide +kernel) rfl (x219 h11 Ch11 b c (by omega) (by omega)) ?_
          rintro v13 h14 ⟨Ch14, Qh14, f12⟩
          have Xh14 : zXR msx163 (0) (0) h h14 := Xh11.tr (c2 := 0) (s2 := 0) Qh14 (by decide +kernel) (by decide) (by decide)
          refine zwW_p [(2, 8, 0), (1, 0, 2)] (q := 68) (ls' := [(2, 27), (0, a), (2, 2), (2, 3), (0, b), (0, c), (0, v6L4), (0, v7), (0, v13)]) (st' := [(2, 27)]) (by decide +kernel) rfl ?_
          refine zwW_gs Ch14.1 (kd := 2) (bn := 1) (n := 10) (t := 0) (lo := -2147483648) (hi := 2147483647) (nx := 71) (by decide +kernel) ?_
          intro v15 ev15 lv15 uv15
          refine zwW_p [(0, -1, 0)] (q := 72) (ls' := [(2, 27), (0, a), (2, 2), (2, 3), (0, b), (0, c), (0, v6L4), (0, v7), (0, v13)]) (st' := [(0, -1), (0, v15)]) (by decide +kernel) rfl ?_
          refine zwic_eq (q := 102) (nx := 75) (by decide +kernel) (fun c16 => ?_) (fun c16 => ?_)
          · refine zwW_p [(1, 0, 2), (1, 6, 0)] (q := 105) (ls' := [(2, 27), (0, a), (2, 2), (2, 3), (0, b), (0, c), (0, v6L4), (0, v7), (0, v13)]) (st' := [(0, v6L4), (2, 27)]) (by decide +kernel) rfl ?_
            refine zwW_ps Ch14.1 (kd := 2) (bn := 1) (n := 10) (lo := -2147483648) (hi := 2147483647) (nx := 108) (by decide +kernel) (by first | omega | exact ⟨by omega, by omega⟩) ?_
            intro h17 eh17 Ih17
            have Ch17 : CI h17 := Ch14.wc eh17 Ih17 (by decide) (by decide)
            have Qh17 : zXR [(27, 27, 1, 2)] 0 0 h14 h17 := zXR.wc eh17 rfl ⟨by decide, by decide, Or.inl (by decide)⟩ (by first | decide | exact ⟨by decide, by decide⟩)
            have Xh17 : zXR msx163 (0) (0) h h17 := Xh14.tr (c2 := 0) (s2 := 0) Qh17 (by decide +kernel) (by decide) (by decide)
            refine zwW_p [(1, 0, 2), (1, 8, 0)] (q := 111) (ls' := [(2, 27), (0, a), (2, 2), (2, 3), (0, b), (0, c), (0, v6L4), (0, v7), (0, v13)]) (st' := [(0, v13), (2, 27)]) (by decide +kernel) rfl ?_
            refine zwW_ps Ch17.1 (kd := 2) (bn := 2) (n := 10) (lo := -2147483648) (hi := 2147483647) (nx := 114) (by decide +kernel) (by first | omega | exact ⟨by omega, by omega⟩) ?_
            intro h18 eh18 Ih18
            have Ch18 : CI h18 := Ch17.wc eh18 Ih18 (by decide) (by decide)
            have Qh18 : zXR [(27, 27, 2, 3)] 0 0 h17 h18 := zXR.wc eh18 rfl ⟨by decide, by decide, Or.inl (by decide)⟩ (by first | decide | exact ⟨by decide, by decide⟩)
            have Xh18 : zXR msx163 (0) (0) h h18 := Xh17.tr (c2 := 0) (s2 := 0) Qh18 (by decide +kernel) (by decide) (by decide)
            refine zwW_p [(1, 0, 2), (1, 7, 0)] (q := 117) (ls' := [(2, 27), (0, a), (2, 2), (2, 3), (0, b), (0, c), (0, v6L4), (0, v7), (0, v13)]) (st' := [(0, v7), (2, 27)]) (by decide +kernel) rfl ?_
            refine zwW_ps Ch18.1 (kd := 2) (bn := 3) (n := 10) (lo := -2147483648) (hi := 2147483647) (nx := 120) (by decide +kernel) (by first | omega | exact ⟨by omega, by omega⟩) ?_
            intro h19 eh19 Ih19
            have Ch19 : CI h19 := Ch18.wc eh19 Ih19 (by decide) (by decide)
            have Qh19 : zXR [(27, 27, 3, 4)] 0 0 h18 h19 := zXR.wc eh19 rfl ⟨by decide, by decide, Or.inl (by decide)⟩ (by first | decide | exact ⟨by decide, by decide⟩)
            have Xh19 : zXR msx163 (0) (0) h h19 := Xh18.tr (c2 := 0) (s2 := 0) Qh19 (by decide +kernel) (by decide) (by decide)
            refine zwW_inc (i := 6) (c := 1) (x := v6L4) (nx := 123) (by decide +kernel) rfl (by first | omega | exact ⟨by omega, by omega⟩) (ls' := [(2, 27), (0, a), (2, 2), (2, 3), (0, b), (0, c), (0, (v6L4 + 1)), (0, v7), (0, v13)]) rfl ?_
            refine zwW_p [(24, 18, 0)] (q := 18) (ls' := [(2, 27), (0, a), (2, 2), (2, 3), (0, b), (0, c), (0, (v6L4 + 1)), (0, v7), (0, v13)]) (st' := []) (by decide +kernel) rfl ?_
            exact IHL4 ((1000 - (v6L4 + 1))).toNat (by omega) (v6L4 + 1) (0, v7) (0, v13) h19 rfl (by omega) Ch19 (Xh19.le (by decide) (by decide))
          · refine zwW_p [(1, 8, 0), (1, 0, 2)] (q := 78) (ls' := [(2, 27), (0, a), (2, 2), (2, 3), (0, b), (0, c), (0, v6L4), (0, v7), (0, v13)]) (st' := [(2, 27), (0, v13)]) (by decide +kernel) rfl ?_
            refine zwW_gs Ch14.1 (kd := 2) (bn := 2) (n := 10) (t := 0) (lo := -2147483648) (hi := 2147483647) (nx := 81) (by decide +kernel) ?_
            intro v20 ev20 lv20 uv20
            refine zwic_gt (q := 102) (nx := 84) (by decide +kernel) (fun c21 => ?_) (fun c21 => ?_)
            · refine zwW_p [(1, 0, 2), (1, 6, 0)] (q := 105) (ls' := [(2, 27), (0, a), (2, 2), (2, 3), (0, b), (0, c), (0, v6L4), (0, v7), (0, v13)]) (st' := [(0, v6L4), (2, 27)]) (by decide +kernel) rfl ?_
              refine zwW_ps Ch14.1 (kd := 2) (bn := 1) (n := 10) (lo := -2147483648) (hi := 2147483647) (nx := 108) (by decide +kernel) (by first | omega | exact ⟨by omega, by omega⟩) ?_
              intro h22 eh22 Ih22
              have Ch22 : CI h22 := Ch14.wc eh22 Ih22 (by decide) (by decide)
              have Qh22 : zXR [(27, 27, 1, 2)] 0 0 h14 h22 := zXR.wc eh22 rfl ⟨by decide, by decide, Or.inl (by decide)⟩ (by first | decide | exact ⟨by decide, by decide⟩)
              have Xh22 : zXR msx163 (0) (0) h h22 := Xh14.tr (c2 := 0) (s2 := 0) Qh22 (by decide +kernel) (by decide) (by decide)
              refine zwW_p [(1, 0, 2), (1, 8, 0)] (q := 111) (ls' := [(2, 27), (0, a), (2, 2), (2, 3), (0, b), (0, c), (0, v6L4), (0, v7), (0, v13)]) (st' := [(0, v13), (2, 27)]) (by decide +kernel) rfl ?_
              refine zwW_ps Ch22.1 (kd := 2) (bn := 2) (n := 10) (lo := -2147483648) (hi := 2147483647) (nx := 114) (by decide +kernel) (by first | omega | exact ⟨by omega, by omega⟩) ?_
              intro h23 eh23 Ih23
              have Ch23 : CI h23 := Ch22.wc eh23 Ih23 (by decide) (by decide)
              have Qh23 : zXR [(27, 27, 2, 3)] 0 0 h22 h23 := zXR.wc eh23 rfl ⟨by decide, by decide, Or.inl (by decide)⟩ (by first | decide | exact ⟨by decide, by decide⟩)
              have Xh23 : zXR msx163 (0) (0) h h23 := Xh22.tr (c2 := 0) (s2 := 0) Qh23 (by decide +kernel) (by decide) (by decide)
              refine zwW_p [(1, 0, 2), (1, 7, 0)] (q := 117) (ls' := [(2, 27), (0, a), (2, 2), (2, 3), (0, b), (0, c), (0, v6L4), (0, v7), (0, v13)]) (st' := [(0, v7), (2, 27)]) (by decide +kernel) rfl ?_
              refine zwW_ps Ch23.1 (kd := 2) (bn := 3) (n := 10) (lo := -2147483648) (hi := 2147483647) (nx := 120) (by decide +kernel) (by first | omega | exact ⟨by omega, by omega⟩) ?_
              intro h24 eh24 Ih24
              have Ch24 : CI h24 := Ch23.wc eh24 Ih24 (by decide) (by decide)
              have Qh24 : zXR [(27, 27, 3, 4)] 0 0 h23 h24 := zXR.wc eh24 rfl ⟨by decide, by decide, Or.inl (by decide)⟩ (by first | decide | exact ⟨by decide, by decide⟩)
              have Xh24 : zXR msx163 (0) (0) h h24 := Xh23.tr (c2 := 0) (s2 := 0) Qh24 (by decide +kernel) (by decide) (by decide)
              refine zwW_inc (i := 6) (c := 1) (x := v6L4) (nx := 123) (by decide +kernel) rfl (by first | omega | exact ⟨by omega, by omega⟩) (ls' := [(2, 27), (0, a), (2, 2), (2, 3), (0, b), (0, c), (0, (v6L4 + 1)), (0, v7), (0, v13)]) rfl ?_
              refine zwW_p [(24, 18, 0)] (q := 18) (ls' := [(2, 27), (0, a), (2, 2), (2, 3), (0, b), (0, c), (0, (v6L4 + 1)), (0, v7), (0, v13)]) (st' := []) (by decide +kernel) rfl ?_
              exact IHL4 ((1000 - (v6L4 + 1))).toNat (by omega) (v6L4 + 1) (0, v7) (0, v13) h24 rfl (by omega) Ch24 (Xh24.le (by decide) (by decide))
            · refine zwW_p [(1, 8, 0), (1, 0, 2)] (q := 87) (ls' := [(2, 27), (0, a), (2, 2), (2, 3), (0, b), (0, c), (0, v6L4), (0, v7), (0, v13)]) (st' := [(2, 27), (0, v13)]) (by decide +kernel) rfl ?_
              refine zwW_gs Ch14.1 (kd := 2) (bn := 2) (n := 10) (t := 0) (lo := -2147483648) (hi := 2147483647) (nx := 90) (by decide +kernel) ?_
              intro v25 ev25 lv25 uv25
              refine zwic_ne (q := 120) (nx := 93) (by decide +kernel) (fun c26 => ?_) (fun c26 => ?_)
              · refine zwW_inc (i := 6) (c := 1) (x := v6L4) (nx := 123) (by decide +kernel) rfl (by first | omega | exact ⟨by omega, by omega⟩) (ls' := [(2, 27), (0, a), (2, 2), (2, 3), (0, b), (0, c), (0, (v6L4 + 1)), (0, v7), (0, v13)]) rfl ?_
                refine zwW_p [(24, 18, 0)] (q := 18) (ls' := [(2, 27), (0, a), (2, 2), (2, 3), (0, b), (0, c), (0, (v6L4 + 1)), (0, v7), (0, v13)]) (st' := []) (by decide +kernel) rfl ?_
                exact IHL4 ((1000 - (v6L4 + 1))).toNat (by omega) (v6L4 + 1) (0, v7) (0, v13) h14 rfl (by omega) Ch14 (Xh14.le (by decide) (by decide))
              · refine zwW_p [(1, 7, 0), (1, 0, 2)] (q := 96) (ls' := [(2, 27), (0, a), (2, 2), (2, 3), (0, b), (0, c), (0, v6L4), (0, v7), (0, v13)]) (st' := [(2, 27), (0, v7)]) (by decide +kernel) rfl ?_
                refine zwW_gs Ch14.1 (kd := 2) (bn := 3) (n := 10) (t := 0) (lo := -2147483648) (hi := 2147483647) (nx := 99) (by decide +kernel) ?_
                intro v27 ev27 lv27 uv27
                refine zwic_ge (q := 120) (nx := 102) (by decide +kernel) (fun c28 => ?_) (fun c28 => ?_)
                · refine zwW_inc (i := 6) (c := 1) (x := v6L4) (nx := 123) (by decide +kernel) rfl (by first | omega | exact ⟨by omega, by omega⟩) (ls' := [(2, 27), (0, a), (2, 2), (2, 3), (0, b), (0, c), (0, (v6L4 + 1)), (0, v7), (0, v13)]) rfl ?_
                  refine zwW_p [(24, 18, 0)] (q := 18) (ls' := [(2, 27), (0, a), (2, 2), (2, 3), (0, b), (0, c), (0, (v6L4 + 1)), (0, v7), (0, v13)]) (st' := []) (by decide +kernel) rfl ?_
                  exact IHL4 ((1000 - (v6L4 + 1))).toNat (by omega) (v6L4 + 1) (0, v7) (0, v13) h14 rfl (by omega) Ch14 (Xh14.le (by decide) (by decide))
                · refine zwW_p [(1, 0, 2), (1, 6, 0)] (q := 105) (ls' := [(2, 27), (0, a), (2, 2), (2, 3), (0, b), (0, c), (0, v6L4), (0, v7), (0, v13)]) (st' := [(0, v6L4), (2, 27)]) (by decide +kernel) rfl ?_
                  refine zwW_ps Ch14.1 (kd := 2) (bn := 1) (n := 10) (lo := -2147483648) (hi := 2147483647) (nx := 108) (by decide +kernel) (by first | omega | exact ⟨by omega, by omega⟩) ?_
                  intro h29 eh29 Ih29
                  have Ch29 : CI h29 := Ch14.wc eh29 Ih29 (by decide) (by decide)
                  have Qh29 : zXR [(27, 27, 1, 2)] 0 0 h14 h29 := zXR.wc eh29 rfl ⟨by decide, by decide, Or.inl (by decide)⟩ (by first | decide | exact ⟨by decide, by decide⟩)
                  have Xh29 : zXR msx163 (0) (0) h h29 := Xh14.tr (c2 := 0) (s2 := 0) Qh29 (by decide +kernel) (by decide) (by decide)
                  refine zwW_p [(1, 0, 2), (1, 8, 0)] (q := 111) (ls' := [(2, 27), (0, a), (2, 2), (2, 3), (0, b), (0, c), (0, v6L4), (0, v7), (0, v13)]) (st' := [(0, v13), (2, 27)]) (by decide +kernel) rfl ?_
                  refine zwW_ps Ch29.1 (kd := 2) (bn := 2) (n := 10) (lo := -2147483648) (hi := 2147483647) (nx := 114) (by decide +kernel) (by first | omega | exact ⟨by omega, by omega⟩) ?_
                  intro h30 eh30 Ih30
                  have Ch30 : CI h30 := Ch29.wc eh30 Ih30 (by decide) (by decide)
                  have Qh30 : zXR [(27, 27, 2, 3)] 0 0 h29 h30 := zXR.wc eh30 rfl ⟨by decide, by decide, Or.inl (by decide)⟩ (by first | decide | exact ⟨by decide, by decide⟩)
                  have Xh30 : zXR msx163 (0) (0) h h30 := Xh29.tr (c2 := 0) (s2 := 0) Qh30 (by decide +kernel) (by decide) (by decide)
                  refine zwW_p [(1, 0, 2), (1, 7, 0)] (q := 117) (ls' := [(2, 27), (0, a), (2, 2), (2, 3), (0, b), (0, c), (0, v6L4), (0, v7), (0, v13)]) (st' := [(0, v7), (2, 27)]) (by decide +kernel) rfl ?_
                  refine zwW_ps Ch30.1 (kd := 2) (bn := 3) (n := 10) (lo := -2147483648) (hi := 2147483647) (nx := 120) (by decide +kernel) (by first | omega | exact ⟨by omega, by omega⟩) ?_
                  intro h31 eh31 Ih31
                  have Ch31 : CI h31 := Ch30.wc eh31 Ih31 (by decide) (by decide)
                  have Qh31 : zXR [(27, 27, 3, 4)] 0 0 h30 h31 := zXR.wc eh31 rfl ⟨by decide, by decide, Or.inl (by decide)⟩ (by first | decide | exact ⟨by decide, by decide⟩)
                  have Xh31 : zXR msx163 (0) (0) h h31 := Xh30.tr (c2 := 0) (s2 := 0) Qh31 (by decide +kernel) (by decide) (by decide)
                  refine zwW_inc (i := 6) (c := 1) (x := v6L4) (nx := 123) (by decide +kernel) rfl (by first | omega | exact ⟨by omega, by omega⟩) (ls' := [(2, 27), (0, a), (2, 2), (2, 3), (0, b), (0, c), (0, (v6L4 + 1)), (0, v7), (0, v13)]) rfl ?_
                  refine zwW_p [(24, 18, 0)] (q := 18) (ls' := [(2, 27), (0, a), (2, 2), (2, 3), (0, b), (0, c), (0, (v6L4 + 1)), (0, v7), (0, v13)]) (st' := []) (by decide +kernel) rfl ?_
                  exact IHL4 ((1000 - (v6L4 + 1))).toNat (by omega) (v6L4 + 1) (0, v7) (0, v13) h31 rfl (by omega) Ch31 (Xh31.le (by decide) (by decide))
  exact L4 _ 0 (9, 0) (9, 0) h3 rfl (by omega) Ch3 (Xh3.le (by decide) (by decide))
-- WheelLand$Handwork.isTold(LWheelLand$Lot;)Z
theorem x140 {sc : List Int} (h : Hp) (C : CI h) (r : Int) (G_r : gL h r) : zwC sc 5 140 [(2, 19), (2, r)] h (zwRt 0 (fun x g => h = g ∧ ((x = 1 ∧ (0 ≤ 1)) ∨ (x = 0 ∧ (0 ≤ 1))))) := by
  refine zwC_of (D := 4) 3 (by decide +kernel) rfl (ls := [(2, 19), (2, r), (9, 0)]) rfl ?_
  have lw_r := G_r.1
  refine zwW_p [(0, 0, 0), (2, 2, 0)] (q := 2) (ls' := [(2, 19), (2, r), (0, 0)]) (st' := []) (by decide +kernel) rfl ?_
  have L1 : ∀ (n : Nat) (v2L1 : Int), n = ((1000 - v2L1)).toNat → (0 ≤ v2L1 ∧ v2L1 ≤ 1000) → zwW sc (4) 140 2 [(2, 19), (2, r), (0, v2L1)] [] h (zwRt 0 (fun x g => h = g ∧ ((x = 1 ∧ (0 ≤ 1)) ∨ (x = 0 ∧ (0 ≤ 1))))) := by
    intro n
    induction n using Nat.strongRecOn with
    | ind n IHL1 =>
      intro v2L1 hnL1 iL1_0
      refine zwW_p [(1, 2, 0), (1, 0, 2)] (q := 4) (ls' := [(2, 19), (2, r), (0, v2L1)]) (st' := [(2, 19), (0, v2L1)]) (by decide +kernel) rfl ?_
      refine zwW_gc C.1 (kd := 3) (bn := 0) (n := 10) (c := 20) (nx := 7) (by decide +kernel) ?_
      refine zwW_cm C.1 (op := 60) (k' := 96) (n := 0) (kd := 0) (m := 3) (nx := 10) (r := 20) (tl := []) (st' := [(0, v2L1)]) (by decide +kernel) rfl (by decide +kernel) rfl (x96_20 C) ?_
      rintro v2 _ ⟨rfl, ev2⟩
      have bv2 := zLb_20 C
      refine zwic_ge (q := 33) (nx := 13) (by decide +kernel) (fun c3 => ?_) (fun c3 => ?_)
      · refine zwW_p [(0, 0, 0)] (q := 34) (ls' := [(2, 19), (2, r), (0, v2L1)]) (st' := [(0, 0)]) (by decide +kernel) rfl ?_
        refine zwW_ret (nx := 35) (a := 1) (b := 0) (by decide +kernel) rfl (Or.inr (Or.inl ⟨rfl, Or.inl rfl⟩)) ?_
        exact ⟨rfl, Or.inr ⟨rfl, by omega⟩⟩
      · refine zwW_p [(1, 0, 2)] (q := 14) (ls' := [(2, 19), (2, r), (0, v2L1)]) (st' := [(2, 19)]) (by decide +kernel) rfl ?_
        refine zwW_gc C.1 (kd := 3) (bn := 0) (n := 10) (c := 20) (nx := 17) (by decide +kernel) ?_
        refine zwW_p [(1, 2, 0)] (q := 18) (ls' := [(2, 19), (2, r), (0, v2L1)]) (st' := [(0, v2L1), (2, 20)]) (by decide +kernel) rfl ?_
        refine zwW_cm C.1 (op := 60) (k' := 123) (n := 1) (kd := 0) (m := 3) (nx := 21) (r := 20) (tl := [(0, v2L1)]) (st' := []) (by decide +kernel) rfl (by decide +kernel) rfl (x123_20 C (i := v2L1) (by first | omega | exact ⟨by omega, by omega⟩)) ?_
        rintro v4 _ ⟨rfl, Gv4, ev4⟩
        have lv4 := Gv4.1
        refine zwW_p [(1, 1, 2)] (q := 22) (ls' := [(2, 19), (2, r), (0, v2L1)]) (st' := [(2, r), (2, v4)]) (by decide +kernel) rfl ?_
        refine zwac_ne (q := 27) (nx := 25) (by decide +kernel) ⟨by omega, by omega, by omega, by omega⟩ (fun c5 => ?_) (fun c5 => ?_)
        · refine zwW_inc (i := 2) (c := 1) (x := v2L1) (nx := 30) (by decide +kernel) rfl (by first | omega | exact ⟨by omega, by omega⟩) (ls' := [(2, 19), (2, r), (0, (v2L1 + 1))]) rfl ?_
          refine zwW_p [(24, 2, 0)] (q := 2) (ls' := [(2, 19), (2, r), (0, (v2L1 + 1))]) (st' := []) (by decide +kernel) rfl ?_
          exact IHL1 ((1000 - (v2L1 + 1))).toNat (by omega) (v2L1 + 1) rfl (by omega)
        · refine zwW_p [(0, 1, 0)] (q := 26) (ls' := [(2, 19), (2, r), (0, v2L1)]) (st' := [(0, 1)]) (by decide +kernel) rfl ?_
          refine zwW_ret (nx := 27) (a := 1) (b := 0) (by decide +kernel) rfl (Or.inr (Or.inl ⟨rfl, Or.inr rfl⟩)) ?_
          exact ⟨rfl, Or.inl ⟨rfl, by omega⟩⟩
  exact L1 _ 0 rfl (by omega)
def msx143 : Zms := [(19, 19, 2, 3), (19, 19, 3, 4), (21, 21, 0, 3), (24, 24, 0, 6)]
-- WheelLand$Handwork.begin()V
theorem x143 {sc : List Int} (h : Hp) (C : CI h) : zwC sc 2 143 [(2, 19)] h (zwRv (fun g => CI g ∧ zXR msx143 (6) (6000) h g)) := by
  refine zwC_of (D := 1) 1 (by decide +kernel) rfl (ls := [(2, 19)]) rfl ?_
  have X : zXR msx143 0 0 h h := zXR.rf _ _
  refine zwW_p [(1, 0, 2)] (q := 1) (ls' := [(2, 19)]) (st' := [(2, 19)]) (by decide +kernel) rfl ?_
  refine zwW_gc C.1 (kd := 3) (bn := 1) (n := 10) (c := 21) (nx := 4) (by decide +kernel) ?_
  refine zwW_cmv C.1 (op := 60) (k' := 141) (n := 0) (kd := 0) (m := 3) (nx := 7) (r := 21) (tl := []) (st' := []) (by decide +kernel) rfl (by decide +kernel) rfl (x141_21 C) ?_
  rintro h2 ⟨Ch2, Qh2, zh2, oh2⟩
  have zh2 : fld h2 21 2 = 0 := zh2
  have Xh2 : zXR msx143 (6) (6000) h h2 := X.tr (c2 := 6) (s2 := 6000) Qh2 (by decide +kernel) (by decide) (by decide)
  refine zwW_p [(1, 0, 2), (0, 0, 0)] (q := 9) (ls' := [(2, 19)]) (st' := [(0, 0), (2, 19)]) (by decide +kernel) rfl ?_
  refine zwW_ps Ch2.1 (kd := 3) (bn := 2) (n := 10) (lo := -2147483648) (hi := 2147483647) (nx := 12) (by decide +kernel) (by first | decide | exact ⟨by decide, by decide⟩) ?_
  intro h3 eh3 Ih3
  have Ch3 : CI h3 := Ch2.wc eh3 Ih3 (by decide) (by decide)
  have Qh3 : zXR [(19, 19, 2, 3)] 0 0 h2 h3 := zXR.wc eh3 rfl ⟨by decide, by decide, Or.inl (by decide)⟩ (by first | decide | exact ⟨by decide, by decide⟩)
  have Xh3 : zXR msx143 (6) (6000) h h3 := Xh2.tr (c2 := 6) (s2 := 6000) Qh3 (by decide +kernel) (by decide) (by decide)
  refine zwW_p [(1, 0, 2), (0, 0, 0)] (q := 14) (ls' := [(2, 19)]) (st' := [(0, 0), (2, 19)]) (by decide +kernel) rfl ?_
  refine zwW_ps Ch3.1 (kd := 3) (bn := 3) (n := 10) (lo := -2147483648) (hi := 2147483647) (nx := 17) (by decide +kernel) (by first | decide | exact ⟨by decide, by decide⟩) ?_
  intro h4 eh4 Ih4
  have Ch4 : CI h4 := Ch3.wc eh4 Ih4 (by decide) (by decide)
  have Qh4 : zXR [(19, 19, 3, 4)] 0 0 h3 h4 := zXR.wc eh4 rfl ⟨by decide, by decide, Or.inl (by decide)⟩ (by first | decide | exact ⟨by decide, by decide⟩)
  have Xh4 : zXR msx143 (6) (6000) h h4 := Xh3.tr (c2 := 6) (s2 := 6000) Qh4 (by decide +kernel) (by decide) (by decide)
  refine zwW_p [(1, 0, 2)] (q := 18) (ls' := [(2, 19)]) (st' := [(2, 19)]) (by decide +kernel) rfl ?_
  refine zwW_gc Ch4.1 (kd := 3) (bn := 7) (n := 10) (c := 24) (nx := 21) (by decide +kernel) ?_
  refine zwW_p [(0, 0, 0)] (q := 22) (ls' := [(2, 19)]) (st' := [(0, 0), (2, 24)]) (by decide +kernel) rfl ?_
  refine zwW_csv (k' := 180) (n := 2) (nx := 25) (as := [(2, 24), (0, 0)]) (st' := []) (by decide +kernel) rfl (x180_24 Ch4 (by first | omega | exact ⟨by omega, by omega⟩)) rfl ?_
  rintro h5 ⟨Ch5, Qh5, fh5⟩
  have Xh5 : zXR msx143 (6) (6000) h h5 := Xh4.tr (c2 := 6) (s2 := 6000) Qh5 (by decide +kernel) (by decide) (by decide)
  refine zwW_retv (nx := 26) (a := 0) (b := 0) (by decide +kernel) ?_
  exact ⟨Ch5, Xh5.le (by decide) (by decide)⟩
def msx144 : Zms := [(21, 21, 0, 3)]
-- WheelLand$Handwork.addLoom(LWheelLand$House;)V
theorem x144 {sc : List Int} (h : Hp) (C : CI h) (r : Int) (G_r : gH h r) (hl : h.length ≤ 999930000) : zwC sc 7 144 [(2, 19), (2, r)] h (zwRv (fun g => CI g ∧ zXR msx144 (0) (0) h g)) := by
  refine zwC_of (D := 6) 2 (by decide +kernel) rfl (ls := [(2, 19), (2, r)]) rfl ?_
  have lw_r := G_r.1
  have X : zXR msx144 0 0 h h := zXR.rf _ _
  refine zwW_p [(1, 0, 2)] (q := 1) (ls' := [(2, 19), (2, r)]) (st' := [(2, 19)]) (by decide +kernel) rfl ?_
  refine zwW_gc C.1 (kd := 3) (bn := 1) (n := 10) (c := 21) (nx := 4) (by decide +kernel) ?_
  refine zwW_cm C.1 (op := 60) (k' := 96) (n := 0) (kd := 0) (m := 3) (nx := 7) (r := 21) (tl := []) (st' := []) (by decide +kernel) rfl (by decide +kernel) rfl (x96_21 C) ?_
  rintro v1 _ ⟨rfl, ev1⟩
  have bv1 := zLb_21 C
  refine zwW_p [(0, 6, 0)] (q := 9) (ls' := [(2, 19), (2, r)]) (st' := [(0, 6), (0, v1)]) (by decide +kernel) rfl ?_
  refine zwic_ge (q := 21) (nx := 12) (by decide +kernel) (fun c2 => ?_) (fun c2 => ?_)
  · refine zwW_retv (nx := 22) (a := 0) (b := 0) (by decide +kernel) ?_
    exact ⟨C, X.le (by decide) (by decide)⟩
  · refine zwW_p [(1, 0, 2)] (q := 13) (ls' := [(2, 19), (2, r)]) (st' := [(2, 19)]) (by decide +kernel) rfl ?_
    refine zwW_gc C.1 (kd := 3) (bn := 1) (n := 10) (c := 21) (nx := 16) (by decide +kernel) ?_
    refine zwW_p [(1, 1, 2)] (q := 17) (ls' := [(2, 19), (2, r)]) (st' := [(2, r), (2, 21)]) (by decide +kernel) rfl ?_
    refine zwW_cm C.1 (op := 60) (k' := 100) (n := 1) (kd := 0) (m := 3) (nx := 20) (r := 21) (tl := [(2, r)]) (st' := []) (by decide +kernel) rfl (by decide +kernel) rfl (x100_21 C G_r (by omega) (by omega)) ?_
    rintro x h4 ⟨rfl, Ah4⟩
    have Ch4 := Ah4.1
    have Qh4 : zXR [(21, 21, 0, 3)] (0) (0) h h4 := Ah4.2.1
    have zh4 : fld h4 21 2 = fld h 21 2 + 1 := Ah4.2.2.1
    have Xh4 : zXR msx144 (0) (0) h h4 := X.tr (c2 := 0) (s2 := 0) Qh4 (by decide +kernel) (by decide) (by decide)
    have Gh4_0 : gH h4 r := G_r.x Qh4
    refine zwW_p [(15, 0, 0)] (q := 21) (ls' := [(2, 19), (2, r)]) (st' := []) (by decide +kernel) rfl ?_
    refine zwW_retv (nx := 22) (a := 0) (b := 0) (by decide +kernel) ?_
    exact ⟨Ch4, Xh4.le (by decide) (by decide)⟩
def msx211 : Zms := [(19, 19, 2, 3), (19, 19, 3, 4), (22, 22, 0, 6), (23, 23, 0, 6)]
-- WheelLand$Handwork.offer(IIII)V
theorem x211 {sc : List Int} (h : Hp) (C : CI h) (a b c d : Int) (q_a : -2147483648 ≤ a ∧ a ≤ 2147483647) (q_b : -2147483648 ≤ b ∧ b ≤ 2147483647) (q_c : -2147483648 ≤ c ∧ c ≤ 2147483647) (q_d : -2147483648 ≤ d ∧ d ≤ 2147483647) : zwC sc 1 211 [(2, 19), (0, a), (0, b), (0, c), (0, d)] h (zwRv (fun g => CI g ∧ zXR msx211 (0) (0) h g)) := by
  refine zwC_of (D := 0) 5 (by decide +kernel) rfl (ls := [(2, 19), (0, a), (0, b), (0, c), (0, d)]) rfl ?_
  have X : zXR msx211 0 0 h h := zXR.rf _ _
  refine zwW_p [(1, 1, 0)] (q := 1) (ls' := [(2, 19), (0, a), (0, b), (0, c), (0, d)]) (st' := [(0, a)]) (by decide +kernel) rfl ?_
  refine zwif_lt (q := 50) (nx := 4) (by decide +kernel) (fun c1 => ?_) (fun c1 => ?_)
  · refine zwW_retv (nx := 51) (a := 0) (b := 0) (by decide +kernel) ?_
    exact ⟨C, X.le (by decide) (by decide)⟩
  · refine zwW_p [(1, 1, 0), (0, 6, 0)] (q := 7) (ls' := [(2, 19), (0, a), (0, b), (0, c), (0, d)]) (st' := [(0, 6), (0, a)]) (by decide +kernel) rfl ?_
    refine zwic_ge (q := 50) (nx := 10) (by decide +kernel) (fun c2 => ?_) (fun c2 => ?_)
    · refine zwW_retv (nx := 51) (a := 0) (b := 0) (by decide +kernel) ?_
      exact ⟨C, X.le (by decide) (by decide)⟩
    · refine zwW_p [(1, 0, 2)] (q := 11) (ls' := [(2, 19), (0, a), (0, b), (0, c), (0, d)]) (st' := [(2, 19)]) (by decide +kernel) rfl ?_
      refine zwW_gc C.1 (kd := 3) (bn := 5) (n := 10) (c := 22) (nx := 14) (by decide +kernel) ?_
      refine zwW_p [(1, 1, 0), (1, 2, 0)] (q := 16) (ls' := [(2, 19), (0, a), (0, b), (0, c), (0, d)]) (st' := [(0, b), (0, a), (2, 22)]) (by decide +kernel) rfl ?_
      refine zwW_as C.1 (a1 := 22) (a2 := 22) (n := 6) (lo := -2147483648) (hi := 2147483647) (nx := 17) (by decide +kernel) (by first | decide | exact ⟨by decide, by decide⟩) (by first | omega | exact ⟨by omega, by omega⟩) (by first | omega | exact ⟨by omega, by omega⟩) ?_
      intro h3 eh3 Ih3
      have Ch3 : CI h3 := C.wc eh3 Ih3 (by decide) (by decide)
      have Qh3 : zXR [(22, 22, 0, 6)] 0 0 h h3 := zXR.wc eh3 rfl ⟨by decide, by decide, Or.inl (by decide)⟩ (by first | omega | exact ⟨by omega, by omega⟩)
      have Xh3 : zXR msx211 (0) (0) h h3 := X.tr (c2 := 0) (s2 := 0) Qh3 (by decide +kernel) (by decide) (by decide)
      refine zwW_p [(1, 0, 2)] (q := 18) (ls' := [(2, 19), (0, a), (0, b), (0, c), (0, d)]) (st' := [(2, 19)]) (by decide +kernel) rfl ?_
      refine zwW_gc Ch3.1 (kd := 3) (bn := 6) (n := 10) (c := 23) (nx := 21) (by decide +kernel) ?_
      refine zwW_p [(1, 1, 0), (1, 4, 0)] (q := 24) (ls' := [(2, 19), (0, a), (0, b), (0, c), (0, d)]) (st' := [(0, d), (0, a), (2, 23)]) (by decide +kernel) rfl ?_
      refine zwW_as Ch3.1 (a1 := 23) (a2 := 23) (n := 6) (lo := -2147483648) (hi := 2147483647) (nx := 25) (by decide +kernel) (by first | decide | exact ⟨by decide, by decide⟩) (by first | omega | exact ⟨by omega, by omega⟩) (by first | omega | exact ⟨by omega, by omega⟩) ?_
      intro h4 eh4 Ih4
      have Ch4 : CI h4 := Ch3.wc eh4 Ih4 (by decide) (by decide)
      have Qh4 : zXR [(23, 23, 0, 6)] 0 0 h3 h4 := zXR.wc eh4 rfl ⟨by decide, by decide, Or.inl (by decide)⟩ (by first | omega | exact ⟨by omega, by omega⟩)
      have Xh4 : zXR msx211 (0) (0) h h4 := Xh3.tr (c2 := 0) (s2 := 0) Qh4 (by decide +kernel) (by decide) (by decide)
      refine zwW_p [(1, 4, 0)] (q := 27) (ls' := [(2, 19), (0, a), (0, b), (0, c), (0, d)]) (st' := [(0, d)]) (by decide +kernel) rfl ?_
      refine zwif_eq (q := 50) (nx := 30) (by decide +kernel) (fun c5 => ?_) (fun c5 => ?_)
      · refine zwW_retv (nx := 51) (a := 0) (b := 0) (by decide +kernel) ?_
        exact ⟨Ch4, Xh4.le (by decide) (by decide)⟩
      · refine zwW_p [(1, 0, 2), (12, 0, 0)] (q := 32) (ls' := [(2, 19), (0, a), (0, b), (0, c), (0, d)]) (st' := [(2, 19), (2, 19)]) (by decide +kernel) rfl ?_
        refine zwW_gs Ch4.1 (kd := 3) (bn := 2) (n := 10) (t := 0) (lo := -2147483648) (hi := 2147483647) (nx := 35) (by decide +kernel) ?_
        intro v6 ev6 lv6 uv6
        refine zwW_p [(1, 2, 0)] (q := 36) (ls' := [(2, 19), (0, a), (0, b), (0, c), (0, d)]) (st' := [(0, b), (0, v6), (2, 19)]) (by decide +kernel) rfl ?_
        refine zwW_adw (nx := 37) (by decide +kernel) ?_
        intro v7 ev7 lv7 uv7
        refine zwW_ps Ch4.1 (kd := 3) (bn := 2) (n := 10) (lo := -2147483648) (hi := 2147483647) (nx := 40) (by decide +kernel) (by first | omega | exact ⟨by omega, by omega⟩) ?_
        intro h8 eh8 Ih8
        have Ch8 : CI h8 := Ch4.wc eh8 Ih8 (by decide) (by decide)
        have Qh8 : zXR [(19, 19, 2, 3)] 0 0 h4 h8 := zXR.wc eh8 rfl ⟨by decide, by decide, Or.inl (by decide)⟩ (by first | decide | exact ⟨by decide, by decide⟩)
        have Xh8 : zXR msx211 (0) (0) h h8 := Xh4.tr (c2 := 0) (s2 := 0) Qh8 (by decide +kernel) (by decide) (by decide)
        refine zwW_p [(1, 0, 2), (12, 0, 0)] (q := 42) (ls' := [(2, 19), (0, a), (0, b), (0, c), (0, d)]) (st' := [(2, 19), (2, 19)]) (by decide +kernel) rfl ?_
        refine zwW_gs Ch8.1 (kd := 3) (bn := 3) (n := 10) (t := 0) (lo := -2147483648) (hi := 2147483647) (nx := 45) (by decide +kernel) ?_
        intro v9 ev9 lv9 uv9
        refine zwW_p [(1, 3, 0)] (q := 46) (ls' := [(2, 19), (0, a), (0, b), (0, c), (0, d)]) (st' := [(0, c), (0, v9), (2, 19)]) (by decide +kernel) rfl ?_
        refine zwW_adw (nx := 47) (by decide +kernel) ?_
        intro v10 ev10 lv10 uv10
        refine zwW_ps Ch8.1 (kd := 3) (bn := 3) (n := 10) (lo := -2147483648) (hi := 2147483647) (nx := 50) (by decide +kernel) (by first | omega | exact ⟨by omega, by omega⟩) ?_
        intro h11 eh11 Ih11
        have Ch11 : CI h11 := Ch8.wc eh11 Ih11 (by decide) (by decide)
        have Qh11 : zXR [(19, 19, 3, 4)] 0 0 h8 h11 := zXR.wc eh11 rfl ⟨by decide, by decide, Or.inl (by decide)⟩ (by first | decide | exact ⟨by decide, by decide⟩)
        have Xh11 : zXR msx211 (0) (0) h h11 := Xh8.tr (c2 := 0) (s2 := 0) Qh11 (by decide +kernel) (by decide) (by decide)
        refine zwW_retv (nx := 51) (a := 0) (b := 0) (by decide +kernel) ?_
        exact ⟨Ch11, Xh11.le (by decide) (by decide)⟩
-- WheelLand$Handwork.whoWeaves(I)I
theorem x147 {sc : List Int} (h : Hp) (C : CI h) (a : Int) (q_a : -2147483648 ≤ a ∧ a ≤ 2147483647) : zwC sc 5 147 [(2, 19), (0, a)] h (zwRt 0 (fun x g => h = g ∧ (-2147483648 ≤ x ∧ x ≤ 2147483647))) := by
  refine zwC_of (D := 4) 3 (by decide +kernel) rfl (ls := [(2, 19), (0, a), (9, 0)]) rfl ?_
  refine zwW_p [(1, 1, 0)] (q := 1) (ls' := [(2, 19), (0, a), (9, 0)]) (st' := [(0, a)]) (by decide +kernel) rfl ?_
  refine zwif_lt (q := 19) (nx := 4) (by decide +kernel) (fun c1 => ?_) (fun c1 => ?_)
  · refine zwW_p [(0, -1, 0), (2, 2, 0), (1, 2, 0)] (q := 22) (ls' := [(2, 19), (0, a), (0, -1)]) (st' := [(0, -1)]) (by decide +kernel) rfl ?_
    refine zwif_lt (q := 53) (nx := 25) (by decide +kernel) (fun c2 => ?_) (fun c2 => ?_)
    · refine zwW_p [(0, -1, 0)] (q := 54) (ls' := [(2, 19), (0, a), (0, -1)]) (st' := [(0, -1)]) (by decide +kernel) rfl ?_
      refine zwW_ret (nx := 55) (a := 0) (b := 0) (by decide +kernel) rfl (Or.inl rfl) ?_
      exact ⟨rfl, by omega⟩
    · exfalso; omega
  · refine zwW_p [(1, 1, 0), (0, 6, 0)] (q := 7) (ls' := [(2, 19), (0, a), (9, 0)]) (st' := [(0, 6), (0, a)]) (by decide +kernel) rfl ?_
    refine zwic_ge (q := 19) (nx := 10) (by decide +kernel) (fun c3 => ?_) (fun c3 => ?_)
    · refine zwW_p [(0, -1, 0), (2, 2, 0), (1, 2, 0)] (q := 22) (ls' := [(2, 19), (0, a), (0, -1)]) (st' := [(0, -1)]) (by decide +kernel) rfl ?_
      refine zwif_lt (q := 53) (nx := 25) (by decide +kernel) (fun c4 => ?_) (fun c4 => ?_)
      · refine zwW_p [(0, -1, 0)] (q := 54) (ls' := [(2, 19), (0, a), (0, -1)]) (st' := [(0, -1)]) (by decide +kernel) rfl ?_
        refine zwW_ret (nx := 55) (a := 0) (b := 0) (by decide +kernel) rfl (Or.inl rfl) ?_
        exact ⟨rfl, by omega⟩
      · exfalso; omega
    · refine zwW_p [(1, 0, 2)] (q := 11) (ls' := [(2, 19), (0, a), (9, 0)]) (st' := [(2, 19)]) (by decide +kernel) rfl ?_
      refine zwW_gc C.1 (kd := 3) (bn := 9) (n := 10) (c := 26) (nx := 14) (by decide +kernel) ?_
      refine zwW_p [(1, 1, 0)] (q := 15) (ls' := [(2, 19), (0, a), (9, 0)]) (st' := [(0, a), (2, 26)]) (by decide +kernel) rfl ?_
      refine zwW_al C.1 (a1 := 26) (a2 := 26) (kd := 20) (n := 6) (t := 0) (lo := -2147483648) (hi := 2147483647) (nx := 16) (by decide +kernel) (by first | decide | exact ⟨by decide, by decide⟩) (by first | omega | exact ⟨by omega, by omega⟩) ?_
      intro v5 ev5 lv5 uv5
      refine zwW_p [(24, 20, 0), (2, 2, 0), (1, 2, 0)] (q := 22) (ls' := [(2, 19), (0, a), (0, v5)]) (st' := [(0, v5)]) (by decide +kernel) rfl ?_
      refine zwif_lt (q := 53) (nx := 25) (by decide +kernel) (fun c6 => ?_) (fun c6 => ?_)
      · refine zwW_p [(0, -1, 0)] (q := 54) (ls' := [(2, 19), (0, a), (0, v5)]) (st' := [(0, -1)]) (by decide +kernel) rfl ?_
        refine zwW_ret (nx := 55) (a := 0) (b := 0) (by decide +kernel) rfl (Or.inl rfl) ?_
        exact ⟨rfl, by omega⟩
      · refine zwW_p [(1, 2, 0), (1, 0, 2)] (q := 27) (ls' := [(2, 19), (0, a), (0, v5)]) (st' := [(2, 19), (0, v5)]) (by decide +kernel) rfl ?_
        refine zwW_gc C.1 (kd := 3) (bn := 1) (n := 10) (c := 21) (nx := 30) (by decide +kernel) ?_
        refine zwW_cm C.1 (op := 60) (k' := 96) (n := 0) (kd := 0) (m := 3) (nx := 33) (r := 21) (tl := []) (st' := [(0, v5)]) (by decide +kernel) rfl (by decide +kernel) rfl (x96_21 C) ?_
        rintro v7 _ ⟨rfl, ev7⟩
        have bv7 := zLb_21 C
        refine zwic_ge (q := 53) (nx := 36) (by decide +kernel) (fun c8 => ?_) (fun c8 => ?_)
        · refine zwW_p [(0, -1, 0)] (q := 54) (ls' := [(2, 19), (0, a), (0, v5)]) (st' := [(0, -1)]) (by decide +kernel) rfl ?_
          refine zwW_ret (nx := 55) (a := 0) (b := 0) (by decide +kernel) rfl (Or.inl rfl) ?_
          exact ⟨rfl, by omega⟩
        · refine zwW_p [(1, 0, 2)] (q := 37) (ls' := [(2, 19), (0, a), (0, v5)]) (st' := [(2, 19)]) (by decide +kernel) rfl ?_
          refine zwW_gc C.1 (kd := 3) (bn := 1) (n := 10) (c := 21) (nx := 40) (by decide +kernel) ?_
          refine zwW_p [(1, 2, 0)] (q := 41) (ls' := [(2, 19), (0, a), (0, v5)]) (st' := [(0, v5), (2, 21)]) (by decide +kernel) rfl ?_
          refine zwW_cm C.1 (op := 60) (k' := 123) (n := 1) (kd := 0) (m := 3) (nx := 44) (r := 21) (tl := [(0, v5)]) (st' := []) (by decide +kernel) rfl (by decide +kernel) rfl (x123_21 C (i := v5) (by first | omega | exact ⟨by omega, by omega⟩)) ?_
          rintro v9 _ ⟨rfl, Gv9, ev9⟩
          have lv9 := Gv9.1
          refine zwW_cast (a := 4) (kd := 4) (n := 19) (nx := 47) (by decide +kernel) rfl (Or.inr Gv9.2.1) ?_
          refine zwX_gi C (kd := 4) (bn := 0) (n := 19) (nx := 50) (by decide +kernel) Gv9.2.1 Gv9.1 rfl ?_
          intro v10 ev10 lv10 uv10
          refine zwW_p [(24, 54, 0)] (q := 54) (ls' := [(2, 19), (0, a), (0, v5)]) (st' := [(0, v10)]) (by decide +kernel) rfl ?_
          refine zwW_ret (nx := 55) (a := 0) (b := 0) (by decide +kernel) rfl (Or.inl rfl) ?_
          exact ⟨rfl, by omega⟩
end
section
/-! contracts of the class -/
def msx166 : Zms := [(17, 17, 0, 13)]
-- WheelLand$Rules.begin(I)V
theorem x166 {sc : List Int} (h : Hp) (C : CI h) (a : Int) (q_a : -2147483648 ≤ a ∧ a ≤ 2147483647) (p1 : 0 ≤ a) : zwC sc 2 166 [(2, 13), (0, a)] h (zwRv (fun g => CI g ∧ zXR msx166 (0) (0) h g)) := by
  refine zwC_of (D := 1) 2 (by decide +kernel) rfl (ls := [(2, 13), (0, a)]) rfl ?_
  have X : zXR msx166 0 0 h h := zXR.rf _ _
  refine zwW_p [(1, 0, 2)] (q := 1) (ls' := [(2, 13), (0, a)]) (st' := [(2, 13)]) (by decide +kernel) rfl ?_
  refine zwW_gc C.1 (kd := 9) (bn := 4) (n := 6) (c := 17) (nx := 4) (by decide +kernel) ?_
  refine zwW_p [(0, 0, 0)] (q := 5) (ls' := [(2, 13), (0, a)]) (st' := [(0, 0), (2, 17)]) (by decide +kernel) rfl ?_
  refine zwW_csv (k' := 180) (n := 2) (nx := 8) (as := [(2, 17), (0, 0)]) (st' := []) (by decide +kernel) rfl (x180_17 C (by first | omega | exact ⟨by omega, by omega⟩)) rfl ?_
  rintro h1 ⟨Ch1, Qh1, fh1⟩
  have Xh1 : zXR msx166 (0) (0) h h1 := X.tr (c2 := 0) (s2 := 0) Qh1 (by decide +kernel) (by decide) (by decide)
  refine zwW_p [(1, 0, 2)] (q := 9) (ls' := [(2, 13), (0, a)]) (st' := [(2, 13)]) (by decide +kernel) rfl ?_
  refine zwW_gc Ch1.1 (kd := 9) (bn := 4) (n := 6) (c := 17) (nx := 12) (by decide +kernel) ?_
  refine zwW_p [(0, 0, 0), (1, 1, 0)] (q := 14) (ls' := [(2, 13), (0, a)]) (st' := [(0, a), (0, 0), (2, 17)]) (by decide +kernel) rfl ?_
  refine zwW_as Ch1.1 (a1 := 17) (a2 := 17) (n := 13) (lo := -2147483648) (hi := 2147483647) (nx := 15) (by decide +kernel) (by first | decide | exact ⟨by decide, by decide⟩) (by first | decide | exact ⟨by decide, by decide⟩) (by first | omega | exact ⟨by omega, by omega⟩) ?_
  intro h2 eh2 Ih2
  have Ch2 : CI h2 := Ch1.wc eh2 Ih2 (by decide) (by decide)
  have Qh2 : zXR [(17, 17, 0, 13)] 0 0 h1 h2 := zXR.wc eh2 rfl ⟨by decide, by decide, Or.inl (by decide)⟩ (by first | decide | exact ⟨by decide, by decide⟩)
  have Xh2 : zXR msx166 (0) (0) h h2 := Xh1.tr (c2 := 0) (s2 := 0) Qh2 (by decide +kernel) (by decide) (by decide)
  refine zwW_p [(1, 0, 2)] (q := 16) (ls' := [(2, 13), (0, a)]) (st' := [(2, 13)]) (by decide +kernel) rfl ?_
  refine zwW_gc Ch2.1 (kd := 9) (bn := 4) (n := 6) (c := 17) (nx := 19) (by decide +kernel) ?_
  refine zwW_p [(0, 1, 0), (1, 1, 0)] (q := 21) (ls' := [(2, 13), (0, a)]) (st' := [(0, a), (0, 1), (2, 17)]) (by decide +kernel) rfl ?_
  refine zwW_cs (k' := 162) (n := 1) (nx := 24) (as := [(0, a)]) (st' := [(0, 1), (2, 17)]) (by decide +kernel) rfl (x162 h2 Ch2 a (by omega) (by omega)) rfl ?_
  rintro v3 _ ⟨rfl, f4, f5, f6⟩
  refine zwW_as Ch2.1 (a1 := 17) (a2 := 17) (n := 13) (lo := -2147483648) (hi := 2147483647) (nx := 25) (by decide +kernel) (by first | decide | exact ⟨by decide, by decide⟩) (by first | decide | exact ⟨by decide, by decide⟩) (by first | omega | exact ⟨by omega, by omega⟩) ?_
  intro h7 eh7 Ih7
  have Ch7 : CI h7 := Ch2.wc eh7 Ih7 (by decide) (by decide)
  have Qh7 : zXR [(17, 17, 0, 13)] 0 0 h2 h7 := zXR.wc eh7 rfl ⟨by decide, by decide, Or.inl (by decide)⟩ (by first | decide | exact ⟨by decide, by decide⟩)
  have Xh7 : zXR msx166 (0) (0) h h7 := Xh2.tr (c2 := 0) (s2 := 0) Qh7 (by decide +kernel) (by decide) (by decide)
  refine zwW_retv (nx := 26) (a := 0) (b := 0) (by decide +kernel) ?_
  exact ⟨Ch7, Xh7.le (by decide) (by decide)⟩
def msx167 : Zms := [(17, 17, 0, 13)]
-- WheelLand$Rules.tellHouse(LWheelLand$House;I)V
theorem x167 {sc : List Int} (h : Hp) (C : CI h) (r a : Int) (G_r : gH h r) (q_a : -2147483648 ≤ a ∧ a ≤ 2147483647) : zwC sc 2 167 [(2, 13), (2, r), (0, a)] h (zwRv (fun g => CI g ∧ zXR msx167 (0) (0) h g)) := by
  refine zwC_of (D := 1) 3 (by decide +kernel) rfl (ls := [(2, 13), (2, r), (0, a)]) rfl ?_
  have lw_r := G_r.1
  have X : zXR msx167 0 0 h h := zXR.rf _ _
  refine zwW_p [(1, 0, 2)] (q := 1) (ls' := [(2, 13), (2, r), (0, a)]) (st' := [(2, 13)]) (by decide +kernel) rfl ?_
  refine zwW_gc C.1 (kd := 9) (bn := 4) (n := 6) (c := 17) (nx := 4) (by decide +kernel) ?_
  refine zwW_p [(0, 2, 0), (1, 1, 2)] (q := 6) (ls' := [(2, 13), (2, r), (0, a)]) (st' := [(2, r), (0, 2), (2, 17)]) (by decide +kernel) rfl ?_
  refine zwX_gi C (kd := 4) (bn := 5) (n := 19) (nx := 9) (by decide +kernel) G_r.2.1 G_r.1 rfl ?_
  intro v1 ev1 lv1 uv1
  refine zwW_as C.1 (a1 := 17) (a2 := 17) (n := 13) (lo := -2147483648) (hi := 2147483647) (nx := 10) (by decide +kernel) (by first | decide | exact ⟨by decide, by decide⟩) (by first | decide | exact ⟨by decide, by decide⟩) (by first | omega | exact ⟨by omega, by omega⟩) ?_
  intro h2 eh2 Ih2
  have Ch2 : CI h2 := C.wc eh2 Ih2 (by decide) (by decide)
  have Qh2 : zXR [(17, 17, 0, 13)] 0 0 h h2 := zXR.wc eh2 rfl ⟨by decide, by decide, Or.inl (by decide)⟩ (by first | decide | exact ⟨by decide, by decide⟩)
  have Xh2 : zXR msx167 (0) (0) h h2 := X.tr (c2 := 0) (s2 := 0) Qh2 (by decide +kernel) (by decide) (by decide)
  have Gh2_0 : gH h2 r := G_r.x Qh2
  refine zwW_p [(1, 0, 2)] (q := 11) (ls' := [(2, 13), (2, r), (0, a)]) (st' := [(2, 13)]) (by decide +kernel) rfl ?_
  refine zwW_gc Ch2.1 (kd := 9) (bn := 4) (n := 6) (c := 17) (nx := 14) (by decide +kernel) ?_
  refine zwW_p [(0, 3, 0), (1, 1, 2)] (q := 16) (ls' := [(2, 13), (2, r), (0, a)]) (st' := [(2, r), (0, 3), (2, 17)]) (by decide +kernel) rfl ?_
  refine zwX_gi Ch2 (kd := 4) (bn := 2) (n := 19) (nx := 19) (by decide +kernel) Gh2_0.2.1 Gh2_0.1 rfl ?_
  intro v3 ev3 lv3 uv3
  refine zwW_as Ch2.1 (a1 := 17) (a2 := 17) (n := 13) (lo := -2147483648) (hi := 2147483647) (nx := 20) (by decide +kernel) (by first | decide | exact ⟨by decide, by decide⟩) (by first | decide | exact ⟨by decide, by decide⟩) (by first | omega | exact ⟨by omega, by omega⟩) ?_
  intro h4 eh4 Ih4
  have Ch4 : CI h4 := Ch2.wc eh4 Ih4 (by decide) (by decide)
  have Qh4 : zXR [(17, 17, 0, 13)] 0 0 h2 h4 := zXR.wc eh4 rfl ⟨by decide, by decide, Or.inl (by decide)⟩ (by first | decide | exact ⟨by decide, by decide⟩)
  have Xh4 : zXR msx167 (0) (0) h h4 := Xh2.tr (c2 := 0) (s2 := 0) Qh4 (by decide +kernel) (by decide) (by decide)
  have Gh4_0 : gH h4 r := Gh2_0.x Qh4
  refine zwW_p [(1, 0, 2)] (q := 21) (ls' := [(2, 13), (2, r), (0, a)]) (st' := [(2, 13)]) (by decide +kernel) rfl ?_
  refine zwW_gc Ch4.1 (kd := 9) (bn := 4) (n := 6) (c := 17) (nx := 24) (by decide +kernel) ?_
  refine zwW_p [(0, 4, 0), (1, 1, 2)] (q := 26) (ls' := [(2, 13), (2, r), (0, a)]) (st' := [(2, r), (0, 4), (2, 17)]) (by decide +kernel) rfl ?_
  refine zwX_gi Ch4 (kd := 4) (bn := 3) (n := 19) (nx := 29) (by decide +kernel) Gh4_0.2.1 Gh4_0.1 rfl ?_
  intro v5 ev5 lv5 uv5
  refine zwW_as Ch4.1 (a1 := 17) (a2 := 17) (n := 13) (lo := -2147483648) (hi := 2147483647) (nx := 30) (by decide +kernel) (by first | decide | exact ⟨by decide, by decide⟩) (by first | decide | exact ⟨by decide, by decide⟩) (by first | omega | exact ⟨by omega, by omega⟩) ?_
  intro h6 eh6 Ih6
  have Ch6 : CI h6 := Ch4.wc eh6 Ih6 (by decide) (by decide)
  have Qh6 : zXR [(17, 17, 0, 13)] 0 0 h4 h6 := zXR.wc eh6 rfl ⟨by decide, by decide, Or.inl (by decide)⟩ (by first | decide | exact ⟨by decide, by decide⟩)
  have Xh6 : zXR msx167 (0) (0) h h6 := Xh4.tr (c2 := 0) (s2 := 0) Qh6 (by decide +kernel) (by decide) (by decide)
  have Gh6_0 : gH h6 r := Gh4_0.x Qh6
  refine zwW_p [(1, 0, 2)] (q := 31) (ls' := [(2, 13), (2, r), (0, a)]) (st' := [(2, 13)]) (by decide +kernel) rfl ?_
  refine zwW_gc Ch6.1 (kd := 9) (bn := 4) (n := 6) (c := 17) (nx := 34) (by decide +kernel) ?_
  refine zwW_p [(0, 5, 0), (1, 1, 2)] (q := 36) (ls' := [(2, 13), (2, r), (0, a)]) (st' := [(2, r), (0, 5), (2, 17)]) (by decide +kernel) rfl ?_
  refine zwX_gi Ch6 (kd := 4) (bn := 4) (n := 19) (nx := 39) (by decide +kernel) Gh6_0.2.1 Gh6_0.1 rfl ?_
  intro v7 ev7 lv7 uv7
  refine zwW_as Ch6.1 (a1 := 17) (a2 := 17) (n := 13) (lo := -2147483648) (hi := 2147483647) (nx := 40) (by decide +kernel) (by first | decide | exact ⟨by decide, by decide⟩) (by first | decide | exact ⟨by decide, by decide⟩) (by first | omega | exact ⟨by omega, by omega⟩) ?_
  intro h8 eh8 Ih8
  have Ch8 : CI h8 := Ch6.wc eh8 Ih8 (by decide) (by decide)
  have Qh8 : zXR [(17, 17, 0, 13)] 0 0 h6 h8 := zXR.wc eh8 rfl ⟨by decide, by decide, Or.inl (by decide)⟩ (by first | decide | exact ⟨by decide, by decide⟩)
  have Xh8 : zXR msx167 (0) (0) h h8 := Xh6.tr (c2 := 0) (s2 := 0) Qh8 (by decide +kernel) (by decide) (by decide)
  have Gh8_0 : gH h8 r := Gh6_0.x Qh8
  refine zwW_p [(1, 0, 2)] (q := 41) (ls' := [(2, 13), (2, r), (0, a)]) (st' := [(2, 13)]) (by decide +kernel) rfl ?_
  refine zwW_gc Ch8.1 (kd := 9) (bn := 4) (n := 6) (c := 17) (nx := 44) (by decide +kernel) ?_
  refine zwW_p [(0, 10, 0), (1, 1, 2)] (q := 47) (ls' := [(2, 13), (2, r), (0, a)]) (st' := [(2, r), (0, 10), (2, 17)]) (by decide +kernel) rfl ?_
  refine zwW_get (kd := 4) (bn := 1) (t := 2) (n := 19) (nx := 50) (by decide +kernel) Gh8_0.2.1 rfl ?_
  obtain ⟨v9, ev9⟩ : ∃ z, z = fld h8 r 1 := ⟨_, rfl⟩
  rw [← ev9]
  have Gv9 : gV h8 v9 := by rw [ev9]; exact Gh8_0.2.2
  have lv9 := Gv9.1
  refine zwW_p [(1, 2, 0)] (q := 51) (ls' := [(2, 13), (2, r), (0, a)]) (st' := [(0, a), (2, v9), (0, 10), (2, 17)]) (by decide +kernel) rfl ?_
  refine zwW_cv (op := 60) (k' := 222) (n := 1) (kd := 11) (m := 17) (nx := 54) (r := v9) (tl := [(0, a)]) (st' := [(0, 10), (2, 17)]) (by decide +kernel) rfl (by decide +kernel) Gv9.2.1 (x222 h8 Ch8 v9 a Gv9 (by omega)) rfl ?_
  rintro v10 _ ⟨rfl, f11⟩
  refine zwW_as Ch8.1 (a1 := 17) (a2 := 17) (n := 13) (lo := -2147483648) (hi := 2147483647) (nx := 55) (by decide +kernel) (by first | decide | exact ⟨by decide, by decide⟩) (by first | decide | exact ⟨by decide, by decide⟩) (by first | omega | exact ⟨by omega, by omega⟩) ?_
  intro h12 eh12 Ih12
  have Ch12 : CI h12 := Ch8.wc eh12 Ih12 (by decide) (by decide)
  have Qh12 : zXR [(17, 17, 0, 13)] 0 0 h8 h12 := zXR.wc eh12 rfl ⟨by decide, by decide, Or.inl (by decide)⟩ (by first | decide | exact ⟨by decide, by decide⟩)
  have Xh12 : zXR msx167 (0) (0) h h12 := Xh8.tr (c2 := 0) (s2 := 0) Qh12 (by decide +kernel) (by decide) (by decide)
  have Gh12_0 : gH h12 r := Gh8_0.x Qh12
  refine zwW_retv (nx := 56) (a := 0) (b := 0) (by decide +kernel) ?_
  exact ⟨Ch12, Xh12.le (by decide) (by decide)⟩
def msx168 : Zms := [(17, 17, 0, 13)]
-- WheelLand$Rules.tellWork(II)V
theorem x168 {sc : List Int} (h : Hp) (C : CI h) (a b : Int) (q_a : -2147483648 ≤ a ∧ a ≤ 2147483647) (q_b : -2147483648 ≤ b ∧ b ≤ 2147483647) : zwC sc 1 168 [(2, 13), (0, a), (0, b)] h (zwRv (fun g => CI g ∧ zXR msx168 (0) (0) h g)) := by
  refine zwC_of (D := 0) 3 (by decide +kernel) rfl (ls := [(2, 13), (0, a), (0, b)]) rfl ?_
  have X : zXR msx168 0 0 h h := zXR.rf _ _
  refine zwW_p [(1, 0, 2)] (q := 1) (ls' := [(2, 13), (0, a), (0, b)]) (st' := [(2, 13)]) (by decide +kernel) rfl ?_
  refine zwW_gc C.1 (kd := 9) (bn := 4) (n := 6) (c := 17) (nx := 4) (by decide +kernel) ?_
  refine zwW_p [(0, 6, 0), (1, 1, 0)] (q := 7) (ls' := [(2, 13), (0, a), (0, b)]) (st' := [(0, a), (0, 6), (2, 17)]) (by decide +kernel) rfl ?_
  refine zwW_as C.1 (a1 := 17) (a2 := 17) (n := 13) (lo := -2147483648) (hi := 2147483647) (nx := 8) (by decide +kernel) (by first | decide | exact ⟨by decide, by decide⟩) (by first | decide | exact ⟨by decide, by decide⟩) (by first | omega | exact ⟨by omega, by omega⟩) ?_
  intro h1 eh1 Ih1
  have Ch1 : CI h1 := C.wc eh1 Ih1 (by decide) (by decide)
  have Qh1 : zXR [(17, 17, 0, 13)] 0 0 h h1 := zXR.wc eh1 rfl ⟨by decide, by decide, Or.inl (by decide)⟩ (by first | decide | exact ⟨by decide, by decide⟩)
  have Xh1 : zXR msx168 (0) (0) h h1 := X.tr (c2 := 0) (s2 := 0) Qh1 (by decide +kernel) (by decide) (by decide)
  refine zwW_p [(1, 0, 2)] (q := 9) (ls' := [(2, 13), (0, a), (0, b)]) (st' := [(2, 13)]) (by decide +kernel) rfl ?_
  refine zwW_gc Ch1.1 (kd := 9) (bn := 4) (n := 6) (c := 17) (nx := 12) (by decide +kernel) ?_
  refine zwW_p [(0, 11, 0), (1, 2, 0)] (q := 15) (ls' := [(2, 13), (0, a), (0, b)]) (st' := [(0, b), (0, 11), (2, 17)]) (by decide +kernel) rfl ?_
  refine zwW_as Ch1.1 (a1 := 17) (a2 := 17) (n := 13) (lo := -2147483648) (hi := 2147483647) (nx := 16) (by decide +kernel) (by first | decide | exact ⟨by decide, by decide⟩) (by first | decide | exact ⟨by decide, by decide⟩) (by first | omega | exact ⟨by omega, by omega⟩) ?_
  intro h2 eh2 Ih2
  have Ch2 : CI h2 := Ch1.wc eh2 Ih2 (by decide) (by decide)
  have Qh2 : zXR [(17, 17, 0, 13)] 0 0 h1 h2 := zXR.wc eh2 rfl ⟨by decide, by decide, Or.inl (by decide)⟩ (by first | decide | exact ⟨by decide, by decide⟩)
  have Xh2 : zXR msx168 (0) (0) h h2 := Xh1.tr (c2 := 0) (s2 := 0) Qh2 (by decide +kernel) (by decide) (by decide)
  refine zwW_retv (nx := 17) (a := 0) (b := 0) (by decide +kernel) ?_
  exact ⟨Ch2, Xh2.le (by decide) (by decide)⟩
def msx171 : Zms := [(17, 17, 0, 13)]
-- WheelLand$Rules.tellYarn(III)V
theorem x171 {sc : List Int} (h : Hp) (C : CI h) (a b c : Int) (q_a : -2147483648 ≤ a ∧ a ≤ 2147483647) (q_b : -2147483648 ≤ b ∧ b ≤ 2147483647) (q_c : -2147483648 ≤ c ∧ c ≤ 2147483647) : zwC sc 1 171 [(2, 13), (0, a), (0, b), (0, c)] h (zwRv (fun g => CI g ∧ zXR msx171 (0) (0) h g)) := by
  refine zwC_of (D := 0) 4 (by decide +kernel) rfl (ls := [(2, 13), (0, a), (0, b), (0, c)]) rfl ?_
  have X : zXR msx171 0 0 h h := zXR.rf _ _
  refine zwW_p [(1, 0, 2)] (q := 1) (ls' := [(2, 13), (0, a), (0, b), (0, c)]) (st' := [(2, 13)]) (by decide +kernel) rfl ?_
  refine zwW_gc C.1 (kd := 9) (bn := 4) (n := 6) (c := 17) (nx := 4) (by decide +kernel) ?_
  refine zwW_p [(0, 7, 0), (1, 1, 0)] (q := 7) (ls' := [(2, 13), (0, a), (0, b), (0, c)]) (st' := [(0, a), (0, 7), (2, 17)]) (by decide +kernel) rfl ?_
  refine zwW_as C.1 (a1 := 17) (a2 := 17) (n := 13) (lo := -2147483648) (hi := 2147483647) (nx := 8) (by decide +kernel) (by first | decide | exact ⟨by decide, by decide⟩) (by first | decide | exact ⟨by decide, by decide⟩) (by first | omega | exact ⟨by omega, by omega⟩) ?_
  intro h1 eh1 Ih1
  have Ch1 : CI h1 := C.wc eh1 Ih1 (by decide) (by decide)
  have Qh1 : zXR [(17, 17, 0, 13)] 0 0 h h1 := zXR.wc eh1 rfl ⟨by decide, by decide, Or.inl (by decide)⟩ (by first | decide | exact ⟨by decide, by decide⟩)
  have Xh1 : zXR msx171 (0) (0) h h1 := X.tr (c2 := 0) (s2 := 0) Qh1 (by decide +kernel) (by decide) (by decide)
  refine zwW_p [(1, 0, 2)] (q := 9) (ls' := [(2, 13), (0, a), (0, b), (0, c)]) (st' := [(2, 13)]) (by decide +kernel) rfl ?_
  refine zwW_gc Ch1.1 (kd := 9) (bn := 4) (n := 6) (c := 17) (nx := 12) (by decide +kernel) ?_
  refine zwW_p [(0, 8, 0), (1, 2, 0)] (q := 15) (ls' := [(2, 13), (0, a), (0, b), (0, c)]) (st' := [(0, b), (0, 8), (2, 17)]) (by decide +kernel) rfl ?_
  refine zwW_as Ch1.1 (a1 := 17) (a2 := 17) (n := 13) (lo := -2147483648) (hi := 2147483647) (nx := 16) (by decide +kernel) (by first | decide | exact ⟨by decide, by decide⟩) (by first | decide | exact ⟨by decide, by decide⟩) (by first | omega | exact ⟨by omega, by omega⟩) ?_
  intro h2 eh2 Ih2
  have Ch2 : CI h2 := Ch1.wc eh2 Ih2 (by decide) (by decide)
  have Qh2 : zXR [(17, 17, 0, 13)] 0 0 h1 h2 := zXR.wc eh2 rfl ⟨by decide, by decide, Or.inl (by decide)⟩ (by first | decide | exact ⟨by decide, by decide⟩)
  have Xh2 : zXR msx171 (0) (0) h h2 := Xh1.tr (c2 := 0) (s2 := 0) Qh2 (by decide +kernel) (by decide) (by decide)
  refine zwW_p [(1, 0, 2)] (q := 17) (ls' := [(2, 13), (0, a), (0, b), (0, c)]) (st' := [(2, 13)]) (by decide +kernel) rfl ?_
  refine zwW_gc Ch2.1 (kd := 9) (bn := 4) (n := 6) (c := 17) (nx := 20) (by decide +kernel) ?_
  refine zwW_p [(0, 9, 0), (1, 3, 0)] (q := 23) (ls' := [(2, 13), (0, a), (0, b), (0, c)]) (st' := [(0, c), (0, 9), (2, 17)]) (by decide +kernel) rfl ?_
  refine zwW_as Ch2.1 (a1 := 17) (a2 := 17) (n := 13) (lo := -2147483648) (hi := 2147483647) (nx := 24) (by decide +kernel) (by first | decide | exact ⟨by decide, by decide⟩) (by first | decide | exact ⟨by decide, by decide⟩) (by first | omega | exact ⟨by omega, by omega⟩) ?_
  intro h3 eh3 Ih3
  have Ch3 : CI h3 := Ch2.wc eh3 Ih3 (by decide) (by decide)
  have Qh3 : zXR [(17, 17, 0, 13)] 0 0 h2 h3 := zXR.wc eh3 rfl ⟨by decide, by decide, Or.inl (by decide)⟩ (by first | decide | exact ⟨by decide, by decide⟩)
  have Xh3 : zXR msx171 (0) (0) h h3 := Xh2.tr (c2 := 0) (s2 := 0) Qh3 (by decide +kernel) (by decide) (by decide)
  refine zwW_retv (nx := 25) (a := 0) (b := 0) (by decide +kernel) ?_
  exact ⟨Ch3, Xh3.le (by decide) (by decide)⟩
def msx214 : Zms := [(17, 17, 0, 13)]
-- WheelLand$Rules.tellPrice(I)V
theorem x214 {sc : List Int} (h : Hp) (C : CI h) (a : Int) (q_a : -2147483648 ≤ a ∧ a ≤ 2147483647) : zwC sc 1 214 [(2, 13), (0, a)] h (zwRv (fun g => CI g ∧ zXR msx214 (0) (0) h g)) := by
  refine zwC_of (D := 0) 2 (by decide +kernel) rfl (ls := [(2, 13), (0, a)]) rfl ?_
  have X : zXR msx214 0 0 h h := zXR.rf _ _
  refine zwW_p [(1, 0, 2)] (q := 1) (ls' := [(2, 13), (0, a)]) (st' := [(2, 13)]) (by decide +kernel) rfl ?_
  refine zwW_gc C.1 (kd := 9) (bn := 4) (n := 6) (c := 17) (nx := 4) (by decide +kernel) ?_
  refine zwW_p [(0, 12, 0), (1, 1, 0)] (q := 7) (ls' := [(2, 13), (0, a)]) (st' := [(0, a), (0, 12), (2, 17)]) (by decide +kernel) rfl ?_
  refine zwW_as C.1 (a1 := 17) (a2 := 17) (n := 13) (lo := -2147483648) (hi := 2147483647) (nx := 8) (by decide +kernel) (by first | decide | exact ⟨by decide, by decide⟩) (by first | decide | exact ⟨by decide, by decide⟩) (by first | omega | exact ⟨by omega, by omega⟩) ?_
  intro h1 eh1 Ih1
  have Ch1 : CI h1 := C.wc eh1 Ih1 (by decide) (by decide)
  have Qh1 : zXR [(17, 17, 0, 13)] 0 0 h h1 := zXR.wc eh1 rfl ⟨by decide, by decide, Or.inl (by decide)⟩ (by first | decide | exact ⟨by decide, by decide⟩)
  have Xh1 : zXR msx214 (0) (0) h h1 := X.tr (c2 := 0) (s2 := 0) Qh1 (by decide +kernel) (by decide) (by decide)
  refine zwW_retv (nx := 9) (a := 0) (b := 0) (by decide +kernel) ?_
  exact ⟨Ch1, Xh1.le (by decide) (by decide)⟩
-- WheelLand$Sheet.beginOf(I)I
theorem x206 {sc : List Int} (h : Hp) (C : CI h) (r a : Int) (G_r : gS h r) (q_a : -2147483648 ≤ a ∧ a ≤ 2147483647) : zwC sc 1 206 [(2, r), (0, a)] h (zwRt 0 (fun x g => h = g ∧ (-2147483648 ≤ x ∧ x ≤ 2147483647))) := by
  refine zwC_of (D := 0) 2 (by decide +kernel) rfl (ls := [(2, r), (0, a)]) rfl ?_
  have lw_r := G_r.1
  refine zwW_p [(1, 1, 0)] (q := 1) (ls' := [(2, r), (0, a)]) (st' := [(0, a)]) (by decide +kernel) rfl ?_
  refine zwif_lt (q := 22) (nx := 4) (by decide +kernel) (fun c1 => ?_) (fun c1 => ?_)
  · refine zwW_p [(0, -1, 0)] (q := 23) (ls' := [(2, r), (0, a)]) (st' := [(0, -1)]) (by decide +kernel) rfl ?_
    refine zwW_ret (nx := 24) (a := 0) (b := 0) (by decide +kernel) rfl (Or.inl rfl) ?_
    exact ⟨rfl, by omega⟩
  · refine zwW_p [(1, 1, 0), (1, 0, 2)] (q := 6) (ls' := [(2, r), (0, a)]) (st' := [(2, r), (0, a)]) (by decide +kernel) rfl ?_
    refine zwW_get (kd := 10) (bn := 2) (t := 2) (n := 3) (nx := 9) (by decide +kernel) G_r.2.1 rfl ?_
    obtain ⟨v2, ev2⟩ : ∃ z, z = fld h r 2 := ⟨_, rfl⟩
    rw [← ev2]
    have Gv2 : gA 5 h v2 := by rw [ev2]; exact G_r.2.2.2
    have lv2 := Gv2.1
    refine zwW_len (n := 5) (nx := 10) (by decide +kernel) Gv2.2 rfl ?_
    refine zwic_ge (q := 22) (nx := 13) (by decide +kernel) (fun c3 => ?_) (fun c3 => ?_)
    · refine zwW_p [(0, -1, 0)] (q := 23) (ls' := [(2, r), (0, a)]) (st' := [(0, -1)]) (by decide +kernel) rfl ?_
      refine zwW_ret (nx := 24) (a := 0) (b := 0) (by decide +kernel) rfl (Or.inl rfl) ?_
      exact ⟨rfl, by omega⟩
    · refine zwW_p [(1, 0, 2)] (q := 14) (ls' := [(2, r), (0, a)]) (st' := [(2, r)]) (by decide +kernel) rfl ?_
      refine zwW_get (kd := 10) (bn := 2) (t := 2) (n := 3) (nx := 17) (by decide +kernel) G_r.2.1 rfl ?_
      rw [← ev2]
      refine zwW_p [(1, 1, 0)] (q := 18) (ls' := [(2, r), (0, a)]) (st' := [(0, a), (2, v2)]) (by decide +kernel) rfl ?_
      refine zwX_ai C (n := 5) (nx := 19) (by decide +kernel) Gv2.2 Gv2.1 (by first | omega | exact ⟨by omega, by omega⟩) ?_
      intro v5 ev5 lv5 uv5
      refine zwW_p [(24, 23, 0)] (q := 23) (ls' := [(2, r), (0, a)]) (st' := [(0, v5)]) (by decide +kernel) rfl ?_
      refine zwW_ret (nx := 24) (a := 0) (b := 0) (by decide +kernel) rfl (Or.inl rfl) ?_
      exact ⟨rfl, by omega⟩
-- WheelLand$Sheet.stepAt(I)I
theorem x255 {sc : List Int} (h : Hp) (C : CI h) (r a : Int) (G_r : gS h r) (q_a : -2147483648 ≤ a ∧ a ≤ 2147483647) : zwC sc 1 255 [(2, r), (0, a)] h (zwRt 0 (fun x g => h = g ∧ (-2147483648 ≤ x ∧ x ≤ 2147483647))) := by
  refine zwC_of (D := 0) 2 (by decide +kernel) rfl (ls := [(2, r), (0, a)]) rfl ?_
  have lw_r := G_r.1
  refine zwW_p [(1, 1, 0)] (q := 1) (ls' := [(2, r), (0, a)]) (st' := [(0, a)]) (by decide +kernel) rfl ?_
  refine zwif_lt (q := 22) (nx := 4) (by decide +kernel) (fun c1 => ?_) (fun c1 => ?_)
  · refine zwW_p [(0, -21, 0)] (q := 24) (ls' := [(2, r), (0, a)]) (st' := [(0, -21)]) (by decide +kernel) rfl ?_
    refine zwW_ret (nx := 25) (a := 0) (b := 0) (by decide +kernel) rfl (Or.inl rfl) ?_
    exact ⟨rfl, by omega⟩
  · refine zwW_p [(1, 1, 0), (1, 0, 2)] (q := 6) (ls' := [(2, r), (0, a)]) (st' := [(2, r), (0, a)]) (by decide +kernel) rfl ?_
    refine zwW_get (kd := 10) (bn := 1) (t := 2) (n := 3) (nx := 9) (by decide +kernel) G_r.2.1 rfl ?_
    obtain ⟨v2, ev2⟩ : ∃ z, z = fld h r 1 := ⟨_, rfl⟩
    rw [← ev2]
    obtain ⟨lv2, nv2, sv2⟩ : 365 < v2 ∧ ∃ n, sh h v2 = some (20, n) := by rw [ev2]; exact G_r.2.2.1
    have Gv2 : gA nv2 h v2 := ⟨lv2, sv2⟩
    refine zwW_len (n := nv2) (nx := 10) (by decide +kernel) Gv2.2 rfl ?_
    refine zwic_ge (q := 22) (nx := 13) (by decide +kernel) (fun c3 => ?_) (fun c3 => ?_)
    · refine zwW_p [(0, -21, 0)] (q := 24) (ls' := [(2, r), (0, a)]) (st' := [(0, -21)]) (by decide +kernel) rfl ?_
      refine zwW_ret (nx := 25) (a := 0) (b := 0) (by decide +kernel) rfl (Or.inl rfl) ?_
      exact ⟨rfl, by omega⟩
    · refine zwW_p [(1, 0, 2)] (q := 14) (ls' := [(2, r), (0, a)]) (st' := [(2, r)]) (by decide +kernel) rfl ?_
      refine zwW_get (kd := 10) (bn := 1) (t := 2) (n := 3) (nx := 17) (by decide +kernel) G_r.2.1 rfl ?_
      rw [← ev2]
      refine zwW_p [(1, 1, 0)] (q := 18) (ls' := [(2, r), (0, a)]) (st' := [(0, a), (2, v2)]) (by decide +kernel) rfl ?_
      refine zwX_ai C (n := nv2) (nx := 19) (by decide +kernel) Gv2.2 Gv2.1 (by first | omega | exact ⟨by omega, by omega⟩) ?_
      intro v5 ev5 lv5 uv5
      refine zwW_p [(24, 24, 0)] (q := 24) (ls' := [(2, r), (0, a)]) (st' := [(0, v5)]) (by decide +kernel) rfl ?_
      refine zwW_ret (nx := 25) (a := 0) (b := 0) (by decide +kernel) rfl (Or.inl rfl) ?_
      exact ⟨rfl, by omega⟩
-- WheelLand$Rules.joined(IJJ)I
theorem x256 {sc : List Int} (h : Hp) (C : CI h) (a b c : Int) (q_a : -2147483648 ≤ a ∧ a ≤ 2147483647) (q_b : -2147483648 ≤ b ∧ b ≤ 2147483647) (q_c : -2147483648 ≤ c ∧ c ≤ 2147483647) : zwC sc 1 256 [(0, a), (1, b), (1, c)] h (zwRt 0 (fun x g => h = g ∧ (-2147483648 ≤ x ∧ x ≤ 2147483647))) := by
  refine zwC_of (D := 0) 7 (by decide +kernel) rfl (ls := [(0, a), (1, b), (9, 0), (1, c), (9, 0), (9, 0), (9, 0)]) rfl ?_
  refine zwW_p [(0, 0, 1), (2, 5, 1), (1, 0, 0)] (q := 4) (ls' := [(0, a), (1, b), (9, 0), (1, c), (9, 0), (1, 0), (9, 0)]) (st' := [(0, a)]) (by decide +kernel) rfl ?_
  refine zwW_sw (d := 194) (os := [18, 178, 19, 186, 42, 104, 43, 88, 45, 96, 47, 112, 60, 130, 61, 162, 62, 146]) (by decide +kernel) ?_
  refine ⟨fun c1 => ?_, fun c1 => ?_⟩
  · show zwW _ _ _ 178 _ _ _ _
    refine zwW_p [(1, 1, 1), (1, 3, 1)] (q := 180) (ls' := [(0, a), (1, b), (9, 0), (1, c), (9, 0), (1, 0), (9, 0)]) (st' := [(1, c), (1, b)]) (by decide +kernel) rfl ?_
    refine zwW_lany (a := 6) (nx := 181) (by decide +kernel) (by omega) ?_
    intro v2 qv2
    have lv2 := qv2.1; have uv2 := qv2.2
    refine zwW_p [(2, 5, 1), (24, 194, 0), (1, 5, 1), (0, 1000000, 1)] (q := 199) (ls' := [(0, a), (1, b), (9, 0), (1, c), (9, 0), (1, v2), (9, 0)]) (st' := [(1, 1000000), (1, v2)]) (by decide +kernel) rfl ?_
    refine zwW_lmin (nx := 202) (by decide +kernel) rfl ?_
    intro v3 ev3
    refine zwW_p [(0, -1000000, 1)] (q := 205) (ls' := [(0, a), (1, b), (9, 0), (1, c), (9, 0), (1, v2), (9, 0)]) (st' := [(1, -1000000), (1, v3)]) (by decide +kernel) rfl ?_
    refine zwW_lmax (nx := 208) (by decide +kernel) rfl ?_
    intro v4 ev4
    refine zwW_l2i (nx := 209) (by decide +kernel) (by first | omega | exact ⟨by omega, by omega⟩) ?_
    refine zwW_ret (nx := 210) (a := 0) (b := 0) (by decide +kernel) rfl (Or.inl rfl) ?_
    exact ⟨rfl, by omega⟩
  refine ⟨fun c5 => ?_, fun c5 => ?_⟩
  · show zwW _ _ _ 186 _ _ _ _
    refine zwW_p [(1, 1, 1), (1, 3, 1)] (q := 188) (ls' := [(0, a), (1, b), (9, 0), (1, c), (9, 0), (1, 0), (9, 0)]) (st' := [(1, c), (1, b)]) (by decide +kernel) rfl ?_
    refine zwW_lany (a := 5) (nx := 189) (by decide +kernel) (by omega) ?_
    intro v6 qv6
    have lv6 := qv6.1; have uv6 := qv6.2
    refine zwW_p [(2, 5, 1), (24, 194, 0), (1, 5, 1), (0, 1000000, 1)] (q := 199) (ls' := [(0, a), (1, b), (9, 0), (1, c), (9, 0), (1, v6), (9, 0)]) (st' := [(1, 1000000), (1, v6)]) (by decide +kernel) rfl ?_
    refine zwW_lmin (nx := 202) (by decide +kernel) rfl ?_
    intro v7 ev7
    refine zwW_p [(0, -1000000, 1)] (q := 205) (ls' := [(0, a), (1, b), (9, 0), (1, c), (9, 0), (1, v6), (9, 0)]) (st' := [(1, -1000000), (1, v7)]) (by decide +kernel) rfl ?_
    refine zwW_lmax (nx := 208) (by decide +kernel) rfl ?_
    intro v8 ev8
    refine zwW_l2i (nx := 209) (by decide +kernel) (by first | omega | exact ⟨by omega, by omega⟩) ?_
    refine zwW_ret (nx := 210) (a := 0) (b := 0) (by decide +kernel) rfl (Or.inl rfl) ?_
    exact ⟨rfl, by omega⟩
  refine ⟨fun c9 => ?_, fun c9 => ?_⟩
  · show zwW _ _ _ 104 _ _ _ _
    refine zwW_p [(1, 1, 1), (1, 3, 1)] (q := 106) (ls' := [(0, a), (1, b), (9, 0), (1, c), (9, 0), (1, 0), (9, 0)]) (st' := [(1, c), (1, b)]) (by decide +kernel) rfl ?_
    refine zwW_lmw (nx := 107) (by decide +kernel) ?_
    intro v10 ev10 lv10 uv10
    refine zwW_p [(2, 5, 1), (24, 194, 0), (1, 5, 1), (0, 1000000, 1)] (q := 199) (ls' := [(0, a), (1, b), (9, 0), (1, c), (9, 0), (1, v10), (9, 0)]) (st' := [(1, 1000000), (1, v10)]) (by decide +kernel) rfl ?_
    refine zwW_lmin (nx := 202) (by decide +kernel) rfl ?_
    intro v11 ev11
    refine zwW_p [(0, -1000000, 1)] (q := 205) (ls' := [(0, a), (1, b), (9, 0), (1, c), (9, 0), (1, v10), (9, 0)]) (st' := [(1, -1000000), (1, v11)]) (by decide +kernel) rfl ?_
    refine zwW_lmax (nx := 208) (by decide +kernel) rfl ?_
    intro v12 ev12
    refine zwW_l2i (nx := 209) (by decide +kernel) (by first | omega | exact ⟨by omega, by omega⟩) ?_
    refine zwW_ret (nx := 210) (a := 0) (b := 0) (by decide +kernel) rfl (Or.inl rfl) ?_
    exact ⟨rfl, by omega⟩
  refine ⟨fun c13 => ?_, fun c13 => ?_⟩
  · show zwW _ _ _ 88 _ _ _ _
    refine zwW_p [(1, 1, 1), (1, 3, 1)] (q := 90) (ls' := [(0, a), (1, b), (9, 0), (1, c), (9, 0), (1, 0), (9, 0)]) (st' := [(1, c), (1, b)]) (by decide +kernel) rfl ?_
    refine zwW_ladd (nx := 91) (by decide +kernel) (by first | omega | exact ⟨by omega, by omega⟩) ?_
    refine zwW_p [(2, 5, 1), (24, 194, 0), (1, 5, 1), (0, 1000000, 1)] (q := 199) (ls' := [(0, a), (1, b), (9, 0), (1, c), (9, 0), (1, (b + c)), (9, 0)]) (st' := [(1, 1000000), (1, (b + c))]) (by decide +kernel) rfl ?_
    refine zwW_lmin (nx := 202) (by decide +kernel) rfl ?_
    intro v15 ev15
    refine zwW_p [(0, -1000000, 1)] (q := 205) (ls' := [(0, a), (1, b), (9, 0), (1, c), (9, 0), (1, (b + c)), (9, 0)]) (st' := [(1, -1000000), (1, v15)]) (by decide +kernel) rfl ?_
    refine zwW_lmax (nx := 208) (by decide +kernel) rfl ?_
    intro v16 ev16
    refine zwW_l2i (nx := 209) (by decide +kernel) (by first | omega | exact ⟨by omega, by omega⟩) ?_
    refine zwW_ret (nx := 210) (a := 0) (b := 0) (by decide +kernel) rfl (Or.inl rfl) ?_
    exact ⟨rfl, by omega⟩
  refine ⟨fun c17 => ?_, fun c17 => ?_⟩
  · show zwW _ _ _ 96 _ _ _ _
    refine zwW_p [(1, 1, 1), (1, 3, 1)] (q := 98) (ls' := [(0, a), (1, b), (9, 0), (1, c), (9, 0), (1, 0), (9, 0)]) (st' := [(1, c), (1, b)]) (by decide +kernel) rfl ?_
    refine zwW_lsub (nx := 99) (by decide +kernel) (by first | omega | exact ⟨by omega, by omega⟩) ?_
    refine zwW_p [(2, 5, 1), (24, 194, 0), (1, 5, 1), (0, 1000000, 1)] (q := 199) (ls' := [(0, a), (1, b), (9, 0), (1, c), (9, 0), (1, (b - c)), (9, 0)]) (st' := [(1, 1000000), (1, (b - c))]) (by decide +kernel) rfl ?_
    refine zwW_lmin (nx := 202) (by decide +kernel) rfl ?_
    intro v19 ev19
    refine zwW_p [(0, -1000000, 1)] (q := 205) (ls' := [(0, a), (1, b), (9, 0), (1, c), (9, 0), (1, (b - c)), (9, 0)]) (st' := [(1, -1000000), (1, v19)]) (by decide +kernel) rfl ?_
    refine zwW_lmax (nx := 208) (by decide +kernel) rfl ?_
    intro v20 ev20
    refine zwW_l2i (nx := 209) (by decide +kernel) (by first | omega | exact ⟨by omega, by omega⟩) ?_
    refine zwW_ret (nx := 210) (a := 0) (b := 0) (by decide +kernel) rfl (Or.inl rfl) ?_
    exact ⟨rfl, by omega⟩
  refine ⟨fun c21 => ?_, fun c21 => ?_⟩
  · show zwW _ _ _ 112 _ _ _ _
    refine zwW_p [(1, 3, 1), (0, 0, 1)] (q := 114) (ls' := [(0, a), (1, b), (9, 0), (1, c), (9, 0), (1, 0), (9, 0)]) (st' := [(1, 0), (1, c)]) (by decide +kernel) rfl ?_
    refine zwlc_ne (q := 122) (nx := 118) (m := 115) (by decide +kernel) (by decide +kernel) (fun c22 => ?_) (fun c22 => ?_)
    · refine zwW_p [(1, 1, 1), (1, 3, 1)] (q := 124) (ls' := [(0, a), (1, b), (9, 0), (1, c), (9, 0), (1, 0), (9, 0)]) (st' := [(1, c), (1, b)]) (by decide +kernel) rfl ?_
      refine zwW_lany (a := 3) (nx := 125) (by decide +kernel) (by omega) ?_
      intro v23 qv23
      have lv23 := qv23.1; have uv23 := qv23.2
      refine zwW_p [(2, 5, 1), (24, 194, 0), (1, 5, 1), (0, 1000000, 1)] (q := 199) (ls' := [(0, a), (1, b), (9, 0), (1, c), (9, 0), (1, v23), (9, 0)]) (st' := [(1, 1000000), (1, v23)]) (by decide +kernel) rfl ?_
      refine zwW_lmin (nx := 202) (by decide +kernel) rfl ?_
      intro v24 ev24
      refine zwW_p [(0, -1000000, 1)] (q := 205) (ls' := [(0, a), (1, b), (9, 0), (1, c), (9, 0), (1, v23), (9, 0)]) (st' := [(1, -1000000), (1, v24)]) (by decide +kernel) rfl ?_
      refine zwW_lmax (nx := 208) (by decide +kernel) rfl ?_
      intro v25 ev25
      refine zwW_l2i (nx := 209) (by decide +kernel) (by first | omega | exact ⟨by omega, by omega⟩) ?_
      refine zwW_ret (nx := 210) (a := 0) (b := 0) (by decide +kernel) rfl (Or.inl rfl) ?_
      exact ⟨rfl, by omega⟩
    · refine zwW_p [(0, 0, 1), (24, 125, 0), (2, 5, 1), (24, 194, 0), (1, 5, 1), (0, 1000000, 1)] (q := 199) (ls' := [(0, a), (1, b), (9, 0), (1, c), (9, 0), (1, 0), (9, 0)]) (st' := [(1, 1000000), (1, 0)]) (by decide +kernel) rfl ?_
      refine zwW_lmin (nx := 202) (by decide +kernel) rfl ?_
      intro v26 ev26
      refine zwW_p [(0, -1000000, 1)] (q := 205) (ls' := [(0, a), (1, b), (9, 0), (1, c), (9, 0), (1, 0), (9, 0)]) (st' := [(1, -1000000), (1, v26)]) (by decide +kernel) rfl ?_
      refine zwW_lmax (nx := 208) (by decide +kernel) rfl ?_
      intro v27 ev27
      refine zwW_l2i (nx := 209) (by decide +kernel) (by first | omega | exact ⟨by omega, by omega⟩) ?_
      refine zwW_ret (nx := 210) (a := 0) (b := 0) (by decide +kernel) rfl (Or.inl rfl) ?_
      exact ⟨rfl, by omega⟩
  refine ⟨fun c28 => ?_, fun c28 => ?_⟩
  · show zwW _ _ _ 130 _ _ _ _
    refine zwW_p [(1, 1, 1), (1, 3, 1)] (q := 132) (ls' := [(0, a), (1, b), (9, 0), (1, c), (9, 0), (1, 0), (9, 0)]) (st' := [(1, c), (1, b)]) (by decide +kernel) rfl ?_
    refine zwlc_ge (q := 140) (nx := 136) (m := 133) (by decide +kernel) (by decide +kernel) (fun c29 => ?_) (fun c29 => ?_)
    · refine zwW_p [(0, 0, 1), (2, 5, 1), (24, 194, 0), (1, 5, 1), (0, 1000000, 1)] (q := 199) (ls' := [(0, a), (1, b), (9, 0), (1, c), (9, 0), (1, 0), (9, 0)]) (st' := [(1, 1000000), (1, 0)]) (by decide +kernel) rfl ?_
      refine zwW_lmin (nx := 202) (by decide +kernel) rfl ?_
      intro v30 ev30
      refine zwW_p [(0, -1000000, 1)] (q := 205) (ls' := [(0, a), (1, b), (9, 0), (1, c), (9, 0), (1, 0), (9, 0)]) (st' := [(1, -1000000), (1, v30)]) (by decide +kernel) rfl ?_
      refine zwW_lmax (nx := 208) (by decide +kernel) rfl ?_
      intro v31 ev31
      refine zwW_l2i (nx := 209) (by decide +kernel) (by first | omega | exact ⟨by omega, by omega⟩) ?_
      refine zwW_ret (nx := 210) (a := 0) (b := 0) (by decide +kernel) rfl (Or.inl rfl) ?_
      exact ⟨rfl, by omega⟩
    · refine zwW_p [(0, 1, 1), (24, 141, 0), (2, 5, 1), (24, 194, 0), (1, 5, 1), (0, 1000000, 1)] (q := 199) (ls' := [(0, a), (1, b), (9, 0), (1, c), (9, 0), (1, 1), (9, 0)]) (st' := [(1, 1000000), (1, 1)]) (by decide +kernel) rfl ?_
      refine zwW_lmin (nx := 202) (by decide +kernel) rfl ?_
      intro v32 ev32
      refine zwW_p [(0, -1000000, 1)] (q := 205) (ls' := [(0, a), (1, b), (9, 0), (1, c), (9, 0), (1, 1), (9, 0)]) (st' := [(1, -1000000), (1, v32)]) (by decide +kernel) rfl ?_
      refine zwW_lmax (nx := 208) (by decide +kernel) rfl ?_
      intro v33 ev33
      refine zwW_l2i (nx := 209) (by decide +kernel) (by first | omega | exact ⟨by omega, by omega⟩) ?_
      refine zwW_ret (nx := 210) (a := 0) (b := 0) (by decide +kernel) rfl (Or.inl rfl) ?_
      exact ⟨rfl, by omega⟩
  refine ⟨fun c34 => ?_, fun c34 => ?_⟩
  · show zwW _ _ _ 162 _ _ _ _
    refine zwW_p [(1, 1, 1), (1, 3, 1)] (q := 164) (ls' := [(0, a), (1, b), (9, 0), (1, c), (9, 0), (1, 0), (9, 0)]) (st' := [(1, c), (1, b)]) (by decide +kernel) rfl ?_
    refine zwlc_ne (q := 172) (nx := 168) (m := 165) (by decide +kernel) (by decide +kernel) (fun c35 => ?_) (fun c35 => ?_)
    · refine zwW_p [(0, 0, 1), (2, 5, 1), (24, 194, 0), (1, 5, 1), (0, 1000000, 1)] (q := 199) (ls' := [(0, a), (1, b), (9, 0), (1, c), (9, 0), (1, 0), (9, 0)]) (st' := [(1, 1000000), (1, 0)]) (by decide +kernel) rfl ?_
      refine zwW_lmin (nx := 202) (by decide +kernel) rfl ?_
      intro v36 ev36
      refine zwW_p [(0, -1000000, 1)] (q := 205) (ls' := [(0, a), (1, b), (9, 0), (1, c), (9, 0), (1, 0), (9, 0)]) (st' := [(1, -1000000), (1, v36)]) (by decide +kernel) rfl ?_
      refine zwW_lmax (nx := 208) (by decide +kernel) rfl ?_
      intro v37 ev37
      refine zwW_l2i (nx := 209) (by decide +kernel) (by first | omega | exact ⟨by omega, by omega⟩) ?_
      refine zwW_ret (nx := 210) (a := 0) (b := 0) (by decide +kernel) rfl (Or.inl rfl) ?_
      exact ⟨rfl, by omega⟩
    · refine zwW_p [(0, 1, 1), (24, 173, 0), (2, 5, 1), (24, 194, 0), (1, 5, 1), (0, 1000000, 1)] (q := 199) (ls' := [(0, a), (1, b), (9, 0), (1, c), (9, 0), (1, 1), (9, 0)]) (st' := [(1, 1000000), (1, 1)]) (by decide +kernel) rfl ?_
      refine zwW_lmin (nx := 202) (by decide +kernel) rfl ?_
      intro v38 ev38
      refine zwW_p [(0, -1000000, 1)] (q := 205) (ls' := [(0, a), (1, b), (9, 0), (1, c), (9, 0), (1, 1), (9, 0)]) (st' := [(1, -1000000), (1, v38)]) (by decide +kernel) rfl ?_
      refine zwW_lmax (nx := 208) (by decide +kernel) rfl ?_
      intro v39 ev39
      refine zwW_l2i (nx := 209) (by decide +kernel) (by first | omega | exact ⟨by omega, by omega⟩) ?_
      refine zwW_ret (nx := 210) (a := 0) (b := 0) (by decide +kernel) rfl (Or.inl rfl) ?_
      exact ⟨rfl, by omega⟩
  refine ⟨fun c40 => ?_, fun c40 => ?_⟩
  · show zwW _ _ _ 146 _ _ _ _
    refine zwW_p [(1, 1, 1), (1, 3, 1)] (q := 148) (ls' := [(0, a), (1, b), (9, 0), (1, c), (9, 0), (1, 0), (9, 0)]) (st' := [(1, c), (1, b)]) (by decide +kernel) rfl ?_
    refine zwlc_le (q := 156) (nx := 152) (m := 149) (by decide +kernel) (by decide +kernel) (fun c41 => ?_) (fun c41 => ?_)
    · refine zwW_p [(0, 0, 1), (2, 5, 1), (24, 194, 0), (1, 5, 1), (0, 1000000, 1)] (q := 199) (ls' := [(0, a), (1, b), (9, 0), (1, c), (9, 0), (1, 0), (9, 0)]) (st' := [(1, 1000000), (1, 0)]) (by decide +kernel) rfl ?_
      refine zwW_lmin (nx := 202) (by decide +kernel) rfl ?_
      intro v42 ev42
      refine zwW_p [(0, -1000000, 1)] (q := 205) (ls' := [(0, a), (1, b), (9, 0), (1, c), (9, 0), (1, 0), (9, 0)]) (st' := [(1, -1000000), (1, v42)]) (by decide +kernel) rfl ?_
      refine zwW_lmax (nx := 208) (by decide +kernel) rfl ?_
      intro v43 ev43
      refine zwW_l2i (nx := 209) (by decide +kernel) (by first | omega | exact ⟨by omega, by omega⟩) ?_
      refine zwW_ret (nx := 210) (a := 0) (b := 0) (by decide +kernel) rfl (Or.inl rfl) ?_
      exact ⟨rfl, by omega⟩
    · refine zwW_p [(0, 1, 1), (24, 157, 0), (2, 5, 1), (24, 194, 0), (1, 5, 1), (0, 1000000, 1)] (q := 199) (ls' := [(0, a), (1, b), (9, 0), (1, c), (9, 0), (1, 1), (9, 0)]) (st' := [(1, 1000000), (1, 1)]) (by decide +kernel) rfl ?_
      refine zwW_lmin (nx := 202) (by decide +kernel) rfl ?_
      intro v44 ev44
      refine zwW_p [(0, -1000000, 1)] (q := 205) (ls' := [(0, a), (1, b), (9, 0), (1, c), (9, 0), (1, 1), (9, 0)]) (st' := [(1, -1000000), (1, v44)]) (by decide +kernel) rfl ?_
      refine zwW_lmax (nx := 208) (by decide +kernel) rfl ?_
      intro v45 ev45
      refine zwW_l2i (nx := 209) (by decide +kernel) (by first | omega | exact ⟨by omega, by omega⟩) ?_
      refine zwW_ret (nx := 210) (a := 0) (b := 0) (by decide +kernel) rfl (Or.inl rfl) ?_
      exact ⟨rfl, by omega⟩
  show zwW _ _ _ 194 _ _ _ _
  refine zwW_p [(1, 5, 1), (0, 1000000, 1)] (q := 199) (ls' := [(0, a), (1, b), (9, 0), (1, c), (9, 0), (1, 0), (9, 0)]) (st' := [(1, 1000000), (1, 0)]) (by decide +kernel) rfl ?_
  refine zwW_lmin (nx := 202) (by decide +kernel) rfl ?_
  intro v46 ev46
  refine zwW_p [(0, -1000000, 1)] (q := 205) (ls' := [(0, a), (1, b), (9, 0), (1, c), (9, 0), (1, 0), (9, 0)]) (st' := [(1, -1000000), (1, v46)]) (by decide +kernel) rfl ?_
  refine zwW_lmax (nx := 208) (by decide +kernel) rfl ?_
  intro v47 ev47
  refine zwW_l2i (nx := 209) (by decide +kernel) (by first | omega | exact ⟨by omega, by omega⟩) ?_
  refine zwW_ret (nx := 210) (a := 0) (b := 0) (by decide +kernel) rfl (Or.inl rfl) ?_
  exact ⟨rfl, by omega⟩
def msx224 : Zms := [(18, 18, 0, 400)]
-- WheelLand$Rules.run(LWheelLand$Sheet;I)I
theorem x224 {sc : List Int} (h : Hp) (C : CI h) (r a : Int) (G_r : gS h r) (q_a : -2147483648 ≤ a ∧ a ≤ 2147483647) : zwC sc 2 224 [(2, 13), (2, r), (0, a)] h (zwRt 0 (fun x g => CI g ∧ zXR msx224 (0) (0) h g ∧ (-2147483648 ≤ x ∧ x ≤ 2147483647))) := by
  refine zwC_of (D := 1) 7 (by decide +kernel) rfl (ls := [(2, 13), (2, r), (0, a), (9, 0), (9, 0), (9, 0), (9, 0)]) rfl ?_
  have lw_r := G_r.1
  have X : zXR msx224 0 0 h h := zXR.rf _ _
  refine zwW_p [(0, 0, 0), (2, 3, 0), (1, 1, 2), (1, 2, 0)] (q := 4) (ls' := [(2, 13), (2, r), (0, a), (0, 0), (9, 0), (9, 0), (9, 0)]) (st' := [(0, a), (2, r)]) (by decide +kernel) rfl ?_
  refine zwW_cv (op := 60) (k' := 206) (n := 1) (kd := 10) (m := 3) (nx := 7) (r := r) (tl := [(0, a)]) (st' := []) (by decide +kernel) rfl (by decide +kernel) G_r.2.1 (x206 h C r a G_r (by omega)) rfl ?_
  rintro v1 _ ⟨rfl, f2⟩
  refine zwW_p [(2, 4, 0), (1, 1, 2), (1, 4, 0)] (q := 12) (ls' := [(2, 13), (2, r), (0, a), (0, 0), (0, v1), (9, 0), (9, 0)]) (st' := [(0, v1), (2, r)]) (by decide +kernel) rfl ?_
  refine zwW_cv (op := 60) (k' := 255) (n := 1) (kd := 10) (m := 3) (nx := 15) (r := r) (tl := [(0, v1)]) (st' := []) (by decide +kernel) rfl (by decide +kernel) G_r.2.1 (x255 h C r v1 G_r (by omega)) rfl ?_
  rintro v3 _ ⟨rfl, f4⟩
  refine zwW_p [(2, 5, 0), (0, 0, 0), (2, 6, 0)] (q := 20) (ls' := [(2, 13), (2, r), (0, a), (0, 0), (0, v1), (0, v3), (0, 0)]) (st' := []) (by decide +kernel) rfl ?_
  have L5 : ∀ (n : Nat) (tL5 pL5 qL5 kL5 : Int) (hL5 : Hp), n = ((1000 - kL5)).toNat → (0 ≤ tL5 ∧ tL5 ≤ 400) → (-2147483648 ≤ pL5 ∧ pL5 ≤ 2147483647) → (-2147483648 ≤ qL5 ∧ qL5 ≤ 2147483647) → (0 ≤ kL5 ∧ kL5 ≤ 1000) → (gS hL5 r) → CI hL5 → zXR msx224 (0) (0) h hL5 → zwW sc (1) 224 20 [(2, 13), (2, r), (0, a), (0, tL5), (0, pL5), (0, qL5), (0, kL5)] [] hL5 (zwRt 0 (fun x g => CI g ∧ zXR msx224 (0) (0) h g ∧ (-2147483648 ≤ x ∧ x ≤ 2147483647))) := by
    intro n
    induction n using Nat.strongRecOn with
    | ind n IHL5 =>
      intro tL5 pL5 qL5 kL5 hL5 hnL5 iL5_0 iL5_1 iL5_2 iL5_3 gL5_0 ChL5 XhL5
      refine zwW_p [(1, 6, 0), (0, 400, 0)] (q := 25) (ls' := [(2, 13), (2, r), (0, a), (0, tL5), (0, pL5), (0, qL5), (0, kL5)]) (st' := [(0, 400), (0, kL5)]) (by decide +kernel) rfl ?_
      refine zwic_ge (q := 178) (nx := 28) (by decide +kernel) (fun c6 => ?_) (fun c6 => ?_)
      · refine zwW_p [(1, 3, 0)] (q := 179) (ls' := [(2, 13), (2, r), (0, a), (0, tL5), (0, pL5), (0, qL5), (0, kL5)]) (st' := [(0, tL5)]) (by decide +kernel) rfl ?_
        refine zwif_le (q := 191) (nx := 182) (by decide +kernel) (fun c7 => ?_) (fun c7 => ?_)
        · refine zwW_p [(0, 0, 0)] (q := 192) (ls' := [(2, 13), (2, r), (0, a), (0, tL5), (0, pL5), (0, qL5), (0, kL5)]) (st' := [(0, 0)]) (by decide +kernel) rfl ?_
          refine zwW_ret (nx := 193) (a := 0) (b := 0) (by decide +kernel) rfl (Or.inl rfl) ?_
          exact ⟨ChL5, XhL5.le (by decide) (by decide), by omega⟩
        · refine zwW_p [(1, 0, 2)] (q := 183) (ls' := [(2, 13), (2, r), (0, a), (0, tL5), (0, pL5), (0, qL5), (0, kL5)]) (st' := [(2, 13)]) (by decide +kernel) rfl ?_
          refine zwW_gc ChL5.1 (kd := 9) (bn := 5) (n := 6) (c := 18) (nx := 186) (by decide +kernel) ?_
          refine zwW_p [(0, 0, 0)] (q := 187) (ls' := [(2, 13), (2, r), (0, a), (0, tL5), (0, pL5), (0, qL5), (0, kL5)]) (st' := [(0, 0), (2, 18)]) (by decide +kernel) rfl ?_
          refine zwW_al ChL5.1 (a1 := 18) (a2 := 18) (kd := 20) (n := 400) (t := 0) (lo := -2147483648) (hi := 2147483647) (nx := 188) (by decide +kernel) (by first | decide | exact ⟨by decide, by decide⟩) (by first | decide | exact ⟨by decide, by decide⟩) ?_
          intro v8 ev8 lv8 uv8
          refine zwW_p [(24, 192, 0)] (q := 192) (ls' := [(2, 13), (2, r), (0, a), (0, tL5), (0, pL5), (0, qL5), (0, kL5)]) (st' := [(0, v8)]) (by decide +kernel) rfl ?_
          refine zwW_ret (nx := 193) (a := 0) (b := 0) (by decide +kernel) rfl (Or.inl rfl) ?_
          exact ⟨ChL5, XhL5.le (by decide) (by decide), by omega⟩
      · refine zwW_p [(1, 5, 0), (0, -21, 0)] (q := 32) (ls' := [(2, 13), (2, r), (0, a), (0, tL5), (0, pL5), (0, qL5), (0, kL5)]) (st' := [(0, -21), (0, qL5)]) (by decide +kernel) rfl ?_
        refine zwic_eq (q := 178) (nx := 35) (by decide +kernel) (fun c9 => ?_) (fun c9 => ?_)
        · refine zwW_p [(1, 3, 0)] (q := 179) (ls' := [(2, 13), (2, r), (0, a), (0, tL5), (0, pL5), (0, qL5), (0, kL5)]) (st' := [(0, tL5)]) (by decide +kernel) rfl ?_
          refine zwif_le (q := 191) (nx := 182) (by decide +kernel) (fun c10 => ?_) (fun c10 => ?_)
          · refine zwW_p [(0, 0, 0)] (q := 192) (ls' := [(2, 13), (2, r), (0, a), (0, tL5), (0, pL5), (0, qL5), (0, kL5)]) (st' := [(0, 0)]) (by decide +kernel) rfl ?_
            refine zwW_ret (nx := 193) (a := 0) (b := 0) (by decide +kernel) rfl (Or.inl rfl) ?_
            exact ⟨ChL5, XhL5.le (by decide) (by decide), by omega⟩
          · refine zwW_p [(1, 0, 2)] (q := 183) (ls' := [(2, 13), (2, r), (0, a), (0, tL5), (0, pL5), (0, qL5), (0, kL5)]) (st' := [(2, 13)]) (by decide +kernel) rfl ?_
            refine zwW_gc ChL5.1 (kd := 9) (bn := 5) (n := 6) (c := 18) (nx := 186) (by decide +kernel) ?_
            refine zwW_p [(0, 0, 0)] (q := 187) (ls' := [(2, 13), (2, r), (0, a), (0, tL5), (0, pL5), (0, qL5), (0, kL5)]) (st' := [(0, 0), (2, 18)]) (by decide +kernel) rfl ?_
            refine zwW_al ChL5.1 (a1 := 18) (a2 := 18) (kd := 20) (n := 400) (t := 0) (lo := -2147483648) (hi := 2147483647) (nx := 188) (by decide +kernel) (by first | decide | exact ⟨by decide, by decide⟩) (by first | decide | exact ⟨by decide, by decide⟩) ?_
            intro v11 ev11 lv11 uv11
            refine zwW_p [(24, 192, 0)] (q := 192) (ls' := [(2, 13), (2, r), (0, a), (0, tL5), (0, pL5), (0, qL5), (0, kL5)]) (st' := [(0, v11)]) (by decide +kernel) rfl ?_
            refine zwW_ret (nx := 193) (a := 0) (b := 0) (by decide +kernel) rfl (Or.inl rfl) ?_
            exact ⟨ChL5, XhL5.le (by decide) (by decide), by omega⟩
        · refine zwW_p [(1, 3, 0), (1, 0, 2)] (q := 37) (ls' := [(2, 13), (2, r), (0, a), (0, tL5), (0, pL5), (0, qL5), (0, kL5)]) (st' := [(2, 13), (0, tL5)]) (by decide +kernel) rfl ?_
          refine zwW_gc ChL5.1 (kd := 9) (bn := 5) (n := 6) (c := 18) (nx := 40) (by decide +kernel) ?_
          refine zwW_len (kd := 20) (n := 400) (nx := 41) (by decide +kernel) (ChL5.1.s (a1 := 18) (a2 := 18) (by decide +kernel) (by omega) (by omega)) rfl ?_
          refine zwic_ge (q := 178) (nx := 44) (by decide +kernel) (fun c12 => ?_) (fun c12 => ?_)
          · refine zwW_p [(1, 3, 0)] (q := 179) (ls' := [(2, 13), (2, r), (0, a), (0, tL5), (0, pL5), (0, qL5), (0, kL5)]) (st' := [(0, tL5)]) (by decide +kernel) rfl ?_
            refine zwif_le (q := 191) (nx := 182) (by decide +kernel) (fun c13 => ?_) (fun c13 => ?_)
            · exfalso; omega
            · refine zwW_p [(1, 0, 2)] (q := 183) (ls' := [(2, 13), (2, r), (0, a), (0, tL5), (0, pL5), (0, qL5), (0, kL5)]) (st' := [(2, 13)]) (by decide +kernel) rfl ?_
              refine zwW_gc ChL5.1 (kd := 9) (bn := 5) (n := 6) (c := 18) (nx := 186) (by decide +kernel) ?_
              refine zwW_p [(0, 0, 0)] (q := 187) (ls' := [(2, 13), (2, r), (0, a), (0, tL5), (0, pL5), (0, qL5), (0, kL5)]) (st' := [(0, 0), (2, 18)]) (by decide +kernel) rfl ?_
              refine zwW_al ChL5.1 (a1 := 18) (a2 := 18) (kd := 20) (n := 400) (t := 0) (lo := -2147483648) (hi := 2147483647) (nx := 188) (by decide +kernel) (by first | decide | exact ⟨by decide, by decide⟩) (by first | decide | exact ⟨by decide, by decide⟩) ?_
              intro v14 ev14 lv14 uv14
              refine zwW_p [(24, 192, 0)] (q := 192) (ls' := [(2, 13), (2, r), (0, a), (0, tL5), (0, pL5), (0, qL5), (0, kL5)]) (st' := [(0, v14)]) (by decide +kernel) rfl ?_
              refine zwW_ret (nx := 193) (a := 0) (b := 0) (by decide +kernel) rfl (Or.inl rfl) ?_
              exact ⟨ChL5, XhL5.le (by decide) (by decide), by omega⟩
          · refine zwW_p [(1, 5, 0)] (q := 46) (ls' := [(2, 13), (2, r), (0, a), (0, tL5), (0, pL5), (0, qL5), (0, kL5)]) (st' := [(0, qL5)]) (by decide +kernel) rfl ?_
            refine zwif_lt (q := 63) (nx := 49) (by decide +kernel) (fun c15 => ?_) (fun c15 => ?_)
            · refine zwW_p [(1, 5, 0), (0, -13, 0)] (q := 67) (ls' := [(2, 13), (2, r), (0, a), (0, tL5), (0, pL5), (0, qL5), (0, kL5)]) (st' := [(0, -13), (0, qL5)]) (by decide +kernel) rfl ?_
              refine zwic_lt (q := 91) (nx := 70) (by decide +kernel) (fun c16 => ?_) (fun c16 => ?_)
              · refine zwW_p [(1, 5, 0), (0, -20, 0)] (q := 95) (ls' := [(2, 13), (2, r), (0, a), (0, tL5), (0, pL5), (0, qL5), (0, kL5)]) (st' := [(0, -20), (0, qL5)]) (by decide +kernel) rfl ?_
                refine zwic_ne (q := 123) (nx := 98) (by decide +kernel) (fun c17 => ?_) (fun c17 => ?_)
                · refine zwW_p [(1, 3, 0), (0, 1, 0)] (q := 125) (ls' := [(2, 13), (2, r), (0, a), (0, tL5), (0, pL5), (0, qL5), (0, kL5)]) (st' := [(0, 1), (0, tL5)]) (by decide +kernel) rfl ?_
                  refine zwic_le (q := 161) (nx := 128) (by decide +kernel) (fun c18 => ?_) (fun c18 => ?_)
                  · refine zwW_icw (i := 4) (c := 1) (x := pL5) (nx := 164) (fun z => [(2, 13), (2, r), (0, a), (0, tL5), (0, z), (0, qL5), (0, kL5)]) (by decide +kernel) rfl (fun _ => rfl) ?_
                    intro v19 ev19 lv19 uv19
                    refine zwW_p [(1, 1, 2), (1, 4, 0)] (q := 167) (ls' := [(2, 13), (2, r), (0, a), (0, tL5), (0, v19), (0, qL5), (0, kL5)]) (st' := [(0, v19), (2, r)]) (by decide +kernel) rfl ?_
                    refine zwW_cv (op := 60) (k' := 255) (n := 1) (kd := 10) (m := 3) (nx := 170) (r := r) (tl := [(0, v19)]) (st' := []) (by decide +kernel) rfl (by decide +kernel) gL5_0.2.1 (x255 hL5 ChL5 r v19 gL5_0 (by omega)) rfl ?_
                    rintro v20 _ ⟨rfl, f21⟩
                    refine zwW_p [(2, 5, 0)] (q := 172) (ls' := [(2, 13), (2, r), (0, a), (0, tL5), (0, v19), (0, v20), (0, kL5)]) (st' := []) (by decide +kernel) rfl ?_
                    refine zwW_inc (i := 6) (c := 1) (x := kL5) (nx := 175) (by decide +kernel) rfl (by first | omega | exact ⟨by omega, by omega⟩) (ls' := [(2, 13), (2, r), (0, a), (0, tL5), (0, v19), (0, v20), (0, (kL5 + 1))]) rfl ?_
                    refine zwW_p [(24, 20, 0)] (q := 20) (ls' := [(2, 13), (2, r), (0, a), (0, tL5), (0, v19), (0, v20), (0, (kL5 + 1))]) (st' := []) (by decide +kernel) rfl ?_
                    exact IHL5 ((1000 - (kL5 + 1))).toNat (by omega) tL5 v19 v20 (kL5 + 1) hL5 rfl (by omega) (by omega) (by omega) (by omega) gL5_0 ChL5 (XhL5.le (by decide) (by decide))
                  · refine zwW_inc (i := 3) (c := -1) (x := tL5) (nx := 131) (by decide +kernel) rfl (by first | omega | exact ⟨by omega, by omega⟩) (ls' := [(2, 13), (2, r), (0, a), (0, (tL5 + (-1))), (0, pL5), (0, qL5), (0, kL5)]) rfl ?_
                    refine zwW_p [(1, 0, 2)] (q := 132) (ls' := [(2, 13), (2, r), (0, a), (0, (tL5 + (-1))), (0, pL5), (0, qL5), (0, kL5)]) (st' := [(2, 13)]) (by decide +kernel) rfl ?_
                    refine zwW_gc ChL5.1 (kd := 9) (bn := 5) (n := 6) (c := 18) (nx := 135) (by decide +kernel) ?_
                    refine zwW_p [(1, 3, 0), (0, 1, 0)] (q := 137) (ls' := [(2, 13), (2, r), (0, a), (0, (tL5 + (-1))), (0, pL5), (0, qL5), (0, kL5)]) (st' := [(0, 1), (0, (tL5 + (-1))), (2, 18)]) (by decide +kernel) rfl ?_
                    refine zwW_sub (nx := 138) (by decide +kernel) (by first | omega | exact ⟨by omega, by omega⟩) ?_
                    refine zwW_p [(1, 5, 0)] (q := 140) (ls' := [(2, 13), (2, r), (0, a), (0, (tL5 + (-1))), (0, pL5), (0, qL5), (0, kL5)]) (st' := [(0, qL5), (0, ((tL5 + (-1)) - 1)), (2, 18)]) (by decide +kernel) rfl ?_
                    refine zwW_ngw (nx := 141) (by decide +kernel) ?_
                    intro v22 ev22 lv22 uv22
                    refine zwW_p [(1, 0, 2)] (q := 142) (ls' := [(2, 13), (2, r), (0, a), (0, (tL5 + (-1))), (0, pL5), (0, qL5), (0, kL5)]) (st' := [(2, 13), (0, v22), (0, ((tL5 + (-1)) - 1)), (2, 18)]) (by decide +kernel) rfl ?_
                    refine zwW_gc ChL5.1 (kd := 9) (bn := 5) (n := 6) (c := 18) (nx := 145) (by decide +kernel) ?_
                    refine zwW_p [(1, 3, 0), (0, 1, 0)] (q := 147) (ls' := [(2, 13), (2, r), (0, a), (0, (tL5 + (-1))), (0, pL5), (0, qL5), (0, kL5)]) (st' := [(0, 1), (0, (tL5 + (-1))), (2, 18), (0, v22), (0, ((tL5 + (-1)) - 1)), (2, 18)]) (by decide +kernel) rfl ?_
                    refine zwW_sub (nx := 148) (by decide +kernel) (by first | omega | exact ⟨by omega, by omega⟩) ?_
                    refine zwW_al ChL5.1 (a1 := 18) (a2 := 18) (kd := 20) (n := 400) (t := 0) (lo := -2147483648) (hi := 2147483647) (nx := 149) (by decide +kernel) (by first | decide | exact ⟨by decide, by decide⟩) (by first | omega | exact ⟨by omega, by omega⟩) ?_
                    intro v23 ev23 lv23 uv23
                    refine zwW_p [(7, 0, 0), (1, 0, 2)] (q := 151) (ls' := [(2, 13), (2, r), (0, a), (0, (tL5 + (-1))), (0, pL5), (0, qL5), (0, kL5)]) (st' := [(2, 13), (1, v23), (0, v22), (0, ((tL5 + (-1)) - 1)), (2, 18)]) (by decide +kernel) rfl ?_
                    refine zwW_gc ChL5.1 (kd := 9) (bn := 5) (n := 6) (c := 18) (nx := 154) (by decide +kernel) ?_
                    refine zwW_p [(1, 3, 0)] (q := 155) (ls' := [(2, 13), (2, r), (0, a), (0, (tL5 + (-1))), (0, pL5), (0, qL5), (0, kL5)]) (st' := [(0, (tL5 + (-1))), (2, 18), (1, v23), (0, v22), (0, ((tL5 + (-1)) - 1)), (2, 18)]) (by decide +kernel) rfl ?_
                    refine zwW_al ChL5.1 (a1 := 18) (a2 := 18) (kd := 20) (n := 400) (t := 0) (lo := -2147483648) (hi := 2147483647) (nx := 156) (by decide +kernel) (by first | decide | exact ⟨by decide, by decide⟩) (by first | omega | exact ⟨by omega, by omega⟩) ?_
                    intro v24 ev24 lv24 uv24
                    refine zwW_p [(7, 0, 0)] (q := 157) (ls' := [(2, 13), (2, r), (0, a), (0, (tL5 + (-1))), (0, pL5), (0, qL5), (0, kL5)]) (st' := [(1, v24), (1, v23), (0, v22), (0, ((tL5 + (-1)) - 1)), (2, 18)]) (by decide +kernel) rfl ?_
                    refine zwW_cs (k' := 256) (n := 3) (nx := 160) (as := [(0, v22), (1, v23), (1, v24)]) (st' := [(0, ((tL5 + (-1)) - 1)), (2, 18)]) (by decide +kernel) rfl (x256 hL5 ChL5 v22 v23 v24 (by omega) (by omega) (by omega)) rfl ?_
                    rintro v25 _ ⟨rfl, f26⟩
                    refine zwW_as ChL5.1 (a1 := 18) (a2 := 18) (n := 400) (lo := -2147483648) (hi := 2147483647) (nx := 161) (by decide +kernel) (by first | decide | exact ⟨by decide, by decide⟩) (by first | omega | exact ⟨by omega, by omega⟩) (by first | omega | exact ⟨by omega, by omega⟩) ?_
                    intro h27 eh27 Ih27
                    have Ch27 : CI h27 := ChL5.wc eh27 Ih27 (by decide) (by decide)
                    have Qh27 : zXR [(18, 18, 0, 400)] 0 0 hL5 h27 := zXR.wc eh27 rfl ⟨by decide, by decide, Or.inl (by decide)⟩ (by first | omega | exact ⟨by omega, by omega⟩)
                    have Xh27 : zXR msx224 (0) (0) h h27 := XhL5.tr (c2 := 0) (s2 := 0) Qh27 (by decide +kernel) (by decide) (by decide)
                    have Gh27_0 : gS h27 r := gL5_0.x Qh27
                    refine zwW_icw (i := 4) (c := 1) (x := pL5) (nx := 164) (fun z => [(2, 13), (2, r), (0, a), (0, (tL5 + (-1))), (0, z), (0, qL5), (0, kL5)]) (by decide +kernel) rfl (fun _ => rfl) ?_
                    intro v28 ev28 lv28 uv28
                    refine zwW_p [(1, 1, 2), (1, 4, 0)] (q := 167) (ls' := [(2, 13), (2, r), (0, a), (0, (tL5 + (-1))), (0, v28), (0, qL5), (0, kL5)]) (st' := [(0, v28), (2, r)]) (by decide +kernel) rfl ?_
                    refine zwW_cv (op := 60) (k' := 255) (n := 1) (kd := 10) (m := 3) (nx := 170) (r := r) (tl := [(0, v28)]) (st' := []) (by decide +kernel) rfl (by decide +kernel) Gh27_0.2.1 (x255 h27 Ch27 r v28 Gh27_0 (by omega)) rfl ?_
                    rintro v29 _ ⟨rfl, f30⟩
                    refine zwW_p [(2, 5, 0)] (q := 172) (ls' := [(2, 13), (2, r), (0, a), (0, (tL5 + (-1))), (0, v28), (0, v29), (0, kL5)]) (st' := []) (by decide +kernel) rfl ?_
                    refine zwW_inc (i := 6) (c := 1) (x := kL5) (nx := 175) (by decide +kernel) rfl (by first | omega | exact ⟨by omega, by omega⟩) (ls' := [(2, 13), (2, r), (0, a), (0, (tL5 + (-1))), (0, v28), (0, v29), (0, (kL5 + 1))]) rfl ?_
                    refine zwW_p [(24, 20, 0)] (q := 20) (ls' := [(2, 13), (2, r), (0, a), (0, (tL5 + (-1))), (0, v28), (0, v29), (0, (kL5 + 1))]) (st' := []) (by decide +kernel) rfl ?_
                    exact IHL5 ((1000 - (kL5 + 1))).toNat (by omega) (tL5 + (-1)) v28 v29 (kL5 + 1) h27 rfl (by omega) (by omega) (by omega) (by omega) Gh27_0 Ch27 (Xh27.le (by decide) (by decide))
                · refine zwW_p [(1, 3, 0)] (q := 99) (ls' := [(2, 13), (2, r), (0, a), (0, tL5), (0, pL5), (0, qL5), (0, kL5)]) (st' := [(0, tL5)]) (by decide +kernel) rfl ?_
                  refine zwif_le (q := 123) (nx := 102) (by decide +kernel) (fun c31 => ?_) (fun c31 => ?_)
                  · refine zwW_p [(1, 3, 0), (0, 1, 0)] (q := 125) (ls' := [(2, 13), (2, r), (0, a), (0, tL5), (0, pL5), (0, qL5), (0, kL5)]) (st' := [(0, 1), (0, tL5)]) (by decide +kernel) rfl ?_
                    refine zwic_le (q := 161) (nx := 128) (by decide +kernel) (fun c32 => ?_) (fun c32 => ?_)
                    · refine zwW_icw (i := 4) (c := 1) (x := pL5) (nx := 164) (fun z => [(2, 13), (2, r), (0, a), (0, tL5), (0, z), (0, qL5), (0, kL5)]) (by decide +kernel) rfl (fun _ => rfl) ?_
                      intro v33 ev33 lv33 uv33
                      refine zwW_p [(1, 1, 2), (1, 4, 0)] (q := 167) (ls' := [(2, 13), (2, r), (0, a), (0, tL5), (0, v33), (0, qL5), (0, kL5)]) (st' := [(0, v33), (2, r)]) (by decide +kernel) rfl ?_
                      refine zwW_cv (op := 60) (k' := 255) (n := 1) (kd := 10) (m := 3) (nx := 170) (r := r) (tl := [(0, v33)]) (st' := []) (by decide +kernel) rfl (by decide +kernel) gL5_0.2.1 (x255 hL5 ChL5 r v33 gL5_0 (by omega)) rfl ?_
                      rintro v34 _ ⟨rfl, f35⟩
                      refine zwW_p [(2, 5, 0)] (q := 172) (ls' := [(2, 13), (2, r), (0, a), (0, tL5), (0, v33), (0, v34), (0, kL5)]) (st' := []) (by decide +kernel) rfl ?_
                      refine zwW_inc (i := 6) (c := 1) (x := kL5) (nx := 175) (by decide +kernel) rfl (by first | omega | exact ⟨by omega, by omega⟩) (ls' := [(2, 13), (2, r), (0, a), (0, tL5), (0, v33), (0, v34), (0, (kL5 + 1))]) rfl ?_
                      refine zwW_p [(24, 20, 0)] (q := 20) (ls' := [(2, 13), (2, r), (0, a), (0, tL5), (0, v33), (0, v34), (0, (kL5 + 1))]) (st' := []) (by decide +kernel) rfl ?_
                      exact IHL5 ((1000 - (kL5 + 1))).toNat (by omega) tL5 v33 v34 (kL5 + 1) hL5 rfl (by omega) (by omega) (by omega) (by omega) gL5_0 ChL5 (XhL5.le (by decide) (by decide))
                    · exfalso; omega
                  · refine zwW_p [(1, 0, 2)] (q := 103) (ls' := [(2, 13), (2, r), (0, a), (0, tL5), (0, pL5), (0, qL5), (0, kL5)]) (st' := [(2, 13)]) (by decide +kernel) rfl ?_
                    refine zwW_gc ChL5.1 (kd := 9) (bn := 5) (n := 6) (c := 18) (nx := 106) (by decide +kernel) ?_
                    refine zwW_p [(1, 3, 0), (0, 1, 0)] (q := 108) (ls' := [(2, 13), (2, r), (0, a), (0, tL5), (0, pL5), (0, qL5), (0, kL5)]) (st' := [(0, 1), (0, tL5), (2, 18)]) (by decide +kernel) rfl ?_
                    refine zwW_sub (nx := 109) (by decide +kernel) (by first | omega | exact ⟨by omega, by omega⟩) ?_
                    refine zwW_p [(0, 1, 0), (1, 0, 2)] (q := 111) (ls' := [(2, 13), (2, r), (0, a), (0, tL5), (0, pL5), (0, qL5), (0, kL5)]) (st' := [(2, 13), (0, 1), (0, (tL5 - 1)), (2, 18)]) (by decide +kernel) rfl ?_
                    refine zwW_gc ChL5.1 (kd := 9) (bn := 5) (n := 6) (c := 18) (nx := 114) (by decide +kernel) ?_
                    refine zwW_p [(1, 3, 0), (0, 1, 0)] (q := 116) (ls' := [(2, 13), (2, r), (0, a), (0, tL5), (0, pL5), (0, qL5), (0, kL5)]) (st' := [(0, 1), (0, tL5), (2, 18), (0, 1), (0, (tL5 - 1)), (2, 18)]) (by decide +kernel) rfl ?_
                    refine zwW_sub (nx := 117) (by decide +kernel) (by first | omega | exact ⟨by omega, by omega⟩) ?_
                    refine zwW_al ChL5.1 (a1 := 18) (a2 := 18) (kd := 20) (n := 400) (t := 0) (lo := -2147483648) (hi := 2147483647) (nx := 118) (by decide +kernel) (by first | decide | exact ⟨by decide, by decide⟩) (by first | omega | exact ⟨by omega, by omega⟩) ?_
                    intro v36 ev36 lv36 uv36
                    refine zwW_sbw (nx := 119) (by decide +kernel) ?_
                    intro v37 ev37 lv37 uv37
                    refine zwW_as ChL5.1 (a1 := 18) (a2 := 18) (n := 400) (lo := -2147483648) (hi := 2147483647) (nx := 120) (by decide +kernel) (by first | decide | exact ⟨by decide, by decide⟩) (by first | omega | exact ⟨by omega, by omega⟩) (by first | omega | exact ⟨by omega, by omega⟩) ?_
                    intro h38 eh38 Ih38
                    have Ch38 : CI h38 := ChL5.wc eh38 Ih38 (by decide) (by decide)
                    have Qh38 : zXR [(18, 18, 0, 400)] 0 0 hL5 h38 := zXR.wc eh38 rfl ⟨by decide, by decide, Or.inl (by decide)⟩ (by first | omega | exact ⟨by omega, by omega⟩)
                    have Xh38 : zXR msx224 (0) (0) h h38 := XhL5.tr (c2 := 0) (s2 := 0) Qh38 (by decide +kernel) (by decide) (by decide)
                    have Gh38_0 : gS h38 r := gL5_0.x Qh38
                    refine zwW_p [(24, 161, 0)] (q := 161) (ls' := [(2, 13), (2, r), (0, a), (0, tL5), (0, pL5), (0, qL5), (0, kL5)]) (st' := []) (by decide +kernel) rfl ?_
                    refine zwW_icw (i := 4) (c := 1) (x := pL5) (nx := 164) (fun z => [(2, 13), (2, r), (0, a), (0, tL5), (0, z), (0, qL5), (0, kL5)]) (by decide +kernel) rfl (fun _ => rfl) ?_
                    intro v39 ev39 lv39 uv39
                    refine zwW_p [(1, 1, 2), (1, 4, 0)] (q := 167) (ls' := [(2, 13), (2, r), (0, a), (0, tL5), (0, v39), (0, qL5), (0, kL5)]) (st' := [(0, v39), (2, r)]) (by decide +kernel) rfl ?_
                    refine zwW_cv (op := 60) (k' := 255) (n := 1) (kd := 10) (m := 3) (nx := 170) (r := r) (tl := [(0, v39)]) (st' := []) (by decide +kernel) rfl (by decide +kernel) Gh38_0.2.1 (x255 h38 Ch38 r v39 Gh38_0 (by omega)) rfl ?_
                    rintro v40 _ ⟨rfl, f41⟩
                    refine zwW_p [(2, 5, 0)] (q := 172) (ls' := [(2, 13), (2, r), (0, a), (0, tL5), (0, v39), (0, v40), (0, kL5)]) (st' := []) (by decide +kernel) rfl ?_
                    refine zwW_inc (i := 6) (c := 1) (x := kL5) (nx := 175) (by decide +kernel) rfl (by first | omega | exact ⟨by omega, by omega⟩) (ls' := [(2, 13), (2, r), (0, a), (0, tL5), (0, v39), (0, v40), (0, (kL5 + 1))]) rfl ?_
                    refine zwW_p [(24, 20, 0)] (q := 20) (ls' := [(2, 13), (2, r), (0, a), (0, tL5), (0, v39), (0, v40), (0, (kL5 + 1))]) (st' := []) (by decide +kernel) rfl ?_
                    exact IHL5 ((1000 - (kL5 + 1))).toNat (by omega) tL5 v39 v40 (kL5 + 1) h38 rfl (by omega) (by omega) (by omega) (by omega) Gh38_0 Ch38 (Xh38.le (by decide) (by decide))
              · refine zwW_p [(1, 0, 2)] (q := 71) (ls' := [(2, 13), (2, r), (0, a), (0, tL5), (0, pL5), (0, qL5), (0, kL5)]) (st' := [(2, 13)]) (by decide +kernel) rfl ?_
                refine zwW_gc ChL5.1 (kd := 9) (bn := 5) (n := 6) (c := 18) (nx := 74) (by decide +kernel) ?_
                refine zwW_p [(1, 3, 0), (1, 0, 2)] (q := 76) (ls' := [(2, 13), (2, r), (0, a), (0, tL5), (0, pL5), (0, qL5), (0, kL5)]) (st' := [(2, 13), (0, tL5), (2, 18)]) (by decide +kernel) rfl ?_
                refine zwW_gc ChL5.1 (kd := 9) (bn := 4) (n := 6) (c := 17) (nx := 79) (by decide +kernel) ?_
                refine zwW_p [(0, -1, 0), (1, 5, 0)] (q := 82) (ls' := [(2, 13), (2, r), (0, a), (0, tL5), (0, pL5), (0, qL5), (0, kL5)]) (st' := [(0, qL5), (0, -1), (2, 17), (0, tL5), (2, 18)]) (by decide +kernel) rfl ?_
                refine zwW_sub (nx := 83) (by decide +kernel) (by first | omega | exact ⟨by omega, by omega⟩) ?_
                refine zwW_al ChL5.1 (a1 := 17) (a2 := 17) (kd := 20) (n := 13) (t := 0) (lo := -2147483648) (hi := 2147483647) (nx := 84) (by decide +kernel) (by first | decide | exact ⟨by decide, by decide⟩) (by first | omega | exact ⟨by omega, by omega⟩) ?_
                intro v42 ev42 lv42 uv42
                refine zwW_as ChL5.1 (a1 := 18) (a2 := 18) (n := 400) (lo := -2147483648) (hi := 2147483647) (nx := 85) (by decide +kernel) (by first | decide | exact ⟨by decide, by decide⟩) (by first | omega | exact ⟨by omega, by omega⟩) (by first | omega | exact ⟨by omega, by omega⟩) ?_
                intro h43 eh43 Ih43
                have Ch43 : CI h43 := ChL5.wc eh43 Ih43 (by decide) (by decide)
                have Qh43 : zXR [(18, 18, 0, 400)] 0 0 hL5 h43 := zXR.wc eh43 rfl ⟨by decide, by decide, Or.inl (by decide)⟩ (by first | omega | exact ⟨by omega, by omega⟩)
                have Xh43 : zXR msx224 (0) (0) h h43 := XhL5.tr (c2 := 0) (s2 := 0) Qh43 (by decide +kernel) (by decide) (by decide)
                have Gh43_0 : gS h43 r := gL5_0.x Qh43
                refine zwW_inc (i := 3) (c := 1) (x := tL5) (nx := 88) (by decide +kernel) rfl (by first | omega | exact ⟨by omega, by omega⟩) (ls' := [(2, 13), (2, r), (0, a), (0, (tL5 + 1)), (0, pL5), (0, qL5), (0, kL5)]) rfl ?_
                refine zwW_p [(24, 161, 0)] (q := 161) (ls' := [(2, 13), (2, r), (0, a), (0, (tL5 + 1)), (0, pL5), (0, qL5), (0, kL5)]) (st' := []) (by decide +kernel) rfl ?_
                refine zwW_icw (i := 4) (c := 1) (x := pL5) (nx := 164) (fun z => [(2, 13), (2, r), (0, a), (0, (tL5 + 1)), (0, z), (0, qL5), (0, kL5)]) (by decide +kernel) rfl (fun _ => rfl) ?_
                intro v44 ev44 lv44 uv44
                refine zwW_p [(1, 1, 2), (1, 4, 0)] (q := 167) (ls' := [(2, 13), (2, r), (0, a), (0, (tL5 + 1)), (0, v44), (0, qL5), (0, kL5)]) (st' := [(0, v44), (2, r)]) (by decide +kernel) rfl ?_
                refine zwW_cv (op := 60) (k' := 255) (n := 1) (kd := 10) (m := 3) (nx := 170) (r := r) (tl := [(0, v44)]) (st' := []) (by decide +kernel) rfl (by decide +kernel) Gh43_0.2.1 (x255 h43 Ch43 r v44 Gh43_0 (by omega)) rfl ?_
                rintro v45 _ ⟨rfl, f46⟩
                refine zwW_p [(2, 5, 0)] (q := 172) (ls' := [(2, 13), (2, r), (0, a), (0, (tL5 + 1)), (0, v44), (0, v45), (0, kL5)]) (st' := []) (by decide +kernel) rfl ?_
                refine zwW_inc (i := 6) (c := 1) (x := kL5) (nx := 175) (by decide +kernel) rfl (by first | omega | exact ⟨by omega, by omega⟩) (ls' := [(2, 13), (2, r), (0, a), (0, (tL5 + 1)), (0, v44), (0, v45), (0, (kL5 + 1))]) rfl ?_
                refine zwW_p [(24, 20, 0)] (q := 20) (ls' := [(2, 13), (2, r), (0, a), (0, (tL5 + 1)), (0, v44), (0, v45), (0, (kL5 + 1))]) (st' := []) (by decide +kernel) rfl ?_
                exact IHL5 ((1000 - (kL5 + 1))).toNat (by omega) (tL5 + 1) v44 v45 (kL5 + 1) h43 rfl (by omega) (by omega) (by omega) (by omega) Gh43_0 Ch43 (Xh43.le (by decide) (by decide))
            · refine zwW_p [(1, 0, 2)] (q := 50) (ls' := [(2, 13), (2, r), (0, a), (0, tL5), (0, pL5), (0, qL5), (0, kL5)]) (st' := [(2, 13)]) (by decide +kernel) rfl ?_
              refine zwW_gc ChL5.1 (kd := 9) (bn := 5) (n := 6) (c := 18) (nx := 53) (by decide +kernel) ?_
              refine zwW_p [(1, 3, 0), (1, 5, 0)] (q := 56) (ls' := [(2, 13), (2, r), (0, a), (0, tL5), (0, pL5), (0, qL5), (0, kL5)]) (st' := [(0, qL5), (0, tL5), (2, 18)]) (by decide +kernel) rfl ?_
              refine zwW_as ChL5.1 (a1 := 18) (a2 := 18) (n := 400) (lo := -2147483648) (hi := 2147483647) (nx := 57) (by decide +kernel) (by first | decide | exact ⟨by decide, by decide⟩) (by first | omega | exact ⟨by omega, by omega⟩) (by first | omega | exact ⟨by omega, by omega⟩) ?_
              intro h47 eh47 Ih47
              have Ch47 : CI h47 := ChL5.wc eh47 Ih47 (by decide) (by decide)
              have Qh47 : zXR [(18, 18, 0, 400)] 0 0 hL5 h47 := zXR.wc eh47 rfl ⟨by decide, by decide, Or.inl (by decide)⟩ (by first | omega | exact ⟨by omega, by omega⟩)
              have Xh47 : zXR msx224 (0) (0) h h47 := XhL5.tr (c2 := 0) (s2 := 0) Qh47 (by decide +kernel) (by decide) (by decide)
              have Gh47_0 : gS h47 r := gL5_0.x Qh47
              refine zwW_inc (i := 3) (c := 1) (x := tL5) (nx := 60) (by decide +kernel) rfl (by first | omega | exact ⟨by omega, by omega⟩) (ls' := [(2, 13), (2, r), (0, a), (0, (tL5 + 1)), (0, pL5), (0, qL5), (0, kL5)]) rfl ?_
              refine zwW_p [(24, 161, 0)] (q := 161) (ls' := [(2, 13), (2, r), (0, a), (0, (tL5 + 1)), (0, pL5), (0, qL5), (0, kL5)]) (st' := []) (by decide +kernel) rfl ?_
              refine zwW_icw (i := 4) (c := 1) (x := pL5) (nx := 164) (fun z => [(2, 13), (2, r), (0, a), (0, (tL5 + 1)), (0, z), (0, qL5), (0, kL5)]) (by decide +kernel) rfl (fun _ => rfl) ?_
              intro v48 ev48 lv48 uv48
              refine zwW_p [(1, 1, 2), (1, 4, 0)] (q := 167) (ls' := [(2, 13), (2, r), (0, a), (0, (tL5 + 1)), (0, v48), (0, qL5), (0, kL5)]) (st' := [(0, v48), (2, r)]) (by decide +kernel) rfl ?_
              refine zwW_cv (op := 60) (k' := 255) (n := 1) (kd := 10) (m := 3) (nx := 170) (r := r) (tl := [(0, v48)]) (st' := []) (by decide +kernel) rfl (by decide +kernel) Gh47_0.2.1 (x255 h47 Ch47 r v48 Gh47_0 (by omega)) rfl ?_
              rintro v49 _ ⟨rfl, f50⟩
              refine zwW_p [(2, 5, 0)] (q := 172) (ls' := [(2, 13), (2, r), (0, a), (0, (tL5 + 1)), (0, v48), (0, v49), (0, kL5)]) (st' := []) (by decide +kernel) rfl ?_
              refine zwW_inc (i := 6) (c := 1) (x := kL5) (nx := 175) (by decide +kernel) rfl (by first | omega | exact ⟨by omega, by omega⟩) (ls' := [(2, 13), (2, r), (0, a), (0, (tL5 + 1)), (0, v48), (0, v49), (0, (kL5 + 1))]) rfl ?_
              refine zwW_p [(24, 20, 0)] (q := 20) (ls' := [(2, 13), (2, r), (0, a), (0, (tL5 + 1)), (0, v48), (0, v49), (0, (kL5 + 1))]) (st' := []) (by decide +kernel) rfl ?_
              exact IHL5 ((1000 - (kL5 + 1))).toNat (by omega) (tL5 + 1) v48 v49 (kL5 + 1) h47 rfl (by omega) (by omega) (by omega) (by omega) Gh47_0 Ch47 (Xh47.le (by decide) (by decide))
  exact L5 _ 0 v1 v3 0 h rfl (by omega) (by omega) (by omega) (by omega) G_r C (X.le (by decide) (by decide))
-- WheelLand$Rules.inForce(II)LWheelLand$Sheet;
theorem x125 {sc : List Int} (h : Hp) (C : CI h) (a b : Int) (q_a : -2147483648 ≤ a ∧ a ≤ 2147483647) (q_b : -2147483648 ≤ b ∧ b ≤ 2147483647) : zwC sc 2 125 [(2, 13), (0, a), (0, b)] h (zwRt 2 (fun x g => h = g ∧ ((x = 0) ∨ (gS h x)))) := by
  refine zwC_of (D := 1) 7 (by decide +kernel) rfl (ls := [(2, 13), (0, a), (0, b), (9, 0), (9, 0), (9, 0), (9, 0)]) rfl ?_
  refine zwW_p [(0, 0, 2), (2, 3, 2), (0, 0, 0), (2, 4, 0), (0, 0, 0), (2, 5, 0)] (q := 8) (ls' := [(2, 13), (0, a), (0, b), (2, 0), (0, 0), (0, 0), (9, 0)]) (st' := []) (by decide +kernel) rfl ?_
  have L1 : ∀ (n : Nat) (wL1 kL1 r3L1 : Int) (w6L1 : Vl), n = ((1000 - kL1)).toNat → (-2147483648 ≤ wL1 ∧ wL1 ≤ 2147483647) → (0 ≤ kL1 ∧ kL1 ≤ 12) → ((r3L1 = 0 ∨ gS h r3L1)) → zwW sc (1) 125 8 [(2, 13), (0, a), (0, b), (2, r3L1), (0, wL1), (0, kL1), w6L1] [] h (zwRt 2 (fun x g => h = g ∧ ((x = 0) ∨ (gS h x)))) := by
    intro n
    induction n using Nat.strongRecOn with
    | ind n IHL1 =>
      intro wL1 kL1 r3L1 w6L1 hnL1 iL1_0 iL1_1 gL1_0
      have lw_r3L1 : 0 ≤ r3L1 := by
        rcases gL1_0 with z | z
        · omega
        · have := z.1
          omega
      refine zwW_p [(1, 5, 0), (1, 0, 2)] (q := 11) (ls' := [(2, 13), (0, a), (0, b), (2, r3L1), (0, wL1), (0, kL1), w6L1]) (st' := [(2, 13), (0, kL1)]) (by decide +kernel) rfl ?_
      refine zwW_gs C.1 (kd := 9) (bn := 1) (n := 6) (t := 0) (lo := 0) (hi := 12) (nx := 14) (by decide +kernel) ?_
      intro v2 ev2 lv2 uv2
      refine zwic_ge (q := 92) (nx := 17) (by decide +kernel) (fun c3 => ?_) (fun c3 => ?_)
      · refine zwW_p [(1, 3, 2)] (q := 93) (ls' := [(2, 13), (0, a), (0, b), (2, r3L1), (0, wL1), (0, kL1), w6L1]) (st' := [(2, r3L1)]) (by decide +kernel) rfl ?_
        refine zwW_ret (nx := 94) (a := 0) (b := 2) (by decide +kernel) rfl (Or.inl rfl) ?_
        exact ⟨rfl, gL1_0⟩
      · refine zwW_p [(1, 5, 0), (1, 0, 2)] (q := 20) (ls' := [(2, 13), (0, a), (0, b), (2, r3L1), (0, wL1), (0, kL1), w6L1]) (st' := [(2, 13), (0, kL1)]) (by decide +kernel) rfl ?_
        refine zwW_gc C.1 (kd := 9) (bn := 2) (n := 6) (c := 15) (nx := 23) (by decide +kernel) ?_
        refine zwW_len (kd := 24) (n := 12) (nx := 24) (by decide +kernel) (C.1.s (a1 := 15) (a2 := 15) (by decide +kernel) (by omega) (by omega)) rfl ?_
        refine zwic_ge (q := 92) (nx := 27) (by decide +kernel) (fun c4 => ?_) (fun c4 => ?_)
        · exfalso; omega
        · refine zwW_p [(1, 0, 2)] (q := 28) (ls' := [(2, 13), (0, a), (0, b), (2, r3L1), (0, wL1), (0, kL1), w6L1]) (st' := [(2, 13)]) (by decide +kernel) rfl ?_
          refine zwW_gc C.1 (kd := 9) (bn := 2) (n := 6) (c := 15) (nx := 31) (by decide +kernel) ?_
          refine zwW_p [(1, 5, 0)] (q := 33) (ls' := [(2, 13), (0, a), (0, b), (2, r3L1), (0, wL1), (0, kL1), w6L1]) (st' := [(0, kL1), (2, 15)]) (by decide +kernel) rfl ?_
          refine zwW_al C.1 (a1 := 15) (a2 := 15) (kd := 24) (n := 12) (t := 2) (lo := 0) (hi := 2147483647) (nx := 34) (by decide +kernel) (by first | decide | exact ⟨by decide, by decide⟩) (by first | omega | exact ⟨by omega, by omega⟩) ?_
          intro v5 ev5 lv5 uv5
          have Gv5 : v5 = 0 ∨ gS h v5 := by rw [ev5]; exact C.2.2.2.2 kL1.toNat (by omega)
          refine zwW_p [(2, 6, 2), (1, 0, 2)] (q := 37) (ls' := [(2, 13), (0, a), (0, b), (2, r3L1), (0, wL1), (0, kL1), (2, v5)]) (st' := [(2, 13)]) (by decide +kernel) rfl ?_
          refine zwW_gc C.1 (kd := 9) (bn := 3) (n := 6) (c := 16) (nx := 40) (by decide +kernel) ?_
          refine zwW_p [(1, 5, 0)] (q := 42) (ls' := [(2, 13), (0, a), (0, b), (2, r3L1), (0, wL1), (0, kL1), (2, v5)]) (st' := [(0, kL1), (2, 16)]) (by decide +kernel) rfl ?_
          refine zwW_al C.1 (a1 := 16) (a2 := 16) (kd := 20) (n := 12) (t := 0) (lo := -2147483648) (hi := 2147483647) (nx := 43) (by decide +kernel) (by first | decide | exact ⟨by decide, by decide⟩) (by first | omega | exact ⟨by omega, by omega⟩) ?_
          intro v6 ev6 lv6 uv6
          refine zwW_p [(1, 2, 0)] (q := 44) (ls' := [(2, 13), (0, a), (0, b), (2, r3L1), (0, wL1), (0, kL1), (2, v5)]) (st' := [(0, b), (0, v6)]) (by decide +kernel) rfl ?_
          refine zwic_gt (q := 86) (nx := 47) (by decide +kernel) (fun c7 => ?_) (fun c7 => ?_)
          · refine zwW_inc (i := 5) (c := 1) (x := kL1) (nx := 89) (by decide +kernel) rfl (by first | omega | exact ⟨by omega, by omega⟩) (ls' := [(2, 13), (0, a), (0, b), (2, r3L1), (0, wL1), (0, (kL1 + 1)), (2, v5)]) rfl ?_
            refine zwW_p [(24, 8, 0)] (q := 8) (ls' := [(2, 13), (0, a), (0, b), (2, r3L1), (0, wL1), (0, (kL1 + 1)), (2, v5)]) (st' := []) (by decide +kernel) rfl ?_
            exact IHL1 ((1000 - (kL1 + 1))).toNat (by omega) wL1 (kL1 + 1) r3L1 (2, v5) rfl (by omega) (by omega) gL1_0
          · refine zwW_p [(1, 0, 2)] (q := 48) (ls' := [(2, 13), (0, a), (0, b), (2, r3L1), (0, wL1), (0, kL1), (2, v5)]) (st' := [(2, 13)]) (by decide +kernel) rfl ?_
            refine zwW_gc C.1 (kd := 9) (bn := 3) (n := 6) (c := 16) (nx := 51) (by decide +kernel) ?_
            refine zwW_p [(1, 5, 0)] (q := 53) (ls' := [(2, 13), (0, a), (0, b), (2, r3L1), (0, wL1), (0, kL1), (2, v5)]) (st' := [(0, kL1), (2, 16)]) (by decide +kernel) rfl ?_
            refine zwW_al C.1 (a1 := 16) (a2 := 16) (kd := 20) (n := 12) (t := 0) (lo := -2147483648) (hi := 2147483647) (nx := 54) (by decide +kernel) (by first | decide | exact ⟨by decide, by decide⟩) (by first | omega | exact ⟨by omega, by omega⟩) ?_
            intro v8 ev8 lv8 uv8
            refine zwW_p [(1, 4, 0)] (q := 56) (ls' := [(2, 13), (0, a), (0, b), (2, r3L1), (0, wL1), (0, kL1), (2, v5)]) (st' := [(0, wL1), (0, v8)]) (by decide +kernel) rfl ?_
            refine zwic_lt (q := 86) (nx := 59) (by decide +kernel) (fun c9 => ?_) (fun c9 => ?_)
            · refine zwW_inc (i := 5) (c := 1) (x := kL1) (nx := 89) (by decide +kernel) rfl (by first | omega | exact ⟨by omega, by omega⟩) (ls' := [(2, 13), (0, a), (0, b), (2, r3L1), (0, wL1), (0, (kL1 + 1)), (2, v5)]) rfl ?_
              refine zwW_p [(24, 8, 0)] (q := 8) (ls' := [(2, 13), (0, a), (0, b), (2, r3L1), (0, wL1), (0, (kL1 + 1)), (2, v5)]) (st' := []) (by decide +kernel) rfl ?_
              exact IHL1 ((1000 - (kL1 + 1))).toNat (by omega) wL1 (kL1 + 1) r3L1 (2, v5) rfl (by omega) (by omega) gL1_0
            · refine zwW_p [(1, 6, 2)] (q := 61) (ls' := [(2, 13), (0, a), (0, b), (2, r3L1), (0, wL1), (0, kL1), (2, v5)]) (st' := [(2, v5)]) (by decide +kernel) rfl ?_
              refine zwnu_eq (q := 86) (nx := 64) (by decide +kernel) (by omega) (fun c10 => ?_) (fun c10 => ?_)
              · refine zwW_inc (i := 5) (c := 1) (x := kL1) (nx := 89) (by decide +kernel) rfl (by first | omega | exact ⟨by omega, by omega⟩) (ls' := [(2, 13), (0, a), (0, b), (2, r3L1), (0, wL1), (0, (kL1 + 1)), (2, v5)]) rfl ?_
                refine zwW_p [(24, 8, 0)] (q := 8) (ls' := [(2, 13), (0, a), (0, b), (2, r3L1), (0, wL1), (0, (kL1 + 1)), (2, v5)]) (st' := []) (by decide +kernel) rfl ?_
                exact IHL1 ((1000 - (kL1 + 1))).toNat (by omega) wL1 (kL1 + 1) r3L1 (2, v5) rfl (by omega) (by omega) gL1_0
              · have G11 : gS h v5 := Gv5.resolve_left (by omega)
                have lG11 := G11.1
                refine zwW_p [(1, 6, 2), (1, 1, 0)] (q := 67) (ls' := [(2, 13), (0, a), (0, b), (2, r3L1), (0, wL1), (0, kL1), (2, v5)]) (st' := [(0, a), (2, v5)]) (by decide +kernel) rfl ?_
                refine zwW_cv (op := 60) (k' := 206) (n := 1) (kd := 10) (m := 3) (nx := 70) (r := v5) (tl := [(0, a)]) (st' := []) (by decide +kernel) rfl (by decide +kernel) G11.2.1 (x206 h C v5 a G11 (by omega)) rfl ?_
                rintro v12 _ ⟨rfl, f13⟩
                refine zwW_p [(0, -1, 0)] (q := 71) (ls' := [(2, 13), (0, a), (0, b), (2, r3L1), (0, wL1), (0, kL1), (2, v5)]) (st' := [(0, -1), (0, v12)]) (by decide +kernel) rfl ?_
                refine zwic_eq (q := 86) (nx := 74) (by decide +kernel) (fun c14 => ?_) (fun c14 => ?_)
                · refine zwW_inc (i := 5) (c := 1) (x := kL1) (nx := 89) (by decide +kernel) rfl (by first | omega | exact ⟨by omega, by omega⟩) (ls' := [(2, 13), (0, a), (0, b), (2, r3L1), (0, wL1), (0, (kL1 + 1)), (2, v5)]) rfl ?_
                  refine zwW_p [(24, 8, 0)] (q := 8) (ls' := [(2, 13), (0, a), (0, b), (2, r3L1), (0, wL1), (0, (kL1 + 1)), (2, v5)]) (st' := []) (by decide +kernel) rfl ?_
                  exact IHL1 ((1000 - (kL1 + 1))).toNat (by omega) wL1 (kL1 + 1) r3L1 (2, v5) rfl (by omega) (by omega) gL1_0
                · refine zwW_p [(1, 0, 2)] (q := 75) (ls' := [(2, 13), (0, a), (0, b), (2, r3L1), (0, wL1), (0, kL1), (2, v5)]) (st' := [(2, 13)]) (by decide +kernel) rfl ?_
                  refine zwW_gc C.1 (kd := 9) (bn := 3) (n := 6) (c := 16) (nx := 78) (by decide +kernel) ?_
                  refine zwW_p [(1, 5, 0)] (q := 80) (ls' := [(2, 13), (0, a), (0, b), (2, r3L1), (0, wL1), (0, kL1), (2, v5)]) (st' := [(0, kL1), (2, 16)]) (by decide +kernel) rfl ?_
                  refine zwW_al C.1 (a1 := 16) (a2 := 16) (kd := 20) (n := 12) (t := 0) (lo := -2147483648) (hi := 2147483647) (nx := 81) (by decide +kernel) (by first | decide | exact ⟨by decide, by decide⟩) (by first | omega | exact ⟨by omega, by omega⟩) ?_
                  intro v15 ev15 lv15 uv15
                  refine zwW_p [(2, 4, 0), (1, 6, 2), (2, 3, 2)] (q := 86) (ls' := [(2, 13), (0, a), (0, b), (2, v5), (0, v15), (0, kL1), (2, v5)]) (st' := []) (by decide +kernel) rfl ?_
                  refine zwW_inc (i := 5) (c := 1) (x := kL1) (nx := 89) (by decide +kernel) rfl (by first | omega | exact ⟨by omega, by omega⟩) (ls' := [(2, 13), (0, a), (0, b), (2, v5), (0, v15), (0, (kL1 + 1)), (2, v5)]) rfl ?_
                  refine zwW_p [(24, 8, 0)] (q := 8) (ls' := [(2, 13), (0, a), (0, b), (2, v5), (0, v15), (0, (kL1 + 1)), (2, v5)]) (st' := []) (by decide +kernel) rfl ?_
                  exact IHL1 ((1000 - (kL1 + 1))).toNat (by omega) v15 (kL1 + 1) v5 (2, v5) rfl (by omega) (by omega) (Or.inr G11)
  exact L1 _ 0 0 0 (9, 0) rfl (by omega) (by omega) (Or.inl rfl)
def msx172 : Zms := [(18, 18, 0, 400)]
-- WheelLand$Rules.answer(II)I
theorem x172 {sc : List Int} (h : Hp) (C : CI h) (a b : Int) (q_a : -2147483648 ≤ a ∧ a ≤ 2147483647) (q_b : -2147483648 ≤ b ∧ b ≤ 2147483647) : zwC sc 3 172 [(2, 13), (0, a), (0, b)] h (zwRt 0 (fun x g => CI g ∧ zXR msx172 (0) (0) h g ∧ (-2147483648 ≤ x ∧ x ≤ 2147483647))) := by
  refine zwC_of (D := 2) 4 (by decide +kernel) rfl (ls := [(2, 13), (0, a), (0, b), (9, 0)]) rfl ?_
  have X : zXR msx172 0 0 h h := zXR.rf _ _
  refine zwW_p [(1, 0, 2), (1, 1, 0), (1, 2, 0)] (q := 3) (ls' := [(2, 13), (0, a), (0, b), (9, 0)]) (st' := [(0, b), (0, a), (2, 13)]) (by decide +kernel) rfl ?_
  refine zwW_cm C.1 (op := 60) (k' := 125) (n := 2) (kd := 9) (m := 6) (nx := 6) (r := 13) (tl := [(0, a), (0, b)]) (st' := []) (by decide +kernel) rfl (by decide +kernel) rfl (x125 h C a b (by omega) (by omega)) ?_
  rintro v2 _ ⟨rfl, rfl | Gv2⟩
  · refine zwW_p [(2, 3, 2), (1, 3, 2)] (q := 8) (ls' := [(2, 13), (0, a), (0, b), (2, 0)]) (st' := [(2, 0)]) (by decide +kernel) rfl ?_
    refine zwnu_ne (q := 26) (nx := 11) (by decide +kernel) (by decide) (fun c3 => ?_) (fun c3 => ?_)
    · exfalso; omega
    · refine zwW_p [(1, 1, 0)] (q := 12) (ls' := [(2, 13), (0, a), (0, b), (2, 0)]) (st' := [(0, a)]) (by decide +kernel) rfl ?_
      refine zwif_eq (q := 20) (nx := 15) (by decide +kernel) (fun c4 => ?_) (fun c4 => ?_)
      · refine zwW_p [(0, 0, 0), (24, 25, 0)] (q := 25) (ls' := [(2, 13), (0, a), (0, b), (2, 0)]) (st' := [(0, 0)]) (by decide +kernel) rfl ?_
        refine zwW_ret (nx := 26) (a := 0) (b := 0) (by decide +kernel) rfl (Or.inl rfl) ?_
        exact ⟨C, X.le (by decide) (by decide), by omega⟩
      · refine zwW_p [(1, 1, 0), (0, 2, 0)] (q := 17) (ls' := [(2, 13), (0, a), (0, b), (2, 0)]) (st' := [(0, 2), (0, a)]) (by decide +kernel) rfl ?_
        refine zwic_ne (q := 24) (nx := 20) (by decide +kernel) (fun c5 => ?_) (fun c5 => ?_)
        · refine zwW_p [(0, 1, 0)] (q := 25) (ls' := [(2, 13), (0, a), (0, b), (2, 0)]) (st' := [(0, 1)]) (by decide +kernel) rfl ?_
          refine zwW_ret (nx := 26) (a := 0) (b := 0) (by decide +kernel) rfl (Or.inl rfl) ?_
          exact ⟨C, X.le (by decide) (by decide), by omega⟩
        · refine zwW_p [(0, 0, 0), (24, 25, 0)] (q := 25) (ls' := [(2, 13), (0, a), (0, b), (2, 0)]) (st' := [(0, 0)]) (by decide +kernel) rfl ?_
          refine zwW_ret (nx := 26) (a := 0) (b := 0) (by decide +kernel) rfl (Or.inl rfl) ?_
          exact ⟨C, X.le (by decide) (by decide), by omega⟩
  · have lv2 := Gv2.1
    refine zwW_p [(2, 3, 2), (1, 3, 2)] (q := 8) (ls' := [(2, 13), (0, a), (0, b), (2, v2)]) (st' := [(2, v2)]) (by decide +kernel) rfl ?_
    refine zwnu_ne (q := 26) (nx := 11) (by decide +kernel) (by omega) (fun c6 => ?_) (fun c6 => ?_)
    · refine zwW_p [(1, 0, 2), (1, 3, 2), (1, 1, 0)] (q := 29) (ls' := [(2, 13), (0, a), (0, b), (2, v2)]) (st' := [(0, a), (2, v2), (2, 13)]) (by decide +kernel) rfl ?_
      refine zwW_cm C.1 (op := 60) (k' := 224) (n := 2) (kd := 9) (m := 6) (nx := 32) (r := 13) (tl := [(2, v2), (0, a)]) (st' := []) (by decide +kernel) rfl (by decide +kernel) rfl (x224 h C v2 a Gv2 (by omega)) ?_
      rintro v8 h9 ⟨Ch9, Qh9, f7⟩
      have Xh9 : zXR msx172 (0) (0) h h9 := X.tr (c2 := 0) (s2 := 0) Qh9 (by decide +kernel) (by decide) (by decide)
      have Gh9_0 : gS h9 v2 := Gv2.x Qh9
      refine zwW_ret (nx := 33) (a := 0) (b := 0) (by decide +kernel) rfl (Or.inl rfl) ?_
      exact ⟨Ch9, Xh9.le (by decide) (by decide), by omega⟩
    · exfalso; omega
def msx124 : Zms := [(13, 13, 1, 2), (15, 15, 0, 12), (16, 16, 0, 12)]
-- WheelLand$Rules.enforce(LWheelLand$Sheet;I)V
theorem x124 {sc : List Int} (h : Hp) (C : CI h) (r a : Int) (G_r : gS h r) (q_a : -2147483648 ≤ a ∧ a ≤ 2147483647) (hl : h.length ≤ 999990000) : zwC sc 1 124 [(2, 13), (2, r), (0, a)] h (zwRv (fun g => CI g ∧ zXR msx124 (0) (0) h g)) := by
  refine zwC_of (D := 0) 3 (by decide +kernel) rfl (ls := [(2, 13), (2, r), (0, a)]) rfl ?_
  have lw_r := G_r.1
  have X : zXR msx124 0 0 h h := zXR.rf _ _
  refine zwW_p [(1, 0, 2)] (q := 1) (ls' := [(2, 13), (2, r), (0, a)]) (st' := [(2, 13)]) (by decide +kernel) rfl ?_
  refine zwW_gs C.1 (kd := 9) (bn := 1) (n := 6) (t := 0) (lo := 0) (hi := 12) (nx := 4) (by decide +kernel) ?_
  intro v1 ev1 lv1 uv1
  refine zwW_p [(1, 0, 2)] (q := 5) (ls' := [(2, 13), (2, r), (0, a)]) (st' := [(2, 13), (0, v1)]) (by decide +kernel) rfl ?_
  refine zwW_gc C.1 (kd := 9) (bn := 2) (n := 6) (c := 15) (nx := 8) (by decide +kernel) ?_
  refine zwW_len (kd := 24) (n := 12) (nx := 9) (by decide +kernel) (C.1.s (a1 := 15) (a2 := 15) (by decide +kernel) (by omega) (by omega)) rfl ?_
  refine zwic_ge (q := 42) (nx := 12) (by decide +kernel) (fun c2 => ?_) (fun c2 => ?_)
  · refine zwW_retv (nx := 43) (a := 0) (b := 0) (by decide +kernel) ?_
    exact ⟨C, X.le (by decide) (by decide)⟩
  · refine zwW_p [(1, 0, 2)] (q := 13) (ls' := [(2, 13), (2, r), (0, a)]) (st' := [(2, 13)]) (by decide +kernel) rfl ?_
    refine zwW_gc C.1 (kd := 9) (bn := 2) (n := 6) (c := 15) (nx := 16) (by decide +kernel) ?_
    refine zwW_p [(1, 0, 2)] (q := 17) (ls' := [(2, 13), (2, r), (0, a)]) (st' := [(2, 13), (2, 15)]) (by decide +kernel) rfl ?_
    refine zwW_gs C.1 (kd := 9) (bn := 1) (n := 6) (t := 0) (lo := 0) (hi := 12) (nx := 20) (by decide +kernel) ?_
    intro v3 ev3 lv3 uv3
    refine zwW_p [(1, 1, 2)] (q := 21) (ls' := [(2, 13), (2, r), (0, a)]) (st' := [(2, r), (0, v3), (2, 15)]) (by decide +kernel) rfl ?_
    refine zwW_ast (a := 24) (kd := 24) (n := 12) (x := r) (nx := 22) (by decide +kernel) (C.1.s (a1 := 15) (a2 := 15) (by decide +kernel) (by decide) (by decide)) rfl (by omega) (by omega) (kept24 G_r) ?_
    rintro h4 eh4
    obtain ⟨Ch4, Qh4⟩ := C.ws (i := v3.toNat) G_r (by omega) (by omega) eh4
    have Xh4 : zXR msx124 (0) (0) h h4 := X.tr (c2 := 0) (s2 := 0) Qh4 (by decide +kernel) (by decide) (by decide)
    have Gh4_0 : gS h4 r := G_r.x Qh4
    have th4_13_1 : fld h4 13 1 = fld h 13 1 := Qh4.f (a1 := 13) (a2 := 13) (j1 := 1) (j2 := 2) (by decide +kernel) (by first | decide | exact ⟨by decide, by decide⟩) (by first | decide | exact ⟨by decide, by decide⟩) (by first | decide | exact ⟨by decide, by decide⟩)
    refine zwW_p [(1, 0, 2)] (q := 23) (ls' := [(2, 13), (2, r), (0, a)]) (st' := [(2, 13)]) (by decide +kernel) rfl ?_
    refine zwW_gc Ch4.1 (kd := 9) (bn := 3) (n := 6) (c := 16) (nx := 26) (by decide +kernel) ?_
    refine zwW_p [(1, 0, 2)] (q := 27) (ls' := [(2, 13), (2, r), (0, a)]) (st' := [(2, 13), (2, 16)]) (by decide +kernel) rfl ?_
    refine zwW_gs Ch4.1 (kd := 9) (bn := 1) (n := 6) (t := 0) (lo := 0) (hi := 12) (nx := 30) (by decide +kernel) ?_
    intro v5 ev5 lv5 uv5
    refine zwW_p [(1, 2, 0)] (q := 31) (ls' := [(2, 13), (2, r), (0, a)]) (st' := [(0, a), (0, v5), (2, 16)]) (by decide +kernel) rfl ?_
    refine zwW_as Ch4.1 (a1 := 16) (a2 := 16) (n := 12) (lo := -2147483648) (hi := 2147483647) (nx := 32) (by decide +kernel) (by first | decide | exact ⟨by decide, by decide⟩) (by first | omega | exact ⟨by omega, by omega⟩) (by first | omega | exact ⟨by omega, by omega⟩) ?_
    intro h6 eh6 Ih6
    have Ch6 : CI h6 := Ch4.wc eh6 Ih6 (by decide) (by decide)
    have Qh6 : zXR [(16, 16, 0, 12)] 0 0 h4 h6 := zXR.wc eh6 rfl ⟨by decide, by decide, Or.inl (by decide)⟩ (by first | omega | exact ⟨by omega, by omega⟩)
    have Xh6 : zXR msx124 (0) (0) h h6 := Xh4.tr (c2 := 0) (s2 := 0) Qh6 (by decide +kernel) (by decide) (by decide)
    have Gh6_0 : gS h6 r := Gh4_0.x Qh6
    have th6_13_1 : fld h6 13 1 = fld h4 13 1 := Qh6.f (a1 := 13) (a2 := 13) (j1 := 1) (j2 := 2) (by decide +kernel) (by first | decide | exact ⟨by decide, by decide⟩) (by first | decide | exact ⟨by decide, by decide⟩) (by first | decide | exact ⟨by decide, by decide⟩)
    refine zwW_p [(1, 0, 2), (12, 0, 0)] (q := 34) (ls' := [(2, 13), (2, r), (0, a)]) (st' := [(2, 13), (2, 13)]) (by decide +kernel) rfl ?_
    refine zwW_gs Ch6.1 (kd := 9) (bn := 1) (n := 6) (t := 0) (lo := 0) (hi := 12) (nx := 37) (by decide +kernel) ?_
    intro v7 ev7 lv7 uv7
    refine zwW_p [(0, 1, 0)] (q := 38) (ls' := [(2, 13), (2, r), (0, a)]) (st' := [(0, 1), (0, v7), (2, 13)]) (by decide +kernel) rfl ?_
    refine zwW_add (nx := 39) (by decide +kernel) (by first | omega | exact ⟨by omega, by omega⟩) ?_
    refine zwW_ps Ch6.1 (kd := 9) (bn := 1) (n := 6) (lo := 0) (hi := 12) (nx := 42) (by decide +kernel) (by first | omega | exact ⟨by omega, by omega⟩) ?_
    intro h8 eh8 Ih8
    have Ch8 : CI h8 := Ch6.wc eh8 Ih8 (by decide) (by decide)
    have Qh8 : zXR [(13, 13, 1, 2)] 0 0 h6 h8 := zXR.wc eh8 rfl ⟨by decide, by decide, Or.inl (by decide)⟩ (by first | decide | exact ⟨by decide, by decide⟩)
    have Xh8 : zXR msx124 (0) (0) h h8 := Xh6.tr (c2 := 0) (s2 := 0) Qh8 (by decide +kernel) (by decide) (by decide)
    have Gh8_0 : gS h8 r := Gh6_0.x Qh8
    have th8_13_1 : fld h8 13 1 = (v7 + 1) := by rw [eh8]; exact fld_wr_eq (Ch6.1.s (a1 := 13) (a2 := 13) (k := 9) (n := 6) (by decide +kernel) (by decide) (by decide)) (by decide)
    refine zwW_retv (nx := 43) (a := 0) (b := 0) (by decide +kernel) ?_
    exact ⟨Ch8, Xh8.le (by decide) (by decide)⟩
-- WheelLand.villageAt(I)LWheelLand$Village;
theorem x102 {sc : List Int} (h : Hp) (C : CI h) (a : Int) (q_a : -2147483648 ≤ a ∧ a ≤ 2147483647) : zwC sc 5 102 [(2, 1), (0, a)] h (zwRt 2 (fun x g => h = g ∧ ((x = 0 ∧ (a < 0 ∨ fld h 2 2 ≤ a)) ∨ (gV h x ∧ 0 ≤ a ∧ a < fld h 2 2 ∧ x = fld h (fld h 2 1) a.toNat)))) := by
  refine zwC_of (D := 4) 2 (by decide +kernel) rfl (ls := [(2, 1), (0, a)]) rfl ?_
  refine zwW_p [(1, 1, 0)] (q := 1) (ls' := [(2, 1), (0, a)]) (st' := [(0, a)]) (by decide +kernel) rfl ?_
  refine zwif_lt (q := 29) (nx := 4) (by decide +kernel) (fun c1 => ?_) (fun c1 => ?_)
  · refine zwW_p [(0, 0, 2)] (q := 30) (ls' := [(2, 1), (0, a)]) (st' := [(2, 0)]) (by decide +kernel) rfl ?_
    refine zwW_ret (nx := 31) (a := 0) (b := 2) (by decide +kernel) rfl (Or.inl rfl) ?_
    exact ⟨rfl, Or.inl ⟨rfl, by omega⟩⟩
  · refine zwW_p [(1, 1, 0), (1, 0, 2)] (q := 6) (ls' := [(2, 1), (0, a)]) (st' := [(2, 1), (0, a)]) (by decide +kernel) rfl ?_
    refine zwW_gc C.1 (kd := 12) (bn := 2) (n := 13) (c := 2) (nx := 9) (by decide +kernel) ?_
    refine zwW_cm C.1 (op := 60) (k' := 96) (n := 0) (kd := 0) (m := 3) (nx := 12) (r := 2) (tl := []) (st' := [(0, a)]) (by decide +kernel) rfl (by decide +kernel) rfl (x96_2 C) ?_
    rintro v2 _ ⟨rfl, ev2⟩
    have bv2 := zLb_2 C
    refine zwic_ge (q := 29) (nx := 15) (by decide +kernel) (fun c3 => ?_) (fun c3 => ?_)
    · refine zwW_p [(0, 0, 2)] (q := 30) (ls' := [(2, 1), (0, a)]) (st' := [(2, 0)]) (by decide +kernel) rfl ?_
      refine zwW_ret (nx := 31) (a := 0) (b := 2) (by decide +kernel) rfl (Or.inl rfl) ?_
      exact ⟨rfl, Or.inl ⟨rfl, by omega⟩⟩
    · refine zwW_p [(1, 0, 2)] (q := 16) (ls' := [(2, 1), (0, a)]) (st' := [(2, 1)]) (by decide +kernel) rfl ?_
      refine zwW_gc C.1 (kd := 12) (bn := 2) (n := 13) (c := 2) (nx := 19) (by decide +kernel) ?_
      refine zwW_p [(1, 1, 0)] (q := 20) (ls' := [(2, 1), (0, a)]) (st' := [(0, a), (2, 2)]) (by decide +kernel) rfl ?_
      refine zwW_cm C.1 (op := 60) (k' := 123) (n := 1) (kd := 0) (m := 3) (nx := 23) (r := 2) (tl := [(0, a)]) (st' := []) (by decide +kernel) rfl (by decide +kernel) rfl (x123_2 C (i := a) (by first | omega | exact ⟨by omega, by omega⟩)) ?_
      rintro v4 _ ⟨rfl, Gv4, ev4⟩
      have lv4 := Gv4.1
      refine zwW_cast (a := 11) (kd := 11) (n := 17) (nx := 26) (by decide +kernel) rfl (Or.inr Gv4.2.1) ?_
      refine zwW_p [(24, 30, 0)] (q := 30) (ls' := [(2, 1), (0, a)]) (st' := [(2, v4)]) (by decide +kernel) rfl ?_
      refine zwW_ret (nx := 31) (a := 0) (b := 2) (by decide +kernel) rfl (Or.inl rfl) ?_
      exact ⟨rfl, Or.inr ⟨Gv4, by omega, by omega, by assumption⟩⟩
-- WheelLand.houseAt(I)LWheelLand$House;
theorem x109 {sc : List Int} (h : Hp) (C : CI h) (a : Int) (q_a : -2147483648 ≤ a ∧ a ≤ 2147483647) : zwC sc 5 109 [(2, 1), (0, a)] h (zwRt 2 (fun x g => h = g ∧ ((x = 0 ∧ (a < 0 ∨ fld h 3 2 ≤ a)) ∨ (gH h x ∧ 0 ≤ a ∧ a < fld h 3 2 ∧ x = fld h (fld h 3 1) a.toNat)))) := by
  refine zwC_of (D := 4) 2 (by decide +kernel) rfl (ls := [(2, 1), (0, a)]) rfl ?_
  refine zwW_p [(1, 1, 0)] (q := 1) (ls' := [(2, 1), (0, a)]) (st' := [(0, a)]) (by decide +kernel) rfl ?_
  refine zwif_lt (q := 29) (nx := 4) (by decide +kernel) (fun c1 => ?_) (fun c1 => ?_)
  · refine zwW_p [(0, 0, 2)] (q := 30) (ls' := [(2, 1), (0, a)]) (st' := [(2, 0)]) (by decide +kernel) rfl ?_
    refine zwW_ret (nx := 31) (a := 0) (b := 2) (by decide +kernel) rfl (Or.inl rfl) ?_
    exact ⟨rfl, Or.inl ⟨rfl, by omega⟩⟩
  · refine zwW_p [(1, 1, 0), (1, 0, 2)] (q := 6) (ls' := [(2, 1), (0, a)]) (st' := [(2, 1), (0, a)]) (by decide +kernel) rfl ?_
    refine zwW_gc C.1 (kd := 12) (bn := 3) (n := 13) (c := 3) (nx := 9) (by decide +kernel) ?_
    refine zwW_cm C.1 (op := 60) (k' := 96) (n := 0) (kd := 0) (m := 3) (nx := 12) (r := 3) (tl := []) (st' := [(0, a)]) (by decide +kernel) rfl (by decide +kernel) rfl (x96_3 C) ?_
    rintro v2 _ ⟨rfl, ev2⟩
    have bv2 := zLb_3 C
    refine zwic_ge (q := 29) (nx := 15) (by decide +kernel) (fun c3 => ?_) (fun c3 => ?_)
    · refine zwW_p [(0, 0, 2)] (q := 30) (ls' := [(2, 1), (0, a)]) (st' := [(2, 0)]) (by decide +kernel) rfl ?_
      refine zwW_ret (nx := 31) (a := 0) (b := 2) (by decide +kernel) rfl (Or.inl rfl) ?_
      exact ⟨rfl, Or.inl ⟨rfl, by omega⟩⟩
    · refine zwW_p [(1, 0, 2)] (q := 16) (ls' := [(2, 1), (0, a)]) (st' := [(2, 1)]) (by decide +kernel) rfl ?_
      refine zwW_gc C.1 (kd := 12) (bn := 3) (n := 13) (c := 3) (nx := 19) (by decide +kernel) ?_
      refine zwW_p [(1, 1, 0)] (q := 20) (ls' := [(2, 1), (0, a)]) (st' := [(0, a), (2, 3)]) (by decide +kernel) rfl ?_
      refine zwW_cm C.1 (op := 60) (k' := 123) (n := 1) (kd := 0) (m := 3) (nx := 23) (r := 3) (tl := [(0, a)]) (st' := []) (by decide +kernel) rfl (by decide +kernel) rfl (x123_3 C (i := a) (by first | omega | exact ⟨by omega, by omega⟩)) ?_
      rintro v4 _ ⟨rfl, Gv4, ev4⟩
      have lv4 := Gv4.1
      refine zwW_cast (a := 4) (kd := 4) (n := 19) (nx := 26) (by decide +kernel) rfl (Or.inr Gv4.2.1) ?_
      refine zwW_p [(24, 30, 0)] (q := 30) (ls' := [(2, 1), (0, a)]) (st' := [(2, v4)]) (by decide +kernel) rfl ?_
      refine zwW_ret (nx := 31) (a := 0) (b := 2) (by decide +kernel) rfl (Or.inl rfl) ?_
      exact ⟨rfl, Or.inr ⟨Gv4, by omega, by omega, by assumption⟩⟩
-- WheelLand.lotAt(I)LWheelLand$Lot;
theorem x115 {sc : List Int} (h : Hp) (C : CI h) (a : Int) (q_a : -2147483648 ≤ a ∧ a ≤ 2147483647) : zwC sc 5 115 [(2, 1), (0, a)] h (zwRt 2 (fun x g => h = g ∧ ((x = 0 ∧ (a < 0 ∨ fld h 4 2 ≤ a)) ∨ (gL h x ∧ 0 ≤ a ∧ a < fld h 4 2 ∧ x = fld h (fld h 4 1) a.toNat)))) := by
  refine zwC_of (D := 4) 2 (by decide +kernel) rfl (ls := [(2, 1), (0, a)]) rfl ?_
  refine zwW_p [(1, 1, 0)] (q := 1) (ls' := [(2, 1), (0, a)]) (st' := [(0, a)]) (by decide +kernel) rfl ?_
  refine zwif_lt (q := 29) (nx := 4) (by decide +kernel) (fun c1 => ?_) (fun c1 => ?_)
  · refine zwW_p [(0, 0, 2)] (q := 30) (ls' := [(2, 1), (0, a)]) (st' := [(2, 0)]) (by decide +kernel) rfl ?_
    refine zwW_ret (nx := 31) (a := 0) (b := 2) (by decide +kernel) rfl (Or.inl rfl) ?_
    exact ⟨rfl, Or.inl ⟨rfl, by omega⟩⟩
  · refine zwW_p [(1, 1, 0), (1, 0, 2)] (q := 6) (ls' := [(2, 1), (0, a)]) (st' := [(2, 1), (0, a)]) (by decide +kernel) rfl ?_
    refine zwW_gc C.1 (kd := 12) (bn := 4) (n := 13) (c := 4) (nx := 9) (by decide +kernel) ?_
    refine zwW_cm C.1 (op := 60) (k' := 96) (n := 0) (kd := 0) (m := 3) (nx := 12) (r := 4) (tl := []) (st' := [(0, a)]) (by decide +kernel) rfl (by decide +kernel) rfl (x96_4 C) ?_
    rintro v2 _ ⟨rfl, ev2⟩
    have bv2 := zLb_4 C
    refine zwic_ge (q := 29) (nx := 15) (by decide +kernel) (fun c3 => ?_) (fun c3 => ?_)
    · refine zwW_p [(0, 0, 2)] (q := 30) (ls' := [(2, 1), (0, a)]) (st' := [(2, 0)]) (by decide +kernel) rfl ?_
      refine zwW_ret (nx := 31) (a := 0) (b := 2) (by decide +kernel) rfl (Or.inl rfl) ?_
      exact ⟨rfl, Or.inl ⟨rfl, by omega⟩⟩
    · refine zwW_p [(1, 0, 2)] (q := 16) (ls' := [(2, 1), (0, a)]) (st' := [(2, 1)]) (by decide +kernel) rfl ?_
      refine zwW_gc C.1 (kd := 12) (bn := 4) (n := 13) (c := 4) (nx := 19) (by decide +kernel) ?_
      refine zwW_p [(1, 1, 0)] (q := 20) (ls' := [(2, 1), (0, a)]) (st' := [(0, a), (2, 4)]) (by decide +kernel) rfl ?_
      refine zwW_cm C.1 (op := 60) (k' := 123) (n := 1) (kd := 0) (m := 3) (nx := 23) (r := 4) (tl := [(0, a)]) (st' := []) (by decide +kernel) rfl (by decide +kernel) rfl (x123_4 C (i := a) (by first | omega | exact ⟨by omega, by omega⟩)) ?_
      rintro v4 _ ⟨rfl, Gv4, ev4⟩
      have lv4 := Gv4.1
      refine zwW_cast (a := 6) (kd := 6) (n := 7) (nx := 26) (by decide +kernel) rfl (Or.inr Gv4.2.1) ?_
      refine zwW_p [(24, 30, 0)] (q := 30) (ls' := [(2, 1), (0, a)]) (st' := [(2, v4)]) (by decide +kernel) rfl ?_
      refine zwW_ret (nx := 31) (a := 0) (b := 2) (by decide +kernel) rfl (Or.inl rfl) ?_
      exact ⟨rfl, Or.inr ⟨Gv4, by omega, by omega, by assumption⟩⟩
-- WheelLand.clothAt(I)LWheelLand$Cloth;
theorem x138 {sc : List Int} (h : Hp) (C : CI h) (a : Int) (q_a : -2147483648 ≤ a ∧ a ≤ 2147483647) : zwC sc 5 138 [(2, 1), (0, a)] h (zwRt 2 (fun x g => h = g ∧ ((x = 0 ∧ (a < 0 ∨ fld h 5 2 ≤ a)) ∨ (gC h x ∧ 0 ≤ a ∧ a < fld h 5 2 ∧ x = fld h (fld h 5 1) a.toNat)))) := by
  refine zwC_of (D := 4) 2 (by decide +kernel) rfl (ls := [(2, 1), (0, a)]) rfl ?_
  refine zwW_p [(1, 1, 0)] (q := 1) (ls' := [(2, 1), (0, a)]) (st' := [(0, a)]) (by decide +kernel) rfl ?_
  refine zwif_lt (q := 29) (nx := 4) (by decide +kernel) (fun c1 => ?_) (fun c1 => ?_)
  · refine zwW_p [(0, 0, 2)] (q := 30) (ls' := [(2, 1), (0, a)]) (st' := [(2, 0)]) (by decide +kernel) rfl ?_
    refine zwW_ret (nx := 31) (a := 0) (b := 2) (by decide +kernel) rfl (Or.inl rfl) ?_
    exact ⟨rfl, Or.inl ⟨rfl, by omega⟩⟩
  · refine zwW_p [(1, 1, 0), (1, 0, 2)] (q := 6) (ls' := [(2, 1), (0, a)]) (st' := [(2, 1), (0, a)]) (by decide +kernel) rfl ?_
    refine zwW_gc C.1 (kd := 12) (bn := 5) (n := 13) (c := 5) (nx := 9) (by decide +kernel) ?_
    refine zwW_cm C.1 (op := 60) (k' := 96) (n := 0) (kd := 0) (m := 3) (nx := 12) (r := 5) (tl := []) (st' := [(0, a)]) (by decide +kernel) rfl (by decide +kernel) rfl (x96_5 C) ?_
    rintro v2 _ ⟨rfl, ev2⟩
    have bv2 := zLb_5 C
    refine zwic_ge (q := 29) (nx := 15) (by decide +kernel) (fun c3 => ?_) (fun c3 => ?_)
    · refine zwW_p [(0, 0, 2)] (q := 30) (ls' := [(2, 1), (0, a)]) (st' := [(2, 0)]) (by decide +kernel) rfl ?_
      refine zwW_ret (nx := 31) (a := 0) (b := 2) (by decide +kernel) rfl (Or.inl rfl) ?_
      exact ⟨rfl, Or.inl ⟨rfl, by omega⟩⟩
    · refine zwW_p [(1, 0, 2)] (q := 16) (ls' := [(2, 1), (0, a)]) (st' := [(2, 1)]) (by decide +kernel) rfl ?_
      refine zwW_gc C.1 (kd := 12) (bn := 5) (n := 13) (c := 5) (nx := 19) (by decide +kernel) ?_
      refine zwW_p [(1, 1, 0)] (q := 20) (ls' := [(2, 1), (0, a)]) (st' := [(0, a), (2, 5)]) (by decide +kernel) rfl ?_
      refine zwW_cm C.1 (op := 60) (k' := 123) (n := 1) (kd := 0) (m := 3) (nx := 23) (r := 5) (tl := [(0, a)]) (st' := []) (by decide +kernel) rfl (by decide +kernel) rfl (x123_5 C (i := a) (by first | omega | exact ⟨by omega, by omega⟩)) ?_
      rintro v4 _ ⟨rfl, Gv4, ev4⟩
      have lv4 := Gv4.1
      refine zwW_cast (a := 1) (kd := 1) (n := 6) (nx := 26) (by decide +kernel) rfl (Or.inr Gv4.2.1) ?_
      refine zwW_p [(24, 30, 0)] (q := 30) (ls' := [(2, 1), (0, a)]) (st' := [(2, v4)]) (by decide +kernel) rfl ?_
      refine zwW_ret (nx := 31) (a := 0) (b := 2) (by decide +kernel) rfl (Or.inl rfl) ?_
      exact ⟨rfl, Or.inr ⟨Gv4, by omega, by omega, by assumption⟩⟩
-- WheelLand.daysBetween(LWheelLand$Village;LWheelLand$Village;)I
theorem x105 {sc : List Int} (h : Hp) (C : CI h) (r q : Int) (G_r : r = 0 ∨ gV h r) (G_q : q = 0 ∨ gV h q) : zwC sc 3 105 [(2, 1), (2, r), (2, q)] h (zwRt 0 (fun x g => h = g ∧ (-2147483648 ≤ x ∧ x ≤ 2147483647) ∧ ((r = 0 ∨ q = 0 → x = -1) ∧ (0 < r → 0 < q → 0 ≤ fld h r 0 → fld h r 0 < 8 → 0 ≤ fld h q 0 → fld h q 0 < 8 → x = zDa h (fld h r 0).toNat (fld h q 0).toNat)))) := by
  refine zwC_of (D := 2) 3 (by decide +kernel) rfl (ls := [(2, 1), (2, r), (2, q)]) rfl ?_
  have lw_r : 0 ≤ r := by
    rcases G_r with z | z
    · omega
    · have := z.1
      omega
  have lw_q : 0 ≤ q := by
    rcases G_q with z | z
    · omega
    · have := z.1
      omega
  refine zwW_p [(1, 1, 2)] (q := 1) (ls' := [(2, 1), (2, r), (2, q)]) (st' := [(2, r)]) (by decide +kernel) rfl ?_
  refine zwnu_eq (q := 8) (nx := 4) (by decide +kernel) (by omega) (fun c1 => ?_) (fun c1 => ?_)
  · refine zwW_p [(0, -1, 0), (24, 27, 0)] (q := 27) (ls' := [(2, 1), (2, r), (2, q)]) (st' := [(0, -1)]) (by decide +kernel) rfl ?_
    refine zwW_ret (nx := 28) (a := 0) (b := 0) (by decide +kernel) rfl (Or.inl rfl) ?_
    exact ⟨rfl, by omega, by first | omega | exact ⟨fun z => by omega, fun z1 z2 z3 z4 z5 z6 => by rw [← V24, ← U24]; exact {F1} ⟨by omega, by omega, by omega, by omega⟩⟩⟩
  · have G2 : gV h r := G_r.resolve_left (by omega)
    have lG2 := G2.1
    refine zwW_p [(1, 2, 2)] (q := 5) (ls' := [(2, 1), (2, r), (2, q)]) (st' := [(2, q)]) (by decide +kernel) rfl ?_
    refine zwnu_ne (q := 12) (nx := 8) (by decide +kernel) (by omega) (fun c3 => ?_) (fun c3 => ?_)
    · have G4 : gV h q := G_q.resolve_left (by omega)
      have lG4 := G4.1
      refine zwW_p [(1, 0, 2)] (q := 13) (ls' := [(2, 1), (2, r), (2, q)]) (st' := [(2, 1)]) (by decide +kernel) rfl ?_
      refine zwW_gc C.1 (kd := 12) (bn := 6) (n := 13) (c := 6) (nx := 16) (by decide +kernel) ?_
      refine zwW_p [(1, 1, 2)] (q := 17) (ls' := [(2, 1), (2, r), (2, q)]) (st' := [(2, r), (2, 6)]) (by decide +kernel) rfl ?_
      refine zwX_gi C (kd := 11) (bn := 0) (n := 17) (nx := 20) (by decide +kernel) G2.2.1 G2.1 rfl ?_
      intro v5 ev5 lv5 uv5
      refine zwW_p [(1, 2, 2)] (q := 21) (ls' := [(2, 1), (2, r), (2, q)]) (st' := [(2, q), (0, v5), (2, 6)]) (by decide +kernel) rfl ?_
      refine zwX_gi C (kd := 11) (bn := 0) (n := 17) (nx := 24) (by decide +kernel) G4.2.1 G4.1 rfl ?_
      intro v6 ev6 lv6 uv6
      have V24 := ev6
      have U24 := ev5
      refine zwW_cm C.1 (op := 60) (k' := 184) (n := 2) (kd := 8) (m := 2) (nx := 27) (r := 6) (tl := [(0, v5), (0, v6)]) (st' := []) (by decide +kernel) rfl (by decide +kernel) rfl (x184 h C v5 v6 (by omega) (by omega)) ?_
      rintro v7 _ ⟨rfl, f8, f9⟩
      refine zwW_ret (nx := 28) (a := 0) (b := 0) (by decide +kernel) rfl (Or.inl rfl) ?_
      exact ⟨rfl, by omega, by first | omega | exact ⟨fun z => by omega, fun z1 z2 z3 z4 z5 z6 => by rw [← V24, ← U24]; exact f9 ⟨by omega, by omega, by omega, by omega⟩⟩⟩
    · refine zwW_p [(0, -1, 0), (24, 27, 0)] (q := 27) (ls' := [(2, 1), (2, r), (2, q)]) (st' := [(0, -1)]) (by decide +kernel) rfl ?_
      refine zwW_ret (nx := 28) (a := 0) (b := 0) (by decide +kernel) rfl (Or.inl rfl) ?_
      exact ⟨rfl, by omega, by first | omega | exact ⟨fun z => by omega, fun z1 z2 z3 z4 z5 z6 => by rw [← V24, ← U24]; exact {F1} ⟨by omega, by omega, by omega, by omega⟩⟩⟩
def msx153 : Zms := [(17, 17, 0, 13), (18, 18, 0, 400)]
-- WheelLand.dutyIn(LWheelLand$Village;)I
theorem x153 {sc : List Int} (h : Hp) (C : CI h) (r : Int) (G_r : gV h r) : zwC sc 4 153 [(2, 1), (2, r)] h (zwRt 0 (fun x g => CI g ∧ zXR msx153 (0) (0) h g ∧ (-2147483648 ≤ x ∧ x ≤ 2147483647))) := by
  refine zwC_of (D := 3) 2 (by decide +kernel) rfl (ls := [(2, 1), (2, r)]) rfl ?_
  have lw_r := G_r.1
  have X : zXR msx153 0 0 h h := zXR.rf _ _
  refine zwW_p [(1, 0, 2)] (q := 1) (ls' := [(2, 1), (2, r)]) (st' := [(2, 1)]) (by decide +kernel) rfl ?_
  refine zwW_gc C.1 (kd := 12) (bn := 8) (n := 13) (c := 13) (nx := 4) (by decide +kernel) ?_
  refine zwW_p [(1, 0, 2)] (q := 5) (ls' := [(2, 1), (2, r)]) (st' := [(2, 1), (2, 13)]) (by decide +kernel) rfl ?_
  refine zwW_gs C.1 (kd := 12) (bn := 0) (n := 13) (t := 0) (lo := 0) (hi := 156) (nx := 8) (by decide +kernel) ?_
  intro v1 ev1 lv1 uv1
  refine zwW_cmv C.1 (op := 60) (k' := 166) (n := 1) (kd := 9) (m := 6) (nx := 11) (r := 13) (tl := [(0, v1)]) (st' := []) (by decide +kernel) rfl (by decide +kernel) rfl (x166 h C v1 (by omega) (by omega)) ?_
  rintro h2 ⟨Ch2, Qh2⟩
  have Xh2 : zXR msx153 (0) (0) h h2 := X.tr (c2 := 0) (s2 := 0) Qh2 (by decide +kernel) (by decide) (by decide)
  have Gh2_0 : gV h2 r := G_r.x Qh2
  refine zwW_p [(1, 0, 2)] (q := 12) (ls' := [(2, 1), (2, r)]) (st' := [(2, 1)]) (by decide +kernel) rfl ?_
  refine zwW_gc Ch2.1 (kd := 12) (bn := 8) (n := 13) (c := 13) (nx := 15) (by decide +kernel) ?_
  refine zwW_p [(1, 1, 2)] (q := 16) (ls' := [(2, 1), (2, r)]) (st' := [(2, r), (2, 13)]) (by decide +kernel) rfl ?_
  refine zwX_gi Ch2 (kd := 11) (bn := 9) (n := 17) (nx := 19) (by decide +kernel) Gh2_0.2.1 Gh2_0.1 rfl ?_
  intro v3 ev3 lv3 uv3
  refine zwW_cmv Ch2.1 (op := 60) (k' := 214) (n := 1) (kd := 9) (m := 6) (nx := 22) (r := 13) (tl := [(0, v3)]) (st' := []) (by decide +kernel) rfl (by decide +kernel) rfl (x214 h2 Ch2 v3 (by omega)) ?_
  rintro h4 ⟨Ch4, Qh4⟩
  have Xh4 : zXR msx153 (0) (0) h h4 := Xh2.tr (c2 := 0) (s2 := 0) Qh4 (by decide +kernel) (by decide) (by decide)
  have Gh4_0 : gV h4 r := Gh2_0.x Qh4
  refine zwW_p [(1, 0, 2)] (q := 23) (ls' := [(2, 1), (2, r)]) (st' := [(2, 1)]) (by decide +kernel) rfl ?_
  refine zwW_gc Ch4.1 (kd := 12) (bn := 8) (n := 13) (c := 13) (nx := 26) (by decide +kernel) ?_
  refine zwW_p [(0, 2, 0), (1, 0, 2)] (q := 28) (ls' := [(2, 1), (2, r)]) (st' := [(2, 1), (0, 2), (2, 13)]) (by decide +kernel) rfl ?_
  refine zwW_gs Ch4.1 (kd := 12) (bn := 0) (n := 13) (t := 0) (lo := 0) (hi := 156) (nx := 31) (by decide +kernel) ?_
  intro v5 ev5 lv5 uv5
  refine zwW_cm Ch4.1 (op := 60) (k' := 172) (n := 2) (kd := 9) (m := 6) (nx := 34) (r := 13) (tl := [(0, 2), (0, v5)]) (st' := []) (by decide +kernel) rfl (by decide +kernel) rfl (x172 h4 Ch4 2 v5 (by omega) (by omega)) ?_
  rintro v7 h8 ⟨Ch8, Qh8, f6⟩
  have Xh8 : zXR msx153 (0) (0) h h8 := Xh4.tr (c2 := 0) (s2 := 0) Qh8 (by decide +kernel) (by decide) (by decide)
  have Gh8_0 : gV h8 r := Gh4_0.x Qh8
  refine zwW_p [(0, 0, 0)] (q := 35) (ls' := [(2, 1), (2, r)]) (st' := [(0, 0), (0, v7)]) (by decide +kernel) rfl ?_
  refine zwW_max (nx := 38) (by decide +kernel) rfl ?_
  intro v9 ev9
  refine zwW_ret (nx := 39) (a := 0) (b := 0) (by decide +kernel) rfl (Or.inl rfl) ?_
  exact ⟨Ch8, Xh8.le (by decide) (by decide), by omega⟩
def msx134 : Zms := [(17, 17, 0, 13), (18, 18, 0, 400)]
-- WheelLand.askOfWeaving(ILWheelLand$House;LWheelLand$Lot;I)I
theorem x134 {sc : List Int} (h : Hp) (C : CI h) (a r q b : Int) (q_a : -2147483648 ≤ a ∧ a ≤ 2147483647) (G_r : gH h r) (G_q : gL h q) (q_b : -2147483648 ≤ b ∧ b ≤ 2147483647) : zwC sc 4 134 [(2, 1), (0, a), (2, r), (2, q), (0, b)] h (zwRt 0 (fun x g => CI g ∧ zXR msx134 (0) (0) h g ∧ (-2147483648 ≤ x ∧ x ≤ 2147483647))) := by
  refine zwC_of (D := 3) 5 (by decide +kernel) rfl (ls := [(2, 1), (0, a), (2, r), (2, q), (0, b)]) rfl ?_
  have lw_r := G_r.1
  have lw_q := G_q.1
  have X : zXR msx134 0 0 h h := zXR.rf _ _
  refine zwW_p [(1, 0, 2)] (q := 1) (ls' := [(2, 1), (0, a), (2, r), (2, q), (0, b)]) (st' := [(2, 1)]) (by decide +kernel) rfl ?_
  refine zwW_gc C.1 (kd := 12) (bn := 8) (n := 13) (c := 13) (nx := 4) (by decide +kernel) ?_
  refine zwW_p [(1, 0, 2)] (q := 5) (ls' := [(2, 1), (0, a), (2, r), (2, q), (0, b)]) (st' := [(2, 1), (2, 13)]) (by decide +kernel) rfl ?_
  refine zwW_gs C.1 (kd := 12) (bn := 0) (n := 13) (t := 0) (lo := 0) (hi := 156) (nx := 8) (by decide +kernel) ?_
  intro v1 ev1 lv1 uv1
  refine zwW_cmv C.1 (op := 60) (k' := 166) (n := 1) (kd := 9) (m := 6) (nx := 11) (r := 13) (tl := [(0, v1)]) (st' := []) (by decide +kernel) rfl (by decide +kernel) rfl (x166 h C v1 (by omega) (by omega)) ?_
  rintro h2 ⟨Ch2, Qh2⟩
  have Xh2 : zXR msx134 (0) (0) h h2 := X.tr (c2 := 0) (s2 := 0) Qh2 (by decide +kernel) (by decide) (by decide)
  have Gh2_0 : gH h2 r := G_r.x Qh2
  have Gh2_1 : gL h2 q := G_q.x Qh2
  refine zwW_p [(1, 0, 2)] (q := 12) (ls' := [(2, 1), (0, a), (2, r), (2, q), (0, b)]) (st' := [(2, 1)]) (by decide +kernel) rfl ?_
  refine zwW_gc Ch2.1 (kd := 12) (bn := 8) (n := 13) (c := 13) (nx := 15) (by decide +kernel) ?_
  refine zwW_p [(1, 3, 2)] (q := 16) (ls' := [(2, 1), (0, a), (2, r), (2, q), (0, b)]) (st' := [(2, q), (2, 13)]) (by decide +kernel) rfl ?_
  refine zwW_get (kd := 6) (bn := 1) (t := 2) (n := 7) (nx := 19) (by decide +kernel) Gh2_1.2.1 rfl ?_
  obtain ⟨v3, ev3⟩ : ∃ z, z = fld h2 q 1 := ⟨_, rfl⟩
  rw [← ev3]
  have Gv3 : gH h2 v3 := by rw [ev3]; exact Gh2_1.2.2
  have lv3 := Gv3.1
  refine zwW_p [(1, 0, 2)] (q := 20) (ls' := [(2, 1), (0, a), (2, r), (2, q), (0, b)]) (st' := [(2, 1), (2, v3), (2, 13)]) (by decide +kernel) rfl ?_
  refine zwW_gs Ch2.1 (kd := 12) (bn := 0) (n := 13) (t := 0) (lo := 0) (hi := 156) (nx := 23) (by decide +kernel) ?_
  intro v4 ev4 lv4 uv4
  refine zwW_cs (k' := 162) (n := 1) (nx := 26) (as := [(0, v4)]) (st' := [(2, v3), (2, 13)]) (by decide +kernel) rfl (x162 h2 Ch2 v4 (by omega) (by omega)) rfl ?_
  rintro v5 _ ⟨rfl, f6, f7, f8⟩
  refine zwW_cmv Ch2.1 (op := 60) (k' := 167) (n := 2) (kd := 9) (m := 6) (nx := 29) (r := 13) (tl := [(2, v3), (0, v5)]) (st' := []) (by decide +kernel) rfl (by decide +kernel) rfl (x167 h2 Ch2 v3 v5 Gv3 (by omega)) ?_
  rintro h9 ⟨Ch9, Qh9⟩
  have Xh9 : zXR msx134 (0) (0) h h9 := Xh2.tr (c2 := 0) (s2 := 0) Qh9 (by decide +kernel) (by decide) (by decide)
  have Gh9_0 : gH h9 r := Gh2_0.x Qh9
  have Gh9_1 : gL h9 q := Gh2_1.x Qh9
  refine zwW_p [(1, 0, 2)] (q := 30) (ls' := [(2, 1), (0, a), (2, r), (2, q), (0, b)]) (st' := [(2, 1)]) (by decide +kernel) rfl ?_
  refine zwW_gc Ch9.1 (kd := 12) (bn := 8) (n := 13) (c := 13) (nx := 33) (by decide +kernel) ?_
  refine zwW_p [(1, 2, 2)] (q := 34) (ls' := [(2, 1), (0, a), (2, r), (2, q), (0, b)]) (st' := [(2, r), (2, 13)]) (by decide +kernel) rfl ?_
  refine zwX_gi Ch9 (kd := 4) (bn := 4) (n := 19) (nx := 37) (by decide +kernel) Gh9_0.2.1 Gh9_0.1 rfl ?_
  intro v10 ev10 lv10 uv10
  refine zwW_p [(1, 0, 2), (1, 3, 2)] (q := 39) (ls' := [(2, 1), (0, a), (2, r), (2, q), (0, b)]) (st' := [(2, q), (2, 1), (0, v10), (2, 13)]) (by decide +kernel) rfl ?_
  refine zwW_get (kd := 6) (bn := 1) (t := 2) (n := 7) (nx := 42) (by decide +kernel) Gh9_1.2.1 rfl ?_
  obtain ⟨v11, ev11⟩ : ∃ z, z = fld h9 q 1 := ⟨_, rfl⟩
  rw [← ev11]
  have Gv11 : gH h9 v11 := by rw [ev11]; exact Gh9_1.2.2
  have lv11 := Gv11.1
  refine zwW_get (kd := 4) (bn := 1) (t := 2) (n := 19) (nx := 45) (by decide +kernel) Gv11.2.1 rfl ?_
  obtain ⟨v12, ev12⟩ : ∃ z, z = fld h9 v11 1 := ⟨_, rfl⟩
  rw [← ev12]
  have Gv12 : gV h9 v12 := by rw [ev12]; exact Gv11.2.2
  have lv12 := Gv12.1
  refine zwW_p [(1, 2, 2)] (q := 46) (ls' := [(2, 1), (0, a), (2, r), (2, q), (0, b)]) (st' := [(2, r), (2, v12), (2, 1), (0, v10), (2, 13)]) (by decide +kernel) rfl ?_
  refine zwW_get (kd := 4) (bn := 1) (t := 2) (n := 19) (nx := 49) (by decide +kernel) Gh9_0.2.1 rfl ?_
  obtain ⟨v13, ev13⟩ : ∃ z, z = fld h9 r 1 := ⟨_, rfl⟩
  rw [← ev13]
  have Gv13 : gV h9 v13 := by rw [ev13]; exact Gh9_0.2.2
  have lv13 := Gv13.1
  refine zwW_cm Ch9.1 (op := 60) (k' := 105) (n := 2) (kd := 12) (m := 13) (nx := 52) (r := 1) (tl := [(2, v12), (2, v13)]) (st' := [(0, v10), (2, 13)]) (by decide +kernel) rfl (by decide +kernel) rfl (x105 h9 Ch9 v12 v13 (Or.inr Gv12) (Or.inr Gv13)) ?_
  rintro v14 _ ⟨rfl, f15, f16⟩
  refine zwW_cmv Ch9.1 (op := 60) (k' := 168) (n := 2) (kd := 9) (m := 6) (nx := 55) (r := 13) (tl := [(0, v10), (0, v14)]) (st' := []) (by decide +kernel) rfl (by decide +kernel) rfl (x168 h9 Ch9 v10 v14 (by omega) (by omega)) ?_
  rintro h17 ⟨Ch17, Qh17⟩
  have Xh17 : zXR msx134 (0) (0) h h17 := Xh9.tr (c2 := 0) (s2 := 0) Qh17 (by decide +kernel) (by decide) (by decide)
  have Gh17_0 : gH h17 r := Gh9_0.x Qh17
  have Gh17_1 : gL h17 q := Gh9_1.x Qh17
  refine zwW_p [(1, 0, 2)] (q := 56) (ls' := [(2, 1), (0, a), (2, r), (2, q), (0, b)]) (st' := [(2, 1)]) (by decide +kernel) rfl ?_
  refine zwW_gc Ch17.1 (kd := 12) (bn := 8) (n := 13) (c := 13) (nx := 59) (by decide +kernel) ?_
  refine zwW_p [(1, 3, 2)] (q := 60) (ls' := [(2, 1), (0, a), (2, r), (2, q), (0, b)]) (st' := [(2, q), (2, 13)]) (by decide +kernel) rfl ?_
  refine zwX_gi Ch17 (kd := 6) (bn := 3) (n := 7) (nx := 63) (by decide +kernel) Gh17_1.2.1 Gh17_1.1 rfl ?_
  intro v18 ev18 lv18 uv18
  refine zwW_p [(1, 3, 2)] (q := 64) (ls' := [(2, 1), (0, a), (2, r), (2, q), (0, b)]) (st' := [(2, q), (0, v18), (2, 13)]) (by decide +kernel) rfl ?_
  refine zwX_gi Ch17 (kd := 6) (bn := 4) (n := 7) (nx := 67) (by decide +kernel) Gh17_1.2.1 Gh17_1.1 rfl ?_
  intro v19 ev19 lv19 uv19
  refine zwW_p [(1, 4, 0)] (q := 69) (ls' := [(2, 1), (0, a), (2, r), (2, q), (0, b)]) (st' := [(0, b), (0, v19), (0, v18), (2, 13)]) (by decide +kernel) rfl ?_
  refine zwW_cmv Ch17.1 (op := 60) (k' := 171) (n := 3) (kd := 9) (m := 6) (nx := 72) (r := 13) (tl := [(0, v18), (0, v19), (0, b)]) (st' := []) (by decide +kernel) rfl (by decide +kernel) rfl (x171 h17 Ch17 v18 v19 b (by omega) (by omega) (by omega)) ?_
  rintro h20 ⟨Ch20, Qh20⟩
  have Xh20 : zXR msx134 (0) (0) h h20 := Xh17.tr (c2 := 0) (s2 := 0) Qh20 (by decide +kernel) (by decide) (by decide)
  have Gh20_0 : gH h20 r := Gh17_0.x Qh20
  have Gh20_1 : gL h20 q := Gh17_1.x Qh20
  refine zwW_p [(1, 0, 2)] (q := 73) (ls' := [(2, 1), (0, a), (2, r), (2, q), (0, b)]) (st' := [(2, 1)]) (by decide +kernel) rfl ?_
  refine zwW_gc Ch20.1 (kd := 12) (bn := 8) (n := 13) (c := 13) (nx := 76) (by decide +kernel) ?_
  refine zwW_p [(1, 1, 0), (1, 0, 2)] (q := 78) (ls' := [(2, 1), (0, a), (2, r), (2, q), (0, b)]) (st' := [(2, 1), (0, a), (2, 13)]) (by decide +kernel) rfl ?_
  refine zwW_gs Ch20.1 (kd := 12) (bn := 0) (n := 13) (t := 0) (lo := 0) (hi := 156) (nx := 81) (by decide +kernel) ?_
  intro v21 ev21 lv21 uv21
  refine zwW_cm Ch20.1 (op := 60) (k' := 172) (n := 2) (kd := 9) (m := 6) (nx := 84) (r := 13) (tl := [(0, a), (0, v21)]) (st' := []) (by decide +kernel) rfl (by decide +kernel) rfl (x172 h20 Ch20 a v21 (by omega) (by omega)) ?_
  rintro v23 h24 ⟨Ch24, Qh24, f22⟩
  have Xh24 : zXR msx134 (0) (0) h h24 := Xh20.tr (c2 := 0) (s2 := 0) Qh24 (by decide +kernel) (by decide) (by decide)
  have Gh24_0 : gH h24 r := Gh20_0.x Qh24
  have Gh24_1 : gL h24 q := Gh20_1.x Qh24
  refine zwW_ret (nx := 85) (a := 0) (b := 0) (by decide +kernel) rfl (Or.inl rfl) ?_
  exact ⟨Ch24, Xh24.le (by decide) (by decide), by omega⟩
def msx207 : Zms := [(17, 17, 0, 13), (18, 18, 0, 400)]
-- WheelLand.lastingBarOf(LWheelLand$House;LWheelLand$Lot;I)I
theorem x207 {sc : List Int} (h : Hp) (C : CI h) (r q a : Int) (G_r : gH h r) (G_q : gL h q) (q_a : -2147483648 ≤ a ∧ a ≤ 2147483647) : zwC sc 5 207 [(2, 1), (2, r), (2, q), (0, a)] h (zwRt 0 (fun x g => CI g ∧ zXR msx207 (0) (0) h g ∧ (-2147483648 ≤ x ∧ x ≤ 2147483647))) := by
  refine zwC_of (D := 4) 4 (by decide +kernel) rfl (ls := [(2, 1), (2, r), (2, q), (0, a)]) rfl ?_
  have lw_r := G_r.1
  have lw_q := G_q.1
  have X : zXR msx207 0 0 h h := zXR.rf _ _
  refine zwW_p [(1, 1, 2)] (q := 1) (ls' := [(2, 1), (2, r), (2, q), (0, a)]) (st' := [(2, r)]) (by decide +kernel) rfl ?_
  refine zwW_cv (op := 60) (k' := 110) (n := 0) (kd := 4) (m := 19) (nx := 4) (r := r) (tl := []) (st' := []) (by decide +kernel) rfl (by decide +kernel) G_r.2.1 (x110 h C r G_r) rfl ?_
  rintro x _ ⟨rfl, ⟨rfl, c1⟩ | ⟨rfl, c1⟩⟩
  · refine zwif_ne (q := 9) (nx := 7) (by decide +kernel) (fun c2 => ?_) (fun c2 => ?_)
    · refine zwW_p [(1, 2, 2)] (q := 10) (ls' := [(2, 1), (2, r), (2, q), (0, a)]) (st' := [(2, q)]) (by decide +kernel) rfl ?_
      refine zwX_gi C (kd := 6) (bn := 3) (n := 7) (nx := 13) (by decide +kernel) G_q.2.1 G_q.1 rfl ?_
      intro v3 ev3 lv3 uv3
      refine zwW_p [(1, 1, 2)] (q := 14) (ls' := [(2, 1), (2, r), (2, q), (0, a)]) (st' := [(2, r), (0, v3)]) (by decide +kernel) rfl ?_
      refine zwX_gi C (kd := 4) (bn := 11) (n := 19) (nx := 17) (by decide +kernel) G_r.2.1 G_r.1 rfl ?_
      intro v4 ev4 lv4 uv4
      refine zwW_p [(1, 1, 2)] (q := 18) (ls' := [(2, 1), (2, r), (2, q), (0, a)]) (st' := [(2, r), (0, v4), (0, v3)]) (by decide +kernel) rfl ?_
      refine zwX_gi C (kd := 4) (bn := 12) (n := 19) (nx := 21) (by decide +kernel) G_r.2.1 G_r.1 rfl ?_
      intro v5 ev5 lv5 uv5
      refine zwW_cs (k' := 98) (n := 3) (nx := 24) (as := [(0, v3), (0, v4), (0, v5)]) (st' := []) (by decide +kernel) rfl (x98 h C v3 v4 v5 (by omega) (by omega) (by omega)) rfl ?_
      rintro x _ ⟨rfl, ⟨rfl, c6⟩ | ⟨rfl, c6⟩⟩
      · refine zwif_eq (q := 29) (nx := 27) (by decide +kernel) (fun c7 => ?_) (fun c7 => ?_)
        · exfalso; omega
        · refine zwW_p [(0, 2, 0)] (q := 28) (ls' := [(2, 1), (2, r), (2, q), (0, a)]) (st' := [(0, 2)]) (by decide +kernel) rfl ?_
          refine zwW_ret (nx := 29) (a := 0) (b := 0) (by decide +kernel) rfl (Or.inl rfl) ?_
          exact ⟨C, X.le (by decide) (by decide), by omega⟩
      · refine zwif_eq (q := 29) (nx := 27) (by decide +kernel) (fun c8 => ?_) (fun c8 => ?_)
        · refine zwW_p [(1, 2, 2)] (q := 30) (ls' := [(2, 1), (2, r), (2, q), (0, a)]) (st' := [(2, q)]) (by decide +kernel) rfl ?_
          refine zwX_gi C (kd := 6) (bn := 4) (n := 7) (nx := 33) (by decide +kernel) G_q.2.1 G_q.1 rfl ?_
          intro v9 ev9 lv9 uv9
          refine zwW_p [(1, 2, 2)] (q := 34) (ls' := [(2, 1), (2, r), (2, q), (0, a)]) (st' := [(2, q), (0, v9)]) (by decide +kernel) rfl ?_
          refine zwX_gi C (kd := 6) (bn := 3) (n := 7) (nx := 37) (by decide +kernel) G_q.2.1 G_q.1 rfl ?_
          intro v10 ev10 lv10 uv10
          refine zwW_p [(0, 30, 0)] (q := 39) (ls' := [(2, 1), (2, r), (2, q), (0, a)]) (st' := [(0, 30), (0, v10), (0, v9)]) (by decide +kernel) rfl ?_
          refine zwW_adw (nx := 40) (by decide +kernel) ?_
          intro v11 ev11 lv11 uv11
          have Ev11 : v11 = w32 ((fld h q 3) + 30) := by rw [ev11, ev10]
          refine zwic_ge (q := 45) (nx := 43) (by decide +kernel) (fun c12 => ?_) (fun c12 => ?_)
          · refine zwW_p [(1, 0, 2), (1, 2, 2)] (q := 47) (ls' := [(2, 1), (2, r), (2, q), (0, a)]) (st' := [(2, q), (2, 1)]) (by decide +kernel) rfl ?_
            refine zwW_get (kd := 6) (bn := 1) (t := 2) (n := 7) (nx := 50) (by decide +kernel) G_q.2.1 rfl ?_
            obtain ⟨v13, ev13⟩ : ∃ z, z = fld h q 1 := ⟨_, rfl⟩
            rw [← ev13]
            have Gv13 : gH h v13 := by rw [ev13]; exact G_q.2.2
            have lv13 := Gv13.1
            refine zwW_get (kd := 4) (bn := 1) (t := 2) (n := 19) (nx := 53) (by decide +kernel) Gv13.2.1 rfl ?_
            obtain ⟨v14, ev14⟩ : ∃ z, z = fld h v13 1 := ⟨_, rfl⟩
            rw [← ev14]
            have Gv14 : gV h v14 := by rw [ev14]; exact Gv13.2.2
            have lv14 := Gv14.1
            refine zwW_p [(1, 1, 2)] (q := 54) (ls' := [(2, 1), (2, r), (2, q), (0, a)]) (st' := [(2, r), (2, v14), (2, 1)]) (by decide +kernel) rfl ?_
            refine zwW_get (kd := 4) (bn := 1) (t := 2) (n := 19) (nx := 57) (by decide +kernel) G_r.2.1 rfl ?_
            obtain ⟨v15, ev15⟩ : ∃ z, z = fld h r 1 := ⟨_, rfl⟩
            rw [← ev15]
            have Gv15 : gV h v15 := by rw [ev15]; exact G_r.2.2
            have lv15 := Gv15.1
            refine zwW_cm C.1 (op := 60) (k' := 105) (n := 2) (kd := 12) (m := 13) (nx := 60) (r := 1) (tl := [(2, v14), (2, v15)]) (st' := []) (by decide +kernel) rfl (by decide +kernel) rfl (x105 h C v14 v15 (Or.inr Gv14) (Or.inr Gv15)) ?_
            rintro v16 _ ⟨rfl, f17, f18⟩
            refine zwW_p [(0, -1, 0)] (q := 61) (ls' := [(2, 1), (2, r), (2, q), (0, a)]) (st' := [(0, -1), (0, v16)]) (by decide +kernel) rfl ?_
            refine zwic_ne (q := 66) (nx := 64) (by decide +kernel) (fun c19 => ?_) (fun c19 => ?_)
            · refine zwW_p [(1, 0, 2), (0, 3, 0), (1, 1, 2), (1, 2, 2), (1, 3, 0)] (q := 71) (ls' := [(2, 1), (2, r), (2, q), (0, a)]) (st' := [(0, a), (2, q), (2, r), (0, 3), (2, 1)]) (by decide +kernel) rfl ?_
              refine zwW_cm C.1 (op := 60) (k' := 134) (n := 4) (kd := 12) (m := 13) (nx := 74) (r := 1) (tl := [(0, 3), (2, r), (2, q), (0, a)]) (st' := []) (by decide +kernel) rfl (by decide +kernel) rfl (x134 h C 3 r q a (by omega) G_r G_q (by omega)) ?_
              rintro v21 h22 ⟨Ch22, Qh22, f20⟩
              have Xh22 : zXR msx207 (0) (0) h h22 := X.tr (c2 := 0) (s2 := 0) Qh22 (by decide +kernel) (by decide) (by decide)
              have Gh22_0 : gH h22 r := G_r.x Qh22
              have Gh22_1 : gL h22 q := G_q.x Qh22
              refine zwif_ne (q := 81) (nx := 77) (by decide +kernel) (fun c23 => ?_) (fun c23 => ?_)
              · refine zwW_p [(0, 0, 0)] (q := 82) (ls' := [(2, 1), (2, r), (2, q), (0, a)]) (st' := [(0, 0)]) (by decide +kernel) rfl ?_
                refine zwW_ret (nx := 83) (a := 0) (b := 0) (by decide +kernel) rfl (Or.inl rfl) ?_
                exact ⟨Ch22, Xh22.le (by decide) (by decide), by omega⟩
              · refine zwW_p [(0, 5, 0), (24, 82, 0)] (q := 82) (ls' := [(2, 1), (2, r), (2, q), (0, a)]) (st' := [(0, 5)]) (by decide +kernel) rfl ?_
                refine zwW_ret (nx := 83) (a := 0) (b := 0) (by decide +kernel) rfl (Or.inl rfl) ?_
                exact ⟨Ch22, Xh22.le (by decide) (by decide), by omega⟩
            · refine zwW_p [(0, 4, 0)] (q := 65) (ls' := [(2, 1), (2, r), (2, q), (0, a)]) (st' := [(0, 4)]) (by decide +kernel) rfl ?_
              refine zwW_ret (nx := 66) (a := 0) (b := 0) (by decide +kernel) rfl (Or.inl rfl) ?_
              exact ⟨C, X.le (by decide) (by decide), by omega⟩
          · refine zwW_p [(0, 3, 0)] (q := 44) (ls' := [(2, 1), (2, r), (2, q), (0, a)]) (st' := [(0, 3)]) (by decide +kernel) rfl ?_
            refine zwW_ret (nx := 45) (a := 0) (b := 0) (by decide +kernel) rfl (Or.inl rfl) ?_
            exact ⟨C, X.le (by decide) (by decide), by omega⟩
        · exfalso; omega
    · exfalso; omega
  · refine zwif_ne (q := 9) (nx := 7) (by decide +kernel) (fun c24 => ?_) (fun c24 => ?_)
    · exfalso; omega
    · refine zwW_p [(0, 1, 0)] (q := 8) (ls' := [(2, 1), (2, r), (2, q), (0, a)]) (st' := [(0, 1)]) (by decide +kernel) rfl ?_
      refine zwW_ret (nx := 9) (a := 0) (b := 0) (by decide +kernel) rfl (Or.inl rfl) ?_
      exact ⟨C, X.le (by decide) (by decide), by omega⟩
def msx131 : Zms := [(17, 17, 0, 13), (18, 18, 0, 400)]
-- WheelLand.barOf(LWheelLand$House;LWheelLand$Lot;I)I
theorem x131 {sc : List Int} (h : Hp) (C : CI h) (r q a : Int) (G_r : gH h r) (G_q : gL h q) (q_a : -2147483648 ≤ a ∧ a ≤ 2147483647) : zwC sc 6 131 [(2, 1), (2, r), (2, q), (0, a)] h (zwRt 0 (fun x g => CI g ∧ zXR msx131 (0) (0) h g ∧ (-2147483648 ≤ x ∧ x ≤ 2147483647))) := by
  refine zwC_of (D := 5) 5 (by decide +kernel) rfl (ls := [(2, 1), (2, r), (2, q), (0, a), (9, 0)]) rfl ?_
  have lw_r := G_r.1
  have lw_q := G_q.1
  have X : zXR msx131 0 0 h h := zXR.rf _ _
  refine zwW_p [(1, 0, 2), (1, 1, 2), (1, 2, 2), (1, 3, 0)] (q := 4) (ls' := [(2, 1), (2, r), (2, q), (0, a), (9, 0)]) (st' := [(0, a), (2, q), (2, r), (2, 1)]) (by decide +kernel) rfl ?_
  refine zwW_cm C.1 (op := 60) (k' := 207) (n := 3) (kd := 12) (m := 13) (nx := 7) (r := 1) (tl := [(2, r), (2, q), (0, a)]) (st' := []) (by decide +kernel) rfl (by decide +kernel) rfl (x207 h C r q a G_r G_q (by omega)) ?_
  rintro v2 h3 ⟨Ch3, Qh3, f1⟩
  have Xh3 : zXR msx131 (0) (0) h h3 := X.tr (c2 := 0) (s2 := 0) Qh3 (by decide +kernel) (by decide) (by decide)
  have Gh3_0 : gH h3 r := G_r.x Qh3
  have Gh3_1 : gL h3 q := G_q.x Qh3
  refine zwW_p [(2, 4, 0), (1, 4, 0)] (q := 11) (ls' := [(2, 1), (2, r), (2, q), (0, a), (0, v2)]) (st' := [(0, v2)]) (by decide +kernel) rfl ?_
  refine zwif_eq (q := 17) (nx := 14) (by decide +kernel) (fun c4 => ?_) (fun c4 => ?_)
  · refine zwW_p [(1, 2, 2)] (q := 18) (ls' := [(2, 1), (2, r), (2, q), (0, a), (0, v2)]) (st' := [(2, q)]) (by decide +kernel) rfl ?_
    refine zwX_gi Ch3 (kd := 6) (bn := 6) (n := 7) (nx := 21) (by decide +kernel) Gh3_1.2.1 Gh3_1.1 rfl ?_
    intro v5 ev5 lv5 uv5
    refine zwW_p [(1, 3, 0)] (q := 22) (ls' := [(2, 1), (2, r), (2, q), (0, a), (0, v2)]) (st' := [(0, a), (0, v5)]) (by decide +kernel) rfl ?_
    refine zwic_ge (q := 28) (nx := 25) (by decide +kernel) (fun c6 => ?_) (fun c6 => ?_)
    · refine zwW_p [(1, 1, 2)] (q := 29) (ls' := [(2, 1), (2, r), (2, q), (0, a), (0, v2)]) (st' := [(2, r)]) (by decide +kernel) rfl ?_
      refine zwX_gi Ch3 (kd := 4) (bn := 13) (n := 19) (nx := 32) (by decide +kernel) Gh3_0.2.1 Gh3_0.1 rfl ?_
      intro v7 ev7 lv7 uv7
      refine zwW_p [(1, 1, 2)] (q := 33) (ls' := [(2, 1), (2, r), (2, q), (0, a), (0, v2)]) (st' := [(2, r), (0, v7)]) (by decide +kernel) rfl ?_
      refine zwX_gi Ch3 (kd := 4) (bn := 14) (n := 19) (nx := 36) (by decide +kernel) Gh3_0.2.1 Gh3_0.1 rfl ?_
      intro v8 ev8 lv8 uv8
      refine zwW_sbw (nx := 37) (by decide +kernel) ?_
      intro v9 ev9 lv9 uv9
      have Ev9 : v9 = w32 ((fld h3 r 13) - (fld h3 r 14)) := by rw [ev9, ev7, ev8]
      refine zwW_p [(1, 3, 0)] (q := 38) (ls' := [(2, 1), (2, r), (2, q), (0, a), (0, v2)]) (st' := [(0, a), (0, v9)]) (by decide +kernel) rfl ?_
      refine zwic_ge (q := 46) (nx := 41) (by decide +kernel) (fun c10 => ?_) (fun c10 => ?_)
      · refine zwW_p [(0, 0, 0)] (q := 47) (ls' := [(2, 1), (2, r), (2, q), (0, a), (0, v2)]) (st' := [(0, 0)]) (by decide +kernel) rfl ?_
        refine zwW_ret (nx := 48) (a := 0) (b := 0) (by decide +kernel) rfl (Or.inl rfl) ?_
        exact ⟨Ch3, Xh3.le (by decide) (by decide), by omega⟩
      · refine zwW_p [(0, 7, 0), (24, 47, 0)] (q := 47) (ls' := [(2, 1), (2, r), (2, q), (0, a), (0, v2)]) (st' := [(0, 7)]) (by decide +kernel) rfl ?_
        refine zwW_ret (nx := 48) (a := 0) (b := 0) (by decide +kernel) rfl (Or.inl rfl) ?_
        exact ⟨Ch3, Xh3.le (by decide) (by decide), by omega⟩
    · refine zwW_p [(0, 6, 0)] (q := 27) (ls' := [(2, 1), (2, r), (2, q), (0, a), (0, v2)]) (st' := [(0, 6)]) (by decide +kernel) rfl ?_
      refine zwW_ret (nx := 28) (a := 0) (b := 0) (by decide +kernel) rfl (Or.inl rfl) ?_
      exact ⟨Ch3, Xh3.le (by decide) (by decide), by omega⟩
  · refine zwW_p [(1, 4, 0)] (q := 16) (ls' := [(2, 1), (2, r), (2, q), (0, a), (0, v2)]) (st' := [(0, v2)]) (by decide +kernel) rfl ?_
    refine zwW_ret (nx := 17) (a := 0) (b := 0) (by decide +kernel) rfl (Or.inl rfl) ?_
    exact ⟨Ch3, Xh3.le (by decide) (by decide), by omega⟩
end
section
/-! the class's grammar, search -/
section ZK
def msxK : Zms := [(9, 9, 2, 7), (11, 11, 0, 400)]
def zKX (sc : List Int) (D y : Nat) (a : Int) : Prop := ∀ h : Hp, CI h → zwC sc D y [(2, 9), (0, a)] h (zwRt 0 (fun x g => CI g ∧ zXR msxK (0) (0) h g ∧ (0 ≤ x ∧ x ≤ 1)))
theorem zKX.up {sc : List Int} {D D' y : Nat} {a : Int} (hD : D ≤ D') (H : zKX sc D y a) : zKX sc D' y a := fun h C => zwC_up hD (H h C)
def msxT : Zms := [(19, 19, 4, 5), (24, 24, 0, 6), (25, 25, 0, 6), (26, 26, 0, 6)]
def zKS (sc : List Int) (D : Nat) (a : Int) : Prop := ∀ h : Hp, CI h → ∀ b : Int, -2147483648 ≤ b ∧ b ≤ 2147483647 → zwC sc D 212 [(2, 19), (0, a), (0, b)] h (zwRv (fun g => CI g ∧ zXR msxT (0) (0) h g))
end ZK
end
section
/-! contracts of the class -/
def msx198 : Zms := [(9, 9, 2, 3), (9, 9, 3, 4), (9, 9, 4, 5), (9, 9, 5, 6)]
-- WheelLand$Reader.advance()Z
theorem x198 {sc : List Int} (h : Hp) (C : CI h) : zwC sc 8 198 [(2, 9)] h (zwRt 0 (fun x g => CI g ∧ zXR msx198 (0) (0) h g ∧ (0 ≤ x ∧ x ≤ 1))) := by
  refine zwC_of (D := 7) 1 (by decide +kernel) rfl (ls := [(2, 9)]) rfl ?_
  have X : zXR msx198 0 0 h h := zXR.rf _ _
  have L1 : ∀ (n : Nat) (hL1 : Hp), n = ((400 - fld hL1 9 2)).toNat → CI hL1 → zXR msx198 (0) (0) h hL1 → zwW sc (7) 198 0 [(2, 9)] [] hL1 (zwRt 0 (fun x g => CI g ∧ zXR msx198 (0) (0) h g ∧ (0 ≤ x ∧ x ≤ 1))) := by
    intro n
    induction n using Nat.strongRecOn with
    | ind n IHL1 =>
      intro hL1 hnL1 ChL1 XhL1
      refine zwW_p [(1, 0, 2)] (q := 1) (ls' := [(2, 9)]) (st' := [(2, 9)]) (by decide +kernel) rfl ?_
      refine zwW_gs ChL1.1 (kd := 7) (bn := 2) (n := 9) (t := 0) (lo := 0) (hi := 400) (nx := 4) (by decide +kernel) ?_
      intro v2 ev2 lv2 uv2
      refine zwW_p [(1, 0, 2)] (q := 5) (ls' := [(2, 9)]) (st' := [(2, 9), (0, v2)]) (by decide +kernel) rfl ?_
      refine zwW_gs ChL1.1 (kd := 7) (bn := 0) (n := 9) (t := 0) (lo := 0) (hi := 400) (nx := 8) (by decide +kernel) ?_
      intro v3 ev3 lv3 uv3
      refine zwic_ge (q := 52) (nx := 11) (by decide +kernel) (fun c4 => ?_) (fun c4 => ?_)
      · refine zwW_p [(1, 0, 2), (1, 0, 2)] (q := 54) (ls' := [(2, 9)]) (st' := [(2, 9), (2, 9)]) (by decide +kernel) rfl ?_
        refine zwW_gs ChL1.1 (kd := 7) (bn := 2) (n := 9) (t := 0) (lo := 0) (hi := 400) (nx := 57) (by decide +kernel) ?_
        intro v5 ev5 lv5 uv5
        refine zwW_ps ChL1.1 (kd := 7) (bn := 3) (n := 9) (lo := 0) (hi := 400) (nx := 60) (by decide +kernel) (by first | omega | exact ⟨by omega, by omega⟩) ?_
        intro h6 eh6 Ih6
        have Ch6 : CI h6 := ChL1.wc eh6 Ih6 (by decide) (by decide)
        have Qh6 : zXR [(9, 9, 3, 4)] 0 0 hL1 h6 := zXR.wc eh6 rfl ⟨by decide, by decide, Or.inl (by decide)⟩ (by first | decide | exact ⟨by decide, by decide⟩)
        have Xh6 : zXR msx198 (0) (0) h h6 := XhL1.tr (c2 := 0) (s2 := 0) Qh6 (by decide +kernel) (by decide) (by decide)
        have th6_9_2 : fld h6 9 2 = fld hL1 9 2 := Qh6.f (a1 := 9) (a2 := 9) (j1 := 2) (j2 := 3) (by decide +kernel) (by first | decide | exact ⟨by decide, by decide⟩) (by first | decide | exact ⟨by decide, by decide⟩) (by first | decide | exact ⟨by decide, by decide⟩)
        refine zwW_p [(1, 0, 2)] (q := 61) (ls' := [(2, 9)]) (st' := [(2, 9)]) (by decide +kernel) rfl ?_
        refine zwW_gs Ch6.1 (kd := 7) (bn := 2) (n := 9) (t := 0) (lo := 0) (hi := 400) (nx := 64) (by decide +kernel) ?_
        intro v7 ev7 lv7 uv7
        refine zwW_p [(1, 0, 2)] (q := 65) (ls' := [(2, 9)]) (st' := [(2, 9), (0, v7)]) (by decide +kernel) rfl ?_
        refine zwW_gs Ch6.1 (kd := 7) (bn := 0) (n := 9) (t := 0) (lo := 0) (hi := 400) (nx := 68) (by decide +kernel) ?_
        intro v8 ev8 lv8 uv8
        refine zwic_lt (q := 79) (nx := 71) (by decide +kernel) (fun c9 => ?_) (fun c9 => ?_)
        · refine zwW_p [(1, 0, 2), (1, 0, 2)] (q := 81) (ls' := [(2, 9)]) (st' := [(2, 9), (2, 9)]) (by decide +kernel) rfl ?_
          refine zwW_gs Ch6.1 (kd := 7) (bn := 2) (n := 9) (t := 0) (lo := 0) (hi := 400) (nx := 84) (by decide +kernel) ?_
          intro v10 ev10 lv10 uv10
          refine zwW_cm Ch6.1 (op := 60) (k' := 236) (n := 1) (kd := 7) (m := 9) (nx := 87) (r := 9) (tl := [(0, v10)]) (st' := []) (by decide +kernel) rfl (by decide +kernel) rfl (x236 h6 Ch6 v10 (by omega) (by omega)) ?_
          rintro x _ ⟨rfl, ⟨rfl, c11⟩ | ⟨rfl, c11⟩⟩
          · refine zwif_eq (q := 97) (nx := 90) (by decide +kernel) (fun c12 => ?_) (fun c12 => ?_)
            · exfalso; omega
            · refine zwW_p [(1, 0, 2)] (q := 91) (ls' := [(2, 9)]) (st' := [(2, 9)]) (by decide +kernel) rfl ?_
              refine zwW_cmv Ch6.1 (op := 60) (k' := 237) (n := 0) (kd := 7) (m := 9) (nx := 94) (r := 9) (tl := []) (st' := []) (by decide +kernel) rfl (by decide +kernel) rfl (x237 h6 Ch6) ?_
              rintro h13 ⟨Ch13, Qh13⟩
              have Xh13 : zXR msx198 (0) (0) h h13 := Xh6.tr (c2 := 0) (s2 := 0) Qh13 (by decide +kernel) (by decide) (by decide)
              refine zwW_p [(24, 160, 0), (0, 1, 0)] (q := 161) (ls' := [(2, 9)]) (st' := [(0, 1)]) (by decide +kernel) rfl ?_
              refine zwW_ret (nx := 162) (a := 1) (b := 0) (by decide +kernel) rfl (Or.inr (Or.inl ⟨rfl, Or.inr rfl⟩)) ?_
              exact ⟨Ch13, Xh13.le (by decide) (by decide), by omega⟩
          · refine zwif_eq (q := 97) (nx := 90) (by decide +kernel) (fun c14 => ?_) (fun c14 => ?_)
            · refine zwW_p [(1, 0, 2), (1, 0, 2)] (q := 99) (ls' := [(2, 9)]) (st' := [(2, 9), (2, 9)]) (by decide +kernel) rfl ?_
              refine zwW_gs Ch6.1 (kd := 7) (bn := 2) (n := 9) (t := 0) (lo := 0) (hi := 400) (nx := 102) (by decide +kernel) ?_
              intro v15 ev15 lv15 uv15
              refine zwW_cm Ch6.1 (op := 60) (k' := 238) (n := 1) (kd := 7) (m := 9) (nx := 105) (r := 9) (tl := [(0, v15)]) (st' := []) (by decide +kernel) rfl (by decide +kernel) rfl (x238 h6 Ch6 v15 (by omega) (by omega)) ?_
              rintro x _ ⟨rfl, ⟨rfl, c16⟩ | ⟨rfl, c16⟩⟩
              · refine zwif_eq (q := 115) (nx := 108) (by decide +kernel) (fun c17 => ?_) (fun c17 => ?_)
                · exfalso; omega
                · refine zwW_p [(1, 0, 2)] (q := 109) (ls' := [(2, 9)]) (st' := [(2, 9)]) (by decide +kernel) rfl ?_
                  refine zwW_cmv Ch6.1 (op := 60) (k' := 239) (n := 0) (kd := 7) (m := 9) (nx := 112) (r := 9) (tl := []) (st' := []) (by decide +kernel) rfl (by decide +kernel) rfl (x239 h6 Ch6) ?_
                  rintro h18 ⟨Ch18, Qh18⟩
                  have Xh18 : zXR msx198 (0) (0) h h18 := Xh6.tr (c2 := 0) (s2 := 0) Qh18 (by decide +kernel) (by decide) (by decide)
                  refine zwW_p [(24, 160, 0), (0, 1, 0)] (q := 161) (ls' := [(2, 9)]) (st' := [(0, 1)]) (by decide +kernel) rfl ?_
                  refine zwW_ret (nx := 162) (a := 1) (b := 0) (by decide +kernel) rfl (Or.inr (Or.inl ⟨rfl, Or.inr rfl⟩)) ?_
                  exact ⟨Ch18, Xh18.le (by decide) (by decide), by omega⟩
              · refine zwif_eq (q := 115) (nx := 108) (by decide +kernel) (fun c19 => ?_) (fun c19 => ?_)
                · refine zwW_p [(1, 0, 2), (0, -11, 2), (1, 0, 2)] (q := 119) (ls' := [(2, 9)]) (st' := [(2, 9), (2, -11), (2, 9)]) (by decide +kernel) rfl ?_
                  refine zwW_gc Ch6.1 (kd := 7) (bn := 1) (n := 9) (c := 10) (nx := 122) (by decide +kernel) ?_
                  refine zwW_p [(1, 0, 2)] (q := 123) (ls' := [(2, 9)]) (st' := [(2, 9), (2, 10), (2, -11), (2, 9)]) (by decide +kernel) rfl ?_
                  refine zwW_gs Ch6.1 (kd := 7) (bn := 2) (n := 9) (t := 0) (lo := 0) (hi := 400) (nx := 126) (by decide +kernel) ?_
                  intro v20 ev20 lv20 uv20
                  refine zwW_al Ch6.1 (a1 := 10) (a2 := 10) (kd := 20) (n := 400) (t := 0) (lo := -2147483648) (hi := 2147483647) (nx := 127) (by decide +kernel) (by first | decide | exact ⟨by decide, by decide⟩) (by first | omega | exact ⟨by omega, by omega⟩) ?_
                  intro v21 ev21 lv21 uv21
                  refine zwW_i2c (nx := 128) (by decide +kernel) ?_
                  refine zwW_cst (op := 60) (k' := 240) (n := 1) (nx := 131) (w := -11) (tl := [(0, (v21 % 65536))]) (st' := [(2, 9)]) (by decide +kernel) rfl (by decide +kernel) (by first | omega | exact ⟨by omega, by omega⟩) rfl (m240 h6 (-11) (v21 % 65536) (by omega) (by omega)) ?_
                  rintro v22 _ ⟨rfl, f23, f24⟩
                  refine zwif_lt (q := 146) (nx := 134) (by decide +kernel) (fun c25 => ?_) (fun c25 => ?_)
                  · refine zwW_p [(0, 3, 0)] (q := 147) (ls' := [(2, 9)]) (st' := [(0, 3), (2, 9)]) (by decide +kernel) rfl ?_
                    refine zwW_ps Ch6.1 (kd := 7) (bn := 4) (n := 9) (lo := -2147483648) (hi := 2147483647) (nx := 150) (by decide +kernel) (by first | decide | exact ⟨by decide, by decide⟩) ?_
                    intro h26 eh26 Ih26
                    have Ch26 : CI h26 := Ch6.wc eh26 Ih26 (by decide) (by decide)
                    have Qh26 : zXR [(9, 9, 4, 5)] 0 0 h6 h26 := zXR.wc eh26 rfl ⟨by decide, by decide, Or.inl (by decide)⟩ (by first | decide | exact ⟨by decide, by decide⟩)
                    have Xh26 : zXR msx198 (0) (0) h h26 := Xh6.tr (c2 := 0) (s2 := 0) Qh26 (by decide +kernel) (by decide) (by decide)
                    have th26_9_2 : fld h26 9 2 = fld h6 9 2 := Qh26.f (a1 := 9) (a2 := 9) (j1 := 2) (j2 := 3) (by decide +kernel) (by first | decide | exact ⟨by decide, by decide⟩) (by first | decide | exact ⟨by decide, by decide⟩) (by first | decide | exact ⟨by decide, by decide⟩)
                    refine zwW_p [(1, 0, 2), (12, 0, 0)] (q := 152) (ls' := [(2, 9)]) (st' := [(2, 9), (2, 9)]) (by decide +kernel) rfl ?_
                    refine zwW_gs Ch26.1 (kd := 7) (bn := 2) (n := 9) (t := 0) (lo := 0) (hi := 400) (nx := 155) (by decide +kernel) ?_
                    intro v27 ev27 lv27 uv27
                    refine zwW_p [(0, 1, 0)] (q := 156) (ls' := [(2, 9)]) (st' := [(0, 1), (0, v27), (2, 9)]) (by decide +kernel) rfl ?_
                    refine zwW_add (nx := 157) (by decide +kernel) (by first | omega | exact ⟨by omega, by omega⟩) ?_
                    refine zwW_ps Ch26.1 (kd := 7) (bn := 2) (n := 9) (lo := 0) (hi := 400) (nx := 160) (by decide +kernel) (by first | omega | exact ⟨by omega, by omega⟩) ?_
                    intro h28 eh28 Ih28
                    have Ch28 : CI h28 := Ch26.wc eh28 Ih28 (by decide) (by decide)
                    have Qh28 : zXR [(9, 9, 2, 3)] 0 0 h26 h28 := zXR.wc eh28 rfl ⟨by decide, by decide, Or.inl (by decide)⟩ (by first | decide | exact ⟨by decide, by decide⟩)
                    have Xh28 : zXR msx198 (0) (0) h h28 := Xh26.tr (c2 := 0) (s2 := 0) Qh28 (by decide +kernel) (by decide) (by decide)
                    have th28_9_2 : fld h28 9 2 = (v27 + 1) := by rw [eh28]; exact fld_wr_eq (Ch26.1.s (a1 := 9) (a2 := 9) (k := 7) (n := 9) (by decide +kernel) (by decide) (by decide)) (by decide)
                    refine zwW_p [(0, 1, 0)] (q := 161) (ls' := [(2, 9)]) (st' := [(0, 1)]) (by decide +kernel) rfl ?_
                    refine zwW_ret (nx := 162) (a := 1) (b := 0) (by decide +kernel) rfl (Or.inr (Or.inl ⟨rfl, Or.inr rfl⟩)) ?_
                    exact ⟨Ch28, Xh28.le (by decide) (by decide), by omega⟩
                  · refine zwW_p [(1, 0, 2)] (q := 135) (ls' := [(2, 9)]) (st' := [(2, 9), (2, 9)]) (by decide +kernel) rfl ?_
                    refine zwW_gc Ch6.1 (kd := 7) (bn := 1) (n := 9) (c := 10) (nx := 138) (by decide +kernel) ?_
                    refine zwW_p [(1, 0, 2)] (q := 139) (ls' := [(2, 9)]) (st' := [(2, 9), (2, 10), (2, 9)]) (by decide +kernel) rfl ?_
                    refine zwW_gs Ch6.1 (kd := 7) (bn := 2) (n := 9) (t := 0) (lo := 0) (hi := 400) (nx := 142) (by decide +kernel) ?_
                    intro v29 ev29 lv29 uv29
                    refine zwW_al Ch6.1 (a1 := 10) (a2 := 10) (kd := 20) (n := 400) (t := 0) (lo := -2147483648) (hi := 2147483647) (nx := 143) (by decide +kernel) (by first | decide | exact ⟨by decide, by decide⟩) (by first | omega | exact ⟨by omega, by omega⟩) ?_
                    intro v30 ev30 lv30 uv30
                    refine zwW_p [(24, 147, 0)] (q := 147) (ls' := [(2, 9)]) (st' := [(0, v30), (2, 9)]) (by decide +kernel) rfl ?_
                    refine zwW_ps Ch6.1 (kd := 7) (bn := 4) (n := 9) (lo := -2147483648) (hi := 2147483647) (nx := 150) (by decide +kernel) (by first | omega | exact ⟨by omega, by omega⟩) ?_
                    intro h31 eh31 Ih31
                    have Ch31 : CI h31 := Ch6.wc eh31 Ih31 (by decide) (by decide)
                    have Qh31 : zXR [(9, 9, 4, 5)] 0 0 h6 h31 := zXR.wc eh31 rfl ⟨by decide, by decide, Or.inl (by decide)⟩ (by first | decide | exact ⟨by decide, by decide⟩)
                    have Xh31 : zXR msx198 (0) (0) h h31 := Xh6.tr (c2 := 0) (s2 := 0) Qh31 (by decide +kernel) (by decide) (by decide)
                    have th31_9_2 : fld h31 9 2 = fld h6 9 2 := Qh31.f (a1 := 9) (a2 := 9) (j1 := 2) (j2 := 3) (by decide +kernel) (by first | decide | exact ⟨by decide, by decide⟩) (by first | decide | exact ⟨by decide, by decide⟩) (by first | decide | exact ⟨by decide, by decide⟩)
                    refine zwW_p [(1, 0, 2), (12, 0, 0)] (q := 152) (ls' := [(2, 9)]) (st' := [(2, 9), (2, 9)]) (by decide +kernel) rfl ?_
                    refine zwW_gs Ch31.1 (kd := 7) (bn := 2) (n := 9) (t := 0) (lo := 0) (hi := 400) (nx := 155) (by decide +kernel) ?_
                    intro v32 ev32 lv32 uv32
                    refine zwW_p [(0, 1, 0)] (q := 156) (ls' := [(2, 9)]) (st' := [(0, 1), (0, v32), (2, 9)]) (by decide +kernel) rfl ?_
                    refine zwW_add (nx := 157) (by decide +kernel) (by first | omega | exact ⟨by omega, by omega⟩) ?_
                    refine zwW_ps Ch31.1 (kd := 7) (bn := 2) (n := 9) (lo := 0) (hi := 400) (nx := 160) (by decide +kernel) (by first | omega | exact ⟨by omega, by omega⟩) ?_
                    intro h33 eh33 Ih33
                    have Ch33 : CI h33 := Ch31.wc eh33 Ih33 (by decide) (by decide)
                    have Qh33 : zXR [(9, 9, 2, 3)] 0 0 h31 h33 := zXR.wc eh33 rfl ⟨by decide, by decide, Or.inl (by decide)⟩ (by first | decide | exact ⟨by decide, by decide⟩)
                    have Xh33 : zXR msx198 (0) (0) h h33 := Xh31.tr (c2 := 0) (s2 := 0) Qh33 (by decide +kernel) (by decide) (by decide)
                    have th33_9_2 : fld h33 9 2 = (v32 + 1) := by rw [eh33]; exact fld_wr_eq (Ch31.1.s (a1 := 9) (a2 := 9) (k := 7) (n := 9) (by decide +kernel) (by decide) (by decide)) (by decide)
                    refine zwW_p [(0, 1, 0)] (q := 161) (ls' := [(2, 9)]) (st' := [(0, 1)]) (by decide +kernel) rfl ?_
                    refine zwW_ret (nx := 162) (a := 1) (b := 0) (by decide +kernel) rfl (Or.inr (Or.inl ⟨rfl, Or.inr rfl⟩)) ?_
                    exact ⟨Ch33, Xh33.le (by decide) (by decide), by omega⟩
                · exfalso; omega
            · exfalso; omega
        · refine zwW_p [(1, 0, 2), (0, 0, 0)] (q := 73) (ls' := [(2, 9)]) (st' := [(0, 0), (2, 9)]) (by decide +kernel) rfl ?_
          refine zwW_ps Ch6.1 (kd := 7) (bn := 4) (n := 9) (lo := -2147483648) (hi := 2147483647) (nx := 76) (by decide +kernel) (by first | decide | exact ⟨by decide, by decide⟩) ?_
          intro h34 eh34 Ih34
          have Ch34 : CI h34 := Ch6.wc eh34 Ih34 (by decide) (by decide)
          have Qh34 : zXR [(9, 9, 4, 5)] 0 0 h6 h34 := zXR.wc eh34 rfl ⟨by decide, by decide, Or.inl (by decide)⟩ (by first | decide | exact ⟨by decide, by decide⟩)
          have Xh34 : zXR msx198 (0) (0) h h34 := Xh6.tr (c2 := 0) (s2 := 0) Qh34 (by decide +kernel) (by decide) (by decide)
          have th34_9_2 : fld h34 9 2 = fld h6 9 2 := Qh34.f (a1 := 9) (a2 := 9) (j1 := 2) (j2 := 3) (by decide +kernel) (by first | decide | exact ⟨by decide, by decide⟩) (by first | decide | exact ⟨by decide, by decide⟩) (by first | decide | exact ⟨by decide, by decide⟩)
          refine zwW_p [(24, 160, 0), (0, 1, 0)] (q := 161) (ls' := [(2, 9)]) (st' := [(0, 1)]) (by decide +kernel) rfl ?_
          refine zwW_ret (nx := 162) (a := 1) (b := 0) (by decide +kernel) rfl (Or.inr (Or.inl ⟨rfl, Or.inr rfl⟩)) ?_
          exact ⟨Ch34, Xh34.le (by decide) (by decide), by omega⟩
      · refine zwW_p [(1, 0, 2)] (q := 12) (ls' := [(2, 9)]) (st' := [(2, 9)]) (by decide +kernel) rfl ?_
        refine zwW_gc ChL1.1 (kd := 7) (bn := 1) (n := 9) (c := 10) (nx := 15) (by decide +kernel) ?_
        refine zwW_p [(1, 0, 2)] (q := 16) (ls' := [(2, 9)]) (st' := [(2, 9), (2, 10)]) (by decide +kernel) rfl ?_
        refine zwW_gs ChL1.1 (kd := 7) (bn := 2) (n := 9) (t := 0) (lo := 0) (hi := 400) (nx := 19) (by decide +kernel) ?_
        intro v35 ev35 lv35 uv35
        refine zwW_al ChL1.1 (a1 := 10) (a2 := 10) (kd := 20) (n := 400) (t := 0) (lo := -2147483648) (hi := 2147483647) (nx := 20) (by decide +kernel) (by first | decide | exact ⟨by decide, by decide⟩) (by first | omega | exact ⟨by omega, by omega⟩) ?_
        intro v36 ev36 lv36 uv36
        refine zwW_p [(0, 32, 0)] (q := 22) (ls' := [(2, 9)]) (st' := [(0, 32), (0, v36)]) (by decide +kernel) rfl ?_
        refine zwic_eq (q := 39) (nx := 25) (by decide +kernel) (fun c37 => ?_) (fun c37 => ?_)
        · refine zwW_p [(1, 0, 2), (12, 0, 0)] (q := 41) (ls' := [(2, 9)]) (st' := [(2, 9), (2, 9)]) (by decide +kernel) rfl ?_
          refine zwW_gs ChL1.1 (kd := 7) (bn := 2) (n := 9) (t := 0) (lo := 0) (hi := 400) (nx := 44) (by decide +kernel) ?_
          intro v38 ev38 lv38 uv38
          refine zwW_p [(0, 1, 0)] (q := 45) (ls' := [(2, 9)]) (st' := [(0, 1), (0, v38), (2, 9)]) (by decide +kernel) rfl ?_
          refine zwW_add (nx := 46) (by decide +kernel) (by first | omega | exact ⟨by omega, by omega⟩) ?_
          refine zwW_ps ChL1.1 (kd := 7) (bn := 2) (n := 9) (lo := 0) (hi := 400) (nx := 49) (by decide +kernel) (by first | omega | exact ⟨by omega, by omega⟩) ?_
          intro h39 eh39 Ih39
          have Ch39 : CI h39 := ChL1.wc eh39 Ih39 (by decide) (by decide)
          have Qh39 : zXR [(9, 9, 2, 3)] 0 0 hL1 h39 := zXR.wc eh39 rfl ⟨by decide, by decide, Or.inl (by decide)⟩ (by first | decide | exact ⟨by decide, by decide⟩)
          have Xh39 : zXR msx198 (0) (0) h h39 := XhL1.tr (c2 := 0) (s2 := 0) Qh39 (by decide +kernel) (by decide) (by decide)
          have th39_9_2 : fld h39 9 2 = (v38 + 1) := by rw [eh39]; exact fld_wr_eq (ChL1.1.s (a1 := 9) (a2 := 9) (k := 7) (n := 9) (by decide +kernel) (by decide) (by decide)) (by decide)
          refine zwW_p [(24, 0, 0)] (q := 0) (ls' := [(2, 9)]) (st' := []) (by decide +kernel) rfl ?_
          exact IHL1 ((400 - fld h39 9 2)).toNat (by omega) h39 rfl Ch39 (Xh39.le (by decide) (by decide))
        · refine zwW_p [(1, 0, 2)] (q := 26) (ls' := [(2, 9)]) (st' := [(2, 9)]) (by decide +kernel) rfl ?_
          refine zwW_gc ChL1.1 (kd := 7) (bn := 1) (n := 9) (c := 10) (nx := 29) (by decide +kernel) ?_
          refine zwW_p [(1, 0, 2)] (q := 30) (ls' := [(2, 9)]) (st' := [(2, 9), (2, 10)]) (by decide +kernel) rfl ?_
          refine zwW_gs ChL1.1 (kd := 7) (bn := 2) (n := 9) (t := 0) (lo := 0) (hi := 400) (nx := 33) (by decide +kernel) ?_
          intro v40 ev40 lv40 uv40
          refine zwW_al ChL1.1 (a1 := 10) (a2 := 10) (kd := 20) (n := 400) (t := 0) (lo := -2147483648) (hi := 2147483647) (nx := 34) (by decide +kernel) (by first | decide | exact ⟨by decide, by decide⟩) (by first | omega | exact ⟨by omega, by omega⟩) ?_
          intro v41 ev41 lv41 uv41
          refine zwW_p [(0, 10, 0)] (q := 36) (ls' := [(2, 9)]) (st' := [(0, 10), (0, v41)]) (by decide +kernel) rfl ?_
          refine zwic_ne (q := 52) (nx := 39) (by decide +kernel) (fun c42 => ?_) (fun c42 => ?_)
          · refine zwW_p [(1, 0, 2), (1, 0, 2)] (q := 54) (ls' := [(2, 9)]) (st' := [(2, 9), (2, 9)]) (by decide +kernel) rfl ?_
            refine zwW_gs ChL1.1 (kd := 7) (bn := 2) (n := 9) (t := 0) (lo := 0) (hi := 400) (nx := 57) (by decide +kernel) ?_
            intro v43 ev43 lv43 uv43
            refine zwW_ps ChL1.1 (kd := 7) (bn := 3) (n := 9) (lo := 0) (hi := 400) (nx := 60) (by decide +kernel) (by first | omega | exact ⟨by omega, by omega⟩) ?_
            intro h44 eh44 Ih44
            have Ch44 : CI h44 := ChL1.wc eh44 Ih44 (by decide) (by decide)
            have Qh44 : zXR [(9, 9, 3, 4)] 0 0 hL1 h44 := zXR.wc eh44 rfl ⟨by decide, by decide, Or.inl (by decide)⟩ (by first | decide | exact ⟨by decide, by decide⟩)
            have Xh44 : zXR msx198 (0) (0) h h44 := XhL1.tr (c2 := 0) (s2 := 0) Qh44 (by decide +kernel) (by decide) (by decide)
            have th44_9_2 : fld h44 9 2 = fld hL1 9 2 := Qh44.f (a1 := 9) (a2 := 9) (j1 := 2) (j2 := 3) (by decide +kernel) (by first | decide | exact ⟨by decide, by decide⟩) (by first | decide | exact ⟨by decide, by decide⟩) (by first | decide | exact ⟨by decide, by decide⟩)
            refine zwW_p [(1, 0, 2)] (q := 61) (ls' := [(2, 9)]) (st' := [(2, 9)]) (by decide +kernel) rfl ?_
            refine zwW_gs Ch44.1 (kd := 7) (bn := 2) (n := 9) (t := 0) (lo := 0) (hi := 400) (nx := 64) (by decide +kernel) ?_
            intro v45 ev45 lv45 uv45
            refine zwW_p [(1, 0, 2)] (q := 65) (ls' := [(2, 9)]) (st' := [(2, 9), (0, v45)]) (by decide +kernel) rfl ?_
            refine zwW_gs Ch44.1 (kd := 7) (bn := 0) (n := 9) (t := 0) (lo := 0) (hi := 400) (nx := 68) (by decide +kernel) ?_
            intro v46 ev46 lv46 uv46
            refine zwic_lt (q := 79) (nx := 71) (by decide +kernel) (fun c47 => ?_) (fun c47 => ?_)
            · refine zwW_p [(1, 0, 2), (1, 0, 2)] (q := 81) (ls' := [(2, 9)]) (st' := [(2, 9), (2, 9)]) (by decide +kernel) rfl ?_
              refine zwW_gs Ch44.1 (kd := 7) (bn := 2) (n := 9) (t := 0) (lo := 0) (hi := 400) (nx := 84) (by decide +kernel) ?_
              intro v48 ev48 lv48 uv48
              refine zwW_cm Ch44.1 (op := 60) (k' := 236) (n := 1) (kd := 7) (m := 9) (nx := 87) (r := 9) (tl := [(0, v48)]) (st' := []) (by decide +kernel) rfl (by decide +kernel) rfl (x236 h44 Ch44 v48 (by omega) (by omega)) ?_
              rintro x _ ⟨rfl, ⟨rfl, c49⟩ | ⟨rfl, c49⟩⟩
              · refine zwif_eq (q := 97) (nx := 90) (by decide +kernel) (fun c50 => ?_) (fun c50 => ?_)
                · exfalso; omega
                · refine zwW_p [(1, 0, 2)] (q := 91) (ls' := [(2, 9)]) (st' := [(2, 9)]) (by decide +kernel) rfl ?_
                  refine zwW_cmv Ch44.1 (op := 60) (k' := 237) (n := 0) (kd := 7) (m := 9) (nx := 94) (r := 9) (tl := []) (st' := []) (by decide +kernel) rfl (by decide +kernel) rfl (x237 h44 Ch44) ?_
                  rintro h51 ⟨Ch51, Qh51⟩
                  have Xh51 : zXR msx198 (0) (0) h h51 := Xh44.tr (c2 := 0) (s2 := 0) Qh51 (by decide +kernel) (by decide) (by decide)
                  refine zwW_p [(24, 160, 0), (0, 1, 0)] (q := 161) (ls' := [(2, 9)]) (st' := [(0, 1)]) (by decide +kernel) rfl ?_
                  refine zwW_ret (nx := 162) (a := 1) (b := 0) (by decide +kernel) rfl (Or.inr (Or.inl ⟨rfl, Or.inr rfl⟩)) ?_
                  exact ⟨Ch51, Xh51.le (by decide) (by decide), by omega⟩
              · refine zwif_eq (q := 97) (nx := 90) (by decide +kernel) (fun c52 => ?_) (fun c52 => ?_)
                · refine zwW_p [(1, 0, 2), (1, 0, 2)] (q := 99) (ls' := [(2, 9)]) (st' := [(2, 9), (2, 9)]) (by decide +kernel) rfl ?_
                  refine zwW_gs Ch44.1 (kd := 7) (bn := 2) (n := 9) (t := 0) (lo := 0) (hi := 400) (nx := 102) (by decide +kernel) ?_
                  intro v53 ev53 lv53 uv53
                  refine zwW_cm Ch44.1 (op := 60) (k' := 238) (n := 1) (kd := 7) (m := 9) (nx := 105) (r := 9) (tl := [(0, v53)]) (st' := []) (by decide +kernel) rfl (by decide +kernel) rfl (x238 h44 Ch44 v53 (by omega) (by omega)) ?_
                  rintro x _ ⟨rfl, ⟨rfl, c54⟩ | ⟨rfl, c54⟩⟩
                  · refine zwif_eq (q := 115) (nx := 108) (by decide +kernel) (fun c55 => ?_) (fun c55 => ?_)
                    · exfalso; omega
                    · refine zwW_p [(1, 0, 2)] (q := 109) (ls' := [(2, 9)]) (st' := [(2, 9)]) (by decide +kernel) rfl ?_
                      refine zwW_cmv Ch44.1 (op := 60) (k' := 239) (n := 0) (kd := 7) (m := 9) (nx := 112) (r := 9) (tl := []) (st' := []) (by decide +kernel) rfl (by decide +kernel) rfl (x239 h44 Ch44) ?_
                      rintro h56 ⟨Ch56, Qh56⟩
                      have Xh56 : zXR msx198 (0) (0) h h56 := Xh44.tr (c2 := 0) (s2 := 0) Qh56 (by decide +kernel) (by decide) (by decide)
                      refine zwW_p [(24, 160, 0), (0, 1, 0)] (q := 161) (ls' := [(2, 9)]) (st' := [(0, 1)]) (by decide +kernel) rfl ?_
                      refine zwW_ret (nx := 162) (a := 1) (b := 0) (by decide +kernel) rfl (Or.inr (Or.inl ⟨rfl, Or.inr rfl⟩)) ?_
                      exact ⟨Ch56, Xh56.le (by decide) (by decide), by omega⟩
                  · refine zwif_eq (q := 115) (nx := 108) (by decide +kernel) (fun c57 => ?_) (fun c57 => ?_)
                    · refine zwW_p [(1, 0, 2), (0, -11, 2), (1, 0, 2)] (q := 119) (ls' := [(2, 9)]) (st' := [(2, 9), (2, -11), (2, 9)]) (by decide +kernel) rfl ?_
                      refine zwW_gc Ch44.1 (kd := 7) (bn := 1) (n := 9) (c := 10) (nx := 122) (by decide +kernel) ?_
                      refine zwW_p [(1, 0, 2)] (q := 123) (ls' := [(2, 9)]) (st' := [(2, 9), (2, 10), (2, -11), (2, 9)]) (by decide +kernel) rfl ?_
                      refine zwW_gs Ch44.1 (kd := 7) (bn := 2) (n := 9) (t := 0) (lo := 0) (hi := 400) (nx := 126) (by decide +kernel) ?_
                      intro v58 ev58 lv58 uv58
                      refine zwW_al Ch44.1 (a1 := 10) (a2 := 10) (kd := 20) (n := 400) (t := 0) (lo := -2147483648) (hi := 2147483647) (nx := 127) (by decide +kernel) (by first | decide | exact ⟨by decide, by decide⟩) (by first | omega | exact ⟨by omega, by omega⟩) ?_
                      intro v59 ev59 lv59 uv59
                      refine zwW_i2c (nx := 128) (by decide +kernel) ?_
                      refine zwW_cst (op := 60) (k' := 240) (n := 1) (nx := 131) (w := -11) (tl := [(0, (v59 % 65536))]) (st' := [(2, 9)]) (by decide +kernel) rfl (by decide +kernel) (by first | omega | exact ⟨by omega, by omega⟩) rfl (m240 h44 (-11) (v59 % 65536) (by omega) (by omega)) ?_
                      rintro v60 _ ⟨rfl, f61, f62⟩
                      refine zwif_lt (q := 146) (nx := 134) (by decide +kernel) (fun c63 => ?_) (fun c63 => ?_)
                      · refine zwW_p [(0, 3, 0)] (q := 147) (ls' := [(2, 9)]) (st' := [(0, 3), (2, 9)]) (by decide +kernel) rfl ?_
                        refine zwW_ps Ch44.1 (kd := 7) (bn := 4) (n := 9) (lo := -2147483648) (hi := 2147483647) (nx := 150) (by decide +kernel) (by first | decide | exact ⟨by decide, by decide⟩) ?_
                        intro h64 eh64 Ih64
                        have Ch64 : CI h64 := Ch44.wc eh64 Ih64 (by decide) (by decide)
                        have Qh64 : zXR [(9, 9, 4, 5)] 0 0 h44 h64 := zXR.wc eh64 rfl ⟨by decide, by decide, Or.inl (by decide)⟩ (by first | decide | exact ⟨by decide, by decide⟩)
                        have Xh64 : zXR msx198 (0) (0) h h64 := Xh44.tr (c2 := 0) (s2 := 0) Qh64 (by decide +kernel) (by decide) (by decide)
                        have th64_9_2 : fld h64 9 2 = fld h44 9 2 := Qh64.f (a1 := 9) (a2 := 9) (j1 := 2) (j2 := 3) (by decide +kernel) (by first | decide | exact ⟨by decide, by decide⟩) (by first | decide | exact ⟨by decide, by decide⟩) (by first | decide | exact ⟨by decide, by decide⟩)
                        refine zwW_p [(1, 0, 2), (12, 0, 0)] (q := 152) (ls' := [(2, 9)]) (st' := [(2, 9), (2, 9)]) (by decide +kernel) rfl ?_
                        refine zwW_gs Ch64.1 (kd := 7) (bn := 2) (n := 9) (t := 0) (lo := 0) (hi := 400) (nx := 155) (by decide +kernel) ?_
                        intro v65 ev65 lv65 uv65
                        refine zwW_p [(0, 1, 0)] (q := 156) (ls' := [(2, 9)]) (st' := [(0, 1), (0, v65), (2, 9)]) (by decide +kernel) rfl ?_
                        refine zwW_add (nx := 157) (by decide +kernel) (by first | omega | exact ⟨by omega, by omega⟩) ?_
                        refine zwW_ps Ch64.1 (kd := 7) (bn := 2) (n := 9) (lo := 0) (hi := 400) (nx := 160) (by decide +kernel) (by first | omega | exact ⟨by omega, by omega⟩) ?_
                        intro h66 eh66 Ih66
                        have Ch66 : CI h66 := Ch64.wc eh66 Ih66 (by decide) (by decide)
                        have Qh66 : zXR [(9, 9, 2, 3)] 0 0 h64 h66 := zXR.wc eh66 rfl ⟨by decide, by decide, Or.inl (by decide)⟩ (by first | decide | exact ⟨by decide, by decide⟩)
                        have Xh66 : zXR msx198 (0) (0) h h66 := Xh64.tr (c2 := 0) (s2 := 0) Qh66 (by decide +kernel) (by decide) (by decide)
                        have th66_9_2 : fld h66 9 2 = (v65 + 1) := by rw [eh66]; exact fld_wr_eq (Ch64.1.s (a1 := 9) (a2 := 9) (k := 7) (n := 9) (by decide +kernel) (by decide) (by decide)) (by decide)
                        refine zwW_p [(0, 1, 0)] (q := 161) (ls' := [(2, 9)]) (st' := [(0, 1)]) (by decide +kernel) rfl ?_
                        refine zwW_ret (nx := 162) (a := 1) (b := 0) (by decide +kernel) rfl (Or.inr (Or.inl ⟨rfl, Or.inr rfl⟩)) ?_
                        exact ⟨Ch66, Xh66.le (by decide) (by decide), by omega⟩
                      · refine zwW_p [(1, 0, 2)] (q := 135) (ls' := [(2, 9)]) (st' := [(2, 9), (2, 9)]) (by decide +kernel) rfl ?_
                        refine zwW_gc Ch44.1 (kd := 7) (bn := 1) (n := 9) (c := 10) (nx := 138) (by decide +kernel) ?_
                        refine zwW_p [(1, 0, 2)] (q := 139) (ls' := [(2, 9)]) (st' := [(2, 9), (2, 10), (2, 9)]) (by decide +kernel) rfl ?_
                        refine zwW_gs Ch44.1 (kd := 7) (bn := 2) (n := 9) (t := 0) (lo := 0) (hi := 400) (nx := 142) (by decide +kernel) ?_
                        intro v67 ev67 lv67 uv67
                        refine zwW_al Ch44.1 (a1 := 10) (a2 := 10) (kd := 20) (n := 400) (t := 0) (lo := -2147483648) (hi := 2147483647) (nx := 143) (by decide +kernel) (by first | decide | exact ⟨by decide, by decide⟩) (by first | omega | exact ⟨by omega, by omega⟩) ?_
                        intro v68 ev68 lv68 uv68
                        refine zwW_p [(24, 147, 0)] (q := 147) (ls' := [(2, 9)]) (st' := [(0, v68), (2, 9)]) (by decide +kernel) rfl ?_
                        refine zwW_ps Ch44.1 (kd := 7) (bn := 4) (n := 9) (lo := -2147483648) (hi := 2147483647) (nx := 150) (by decide +kernel) (by first | omega | exact ⟨by omega, by omega⟩) ?_
                        intro h69 eh69 Ih69
                        have Ch69 : CI h69 := Ch44.wc eh69 Ih69 (by decide) (by decide)
                        have Qh69 : zXR [(9, 9, 4, 5)] 0 0 h44 h69 := zXR.wc eh69 rfl ⟨by decide, by decide, Or.inl (by decide)⟩ (by first | decide | exact ⟨by decide, by decide⟩)
                        have Xh69 : zXR msx198 (0) (0) h h69 := Xh44.tr (c2 := 0) (s2 := 0) Qh69 (by decide +kernel) (by decide) (by decide)
                        have th69_9_2 : fld h69 9 2 = fld h44 9 2 := Qh69.f (a1 := 9) (a2 := 9) (j1 := 2) (j2 := 3) (by decide +kernel) (by first | decide | exact ⟨by decide, by decide⟩) (by first | decide | exact ⟨by decide, by decide⟩) (by first | decide | exact ⟨by decide, by decide⟩)
                        refine zwW_p [(1, 0, 2), (12, 0, 0)] (q := 152) (ls' := [(2, 9)]) (st' := [(2, 9), (2, 9)]) (by decide +kernel) rfl ?_
                        refine zwW_gs Ch69.1 (kd := 7) (bn := 2) (n := 9) (t := 0) (lo := 0) (hi := 400) (nx := 155) (by decide +kernel) ?_
                        intro v70 ev70 lv70 uv70
                        refine zwW_p [(0, 1, 0)] (q := 156) (ls' := [(2, 9)]) (st' := [(0, 1), (0, v70), (2, 9)]) (by decide +kernel) rfl ?_
                        refine zwW_add (nx := 157) (by decide +kernel) (by first | omega | exact ⟨by omega, by omega⟩) ?_
                        refine zwW_ps Ch69.1 (kd := 7) (bn := 2) (n := 9) (lo := 0) (hi := 400) (nx := 160) (by decide +kernel) (by first | omega | exact ⟨by omega, by omega⟩) ?_
                        intro h71 eh71 Ih71
                        have Ch71 : CI h71 := Ch69.wc eh71 Ih71 (by decide) (by decide)
                        have Qh71 : zXR [(9, 9, 2, 3)] 0 0 h69 h71 := zXR.wc eh71 rfl ⟨by decide, by decide, Or.inl (by decide)⟩ (by first | decide | exact ⟨by decide, by decide⟩)
                        have Xh71 : zXR msx198 (0) (0) h h71 := Xh69.tr (c2 := 0) (s2 := 0) Qh71 (by decide +kernel) (by decide) (by decide)
                        have th71_9_2 : fld h71 9 2 = (v70 + 1) := by rw [eh71]; exact fld_wr_eq (Ch69.1.s (a1 := 9) (a2 := 9) (k := 7) (n := 9) (by decide +kernel) (by decide) (by decide)) (by decide)
                        refine zwW_p [(0, 1, 0)] (q := 161) (ls' := [(2, 9)]) (st' := [(0, 1)]) (by decide +kernel) rfl ?_
                        refine zwW_ret (nx := 162) (a := 1) (b := 0) (by decide +kernel) rfl (Or.inr (Or.inl ⟨rfl, Or.inr rfl⟩)) ?_
                        exact ⟨Ch71, Xh71.le (by decide) (by decide), by omega⟩
                    · exfalso; omega
                · exfalso; omega
            · refine zwW_p [(1, 0, 2), (0, 0, 0)] (q := 73) (ls' := [(2, 9)]) (st' := [(0, 0), (2, 9)]) (by decide +kernel) rfl ?_
              refine zwW_ps Ch44.1 (kd := 7) (bn := 4) (n := 9) (lo := -2147483648) (hi := 2147483647) (nx := 76) (by decide +kernel) (by first | decide | exact ⟨by decide, by decide⟩) ?_
              intro h72 eh72 Ih72
              have Ch72 : CI h72 := Ch44.wc eh72 Ih72 (by decide) (by decide)
              have Qh72 : zXR [(9, 9, 4, 5)] 0 0 h44 h72 := zXR.wc eh72 rfl ⟨by decide, by decide, Or.inl (by decide)⟩ (by first | decide | exact ⟨by decide, by decide⟩)
              have Xh72 : zXR msx198 (0) (0) h h72 := Xh44.tr (c2 := 0) (s2 := 0) Qh72 (by decide +kernel) (by decide) (by decide)
              have th72_9_2 : fld h72 9 2 = fld h44 9 2 := Qh72.f (a1 := 9) (a2 := 9) (j1 := 2) (j2 := 3) (by decide +kernel) (by first | decide | exact ⟨by decide, by decide⟩) (by first | decide | exact ⟨by decide, by decide⟩) (by first | decide | exact ⟨by decide, by decide⟩)
              refine zwW_p [(24, 160, 0), (0, 1, 0)] (q := 161) (ls' := [(2, 9)]) (st' := [(0, 1)]) (by decide +kernel) rfl ?_
              refine zwW_ret (nx := 162) (a := 1) (b := 0) (by decide +kernel) rfl (Or.inr (Or.inl ⟨rfl, Or.inr rfl⟩)) ?_
              exact ⟨Ch72, Xh72.le (by decide) (by decide), by omega⟩
          · refine zwW_p [(1, 0, 2), (12, 0, 0)] (q := 41) (ls' := [(2, 9)]) (st' := [(2, 9), (2, 9)]) (by decide +kernel) rfl ?_
            refine zwW_gs ChL1.1 (kd := 7) (bn := 2) (n := 9) (t := 0) (lo := 0) (hi := 400) (nx := 44) (by decide +kernel) ?_
            intro v73 ev73 lv73 uv73
            refine zwW_p [(0, 1, 0)] (q := 45) (ls' := [(2, 9)]) (st' := [(0, 1), (0, v73), (2, 9)]) (by decide +kernel) rfl ?_
            refine zwW_add (nx := 46) (by decide +kernel) (by first | omega | exact ⟨by omega, by omega⟩) ?_
            refine zwW_ps ChL1.1 (kd := 7) (bn := 2) (n := 9) (lo := 0) (hi := 400) (nx := 49) (by decide +kernel) (by first | omega | exact ⟨by omega, by omega⟩) ?_
            intro h74 eh74 Ih74
            have Ch74 : CI h74 := ChL1.wc eh74 Ih74 (by decide) (by decide)
            have Qh74 : zXR [(9, 9, 2, 3)] 0 0 hL1 h74 := zXR.wc eh74 rfl ⟨by decide, by decide, Or.inl (by decide)⟩ (by first | decide | exact ⟨by decide, by decide⟩)
            have Xh74 : zXR msx198 (0) (0) h h74 := XhL1.tr (c2 := 0) (s2 := 0) Qh74 (by decide +kernel) (by decide) (by decide)
            have th74_9_2 : fld h74 9 2 = (v73 + 1) := by rw [eh74]; exact fld_wr_eq (ChL1.1.s (a1 := 9) (a2 := 9) (k := 7) (n := 9) (by decide +kernel) (by decide) (by decide)) (by decide)
            refine zwW_p [(24, 0, 0)] (q := 0) (ls' := [(2, 9)]) (st' := []) (by decide +kernel) rfl ?_
            exact IHL1 ((400 - fld h74 9 2)).toNat (by omega) h74 rfl Ch74 (Xh74.le (by decide) (by decide))
  exact L1 _ h rfl C (X.le (by decide) (by decide))
-- WheelLand$Reader.factor(I)Z
theorem x280 {sc : List Int} (a : Int) (D0 : Nat) (pa : 0 ≤ a ∧ a ≤ 8) (HS : a < 8 → zKX sc D0 241 (a + 1)) : zKX sc (D0 + 20) 280 a := by
  intro h C
  refine zwC_of (D := D0 + 19) 2 (by decide +kernel) rfl (ls := [(2, 9), (0, a)]) rfl ?_
  have X : zXR msxK 0 0 h h := zXR.rf _ _
  refine zwW_p [(1, 0, 2)] (q := 1) (ls' := [(2, 9), (0, a)]) (st' := [(2, 9)]) (by decide +kernel) rfl ?_
  refine zwW_gs C.1 (kd := 7) (bn := 4) (n := 9) (t := 0) (lo := -2147483648) (hi := 2147483647) (nx := 4) (by decide +kernel) ?_
  intro v1 ev1 lv1 uv1
  refine zwW_p [(0, 2, 0)] (q := 5) (ls' := [(2, 9), (0, a)]) (st' := [(0, 2), (0, v1)]) (by decide +kernel) rfl ?_
  refine zwic_ne (q := 42) (nx := 8) (by decide +kernel) (fun c2 => ?_) (fun c2 => ?_)
  · refine zwW_p [(1, 0, 2)] (q := 43) (ls' := [(2, 9), (0, a)]) (st' := [(2, 9)]) (by decide +kernel) rfl ?_
    refine zwW_gs C.1 (kd := 7) (bn := 4) (n := 9) (t := 0) (lo := -2147483648) (hi := 2147483647) (nx := 46) (by decide +kernel) ?_
    intro v3 ev3 lv3 uv3
    refine zwW_p [(0, 1, 0)] (q := 47) (ls' := [(2, 9), (0, a)]) (st' := [(0, 1), (0, v3)]) (by decide +kernel) rfl ?_
    refine zwic_ne (q := 89) (nx := 50) (by decide +kernel) (fun c4 => ?_) (fun c4 => ?_)
    · refine zwW_p [(1, 1, 0), (0, 8, 0)] (q := 92) (ls' := [(2, 9), (0, a)]) (st' := [(0, 8), (0, a)]) (by decide +kernel) rfl ?_
      refine zwic_ge (q := 141) (nx := 95) (by decide +kernel) (fun c5 => ?_) (fun c5 => ?_)
      · refine zwW_p [(0, 0, 0)] (q := 142) (ls' := [(2, 9), (0, a)]) (st' := [(0, 0)]) (by decide +kernel) rfl ?_
        refine zwW_ret (nx := 143) (a := 1) (b := 0) (by decide +kernel) rfl (Or.inr (Or.inl ⟨rfl, Or.inl rfl⟩)) ?_
        exact ⟨C, X.le (by decide) (by decide), by omega⟩
      · refine zwW_p [(1, 0, 2)] (q := 96) (ls' := [(2, 9), (0, a)]) (st' := [(2, 9)]) (by decide +kernel) rfl ?_
        refine zwW_gs C.1 (kd := 7) (bn := 4) (n := 9) (t := 0) (lo := -2147483648) (hi := 2147483647) (nx := 99) (by decide +kernel) ?_
        intro v6 ev6 lv6 uv6
        refine zwW_p [(0, 40, 0)] (q := 101) (ls' := [(2, 9), (0, a)]) (st' := [(0, 40), (0, v6)]) (by decide +kernel) rfl ?_
        refine zwic_ne (q := 141) (nx := 104) (by decide +kernel) (fun c7 => ?_) (fun c7 => ?_)
        · refine zwW_p [(0, 0, 0)] (q := 142) (ls' := [(2, 9), (0, a)]) (st' := [(0, 0)]) (by decide +kernel) rfl ?_
          refine zwW_ret (nx := 143) (a := 1) (b := 0) (by decide +kernel) rfl (Or.inr (Or.inl ⟨rfl, Or.inl rfl⟩)) ?_
          exact ⟨C, X.le (by decide) (by decide), by omega⟩
        · refine zwW_p [(1, 0, 2)] (q := 105) (ls' := [(2, 9), (0, a)]) (st' := [(2, 9)]) (by decide +kernel) rfl ?_
          refine zwW_cm C.1 (op := 60) (k' := 198) (n := 0) (kd := 7) (m := 9) (nx := 108) (r := 9) (tl := []) (st' := []) (by decide +kernel) rfl (by decide +kernel) (Nat.ble_eq_true_of_le (by omega)) (x198 h C) ?_
          rintro v9 h10 ⟨Ch10, Qh10, f8⟩
          have Xh10 : zXR msxK (0) (0) h h10 := X.tr (c2 := 0) (s2 := 0) Qh10 (by decide +kernel) (by decide) (by decide)
          refine zwif_eq (q := 141) (nx := 111) (by decide +kernel) (fun c11 => ?_) (fun c11 => ?_)
          · refine zwW_p [(0, 0, 0)] (q := 142) (ls' := [(2, 9), (0, a)]) (st' := [(0, 0)]) (by decide +kernel) rfl ?_
            refine zwW_ret (nx := 143) (a := 1) (b := 0) (by decide +kernel) rfl (Or.inr (Or.inl ⟨rfl, Or.inl rfl⟩)) ?_
            exact ⟨Ch10, Xh10.le (by decide) (by decide), by omega⟩
          · refine zwW_p [(1, 0, 2), (1, 1, 0), (0, 1, 0)] (q := 114) (ls' := [(2, 9), (0, a)]) (st' := [(0, 1), (0, a), (2, 9)]) (by decide +kernel) rfl ?_
            refine zwW_add (nx := 115) (by decide +kernel) (by first | omega | exact ⟨by omega, by omega⟩) ?_
            refine zwW_cm Ch10.1 (op := 60) (k' := 241) (n := 1) (kd := 7) (m := 9) (nx := 118) (r := 9) (tl := [(0, (a + 1))]) (st' := []) (by decide +kernel) rfl (by decide +kernel) (Nat.ble_eq_true_of_le (by omega)) (HS (by omega) h10 Ch10) ?_
            rintro v13 h14 ⟨Ch14, Qh14, f12⟩
            have Xh14 : zXR msxK (0) (0) h h14 := Xh10.tr (c2 := 0) (s2 := 0) Qh14 (by decide +kernel) (by decide) (by decide)
            refine zwif_eq (q := 141) (nx := 121) (by decide +kernel) (fun c15 => ?_) (fun c15 => ?_)
            · refine zwW_p [(0, 0, 0)] (q := 142) (ls' := [(2, 9), (0, a)]) (st' := [(0, 0)]) (by decide +kernel) rfl ?_
              refine zwW_ret (nx := 143) (a := 1) (b := 0) (by decide +kernel) rfl (Or.inr (Or.inl ⟨rfl, Or.inl rfl⟩)) ?_
              exact ⟨Ch14, Xh14.le (by decide) (by decide), by omega⟩
            · refine zwW_p [(1, 0, 2)] (q := 122) (ls' := [(2, 9), (0, a)]) (st' := [(2, 9)]) (by decide +kernel) rfl ?_
              refine zwW_gs Ch14.1 (kd := 7) (bn := 4) (n := 9) (t := 0) (lo := -2147483648) (hi := 2147483647) (nx := 125) (by decide +kernel) ?_
              intro v16 ev16 lv16 uv16
              refine zwW_p [(0, 41, 0)] (q := 127) (ls' := [(2, 9), (0, a)]) (st' := [(0, 41), (0, v16)]) (by decide +kernel) rfl ?_
              refine zwic_ne (q := 141) (nx := 130) (by decide +kernel) (fun c17 => ?_) (fun c17 => ?_)
              · refine zwW_p [(0, 0, 0)] (q := 142) (ls' := [(2, 9), (0, a)]) (st' := [(0, 0)]) (by decide +kernel) rfl ?_
                refine zwW_ret (nx := 143) (a := 1) (b := 0) (by decide +kernel) rfl (Or.inr (Or.inl ⟨rfl, Or.inl rfl⟩)) ?_
                exact ⟨Ch14, Xh14.le (by decide) (by decide), by omega⟩
              · refine zwW_p [(1, 0, 2)] (q := 131) (ls' := [(2, 9), (0, a)]) (st' := [(2, 9)]) (by decide +kernel) rfl ?_
                refine zwW_cm Ch14.1 (op := 60) (k' := 198) (n := 0) (kd := 7) (m := 9) (nx := 134) (r := 9) (tl := []) (st' := []) (by decide +kernel) rfl (by decide +kernel) (Nat.ble_eq_true_of_le (by omega)) (x198 h14 Ch14) ?_
                rintro v19 h20 ⟨Ch20, Qh20, f18⟩
                have Xh20 : zXR msxK (0) (0) h h20 := Xh14.tr (c2 := 0) (s2 := 0) Qh20 (by decide +kernel) (by decide) (by decide)
                refine zwif_eq (q := 141) (nx := 137) (by decide +kernel) (fun c21 => ?_) (fun c21 => ?_)
                · refine zwW_p [(0, 0, 0)] (q := 142) (ls' := [(2, 9), (0, a)]) (st' := [(0, 0)]) (by decide +kernel) rfl ?_
                  refine zwW_ret (nx := 143) (a := 1) (b := 0) (by decide +kernel) rfl (Or.inr (Or.inl ⟨rfl, Or.inl rfl⟩)) ?_
                  exact ⟨Ch20, Xh20.le (by decide) (by decide), by omega⟩
                · refine zwW_p [(0, 1, 0), (24, 142, 0)] (q := 142) (ls' := [(2, 9), (0, a)]) (st' := [(0, 1)]) (by decide +kernel) rfl ?_
                  refine zwW_ret (nx := 143) (a := 1) (b := 0) (by decide +kernel) rfl (Or.inr (Or.inl ⟨rfl, Or.inr rfl⟩)) ?_
                  exact ⟨Ch20, Xh20.le (by decide) (by decide), by omega⟩
    · refine zwW_p [(1, 0, 2)] (q := 51) (ls' := [(2, 9), (0, a)]) (st' := [(2, 9)]) (by decide +kernel) rfl ?_
      refine zwW_gs C.1 (kd := 7) (bn := 5) (n := 9) (t := 0) (lo := -2147483648) (hi := 2147483647) (nx := 54) (by decide +kernel) ?_
      intro v22 ev22 lv22 uv22
      refine zwW_p [(0, 0, 0), (0, 12, 0)] (q := 57) (ls' := [(2, 9), (0, a)]) (st' := [(0, 12), (0, 0), (0, v22)]) (by decide +kernel) rfl ?_
      refine zwW_cs (k' := 98) (n := 3) (nx := 60) (as := [(0, v22), (0, 0), (0, 12)]) (st' := []) (by decide +kernel) rfl (x98 h C v22 0 12 (by omega) (by omega) (by omega)) (Nat.ble_eq_true_of_le (by omega)) ?_
      rintro x _ ⟨rfl, ⟨rfl, c23⟩ | ⟨rfl, c23⟩⟩
      · refine zwif_ne (q := 89) (nx := 63) (by decide +kernel) (fun c24 => ?_) (fun c24 => ?_)
        · refine zwW_p [(1, 1, 0), (0, 8, 0)] (q := 92) (ls' := [(2, 9), (0, a)]) (st' := [(0, 8), (0, a)]) (by decide +kernel) rfl ?_
          refine zwic_ge (q := 141) (nx := 95) (by decide +kernel) (fun c25 => ?_) (fun c25 => ?_)
          · refine zwW_p [(0, 0, 0)] (q := 142) (ls' := [(2, 9), (0, a)]) (st' := [(0, 0)]) (by decide +kernel) rfl ?_
            refine zwW_ret (nx := 143) (a := 1) (b := 0) (by decide +kernel) rfl (Or.inr (Or.inl ⟨rfl, Or.inl rfl⟩)) ?_
            exact ⟨C, X.le (by decide) (by decide), by omega⟩
          · refine zwW_p [(1, 0, 2)] (q := 96) (ls' := [(2, 9), (0, a)]) (st' := [(2, 9)]) (by decide +kernel) rfl ?_
            refine zwW_gs C.1 (kd := 7) (bn := 4) (n := 9) (t := 0) (lo := -2147483648) (hi := 2147483647) (nx := 99) (by decide +kernel) ?_
            intro v26 ev26 lv26 uv26
            refine zwW_p [(0, 40, 0)] (q := 101) (ls' := [(2, 9), (0, a)]) (st' := [(0, 40), (0, v26)]) (by decide +kernel) rfl ?_
            refine zwic_ne (q := 141) (nx := 104) (by decide +kernel) (fun c27 => ?_) (fun c27 => ?_)
            · refine zwW_p [(0, 0, 0)] (q := 142) (ls' := [(2, 9), (0, a)]) (st' := [(0, 0)]) (by decide +kernel) rfl ?_
              refine zwW_ret (nx := 143) (a := 1) (b := 0) (by decide +kernel) rfl (Or.inr (Or.inl ⟨rfl, Or.inl rfl⟩)) ?_
              exact ⟨C, X.le (by decide) (by decide), by omega⟩
            · refine zwW_p [(1, 0, 2)] (q := 105) (ls' := [(2, 9), (0, a)]) (st' := [(2, 9)]) (by decide +kernel) rfl ?_
              refine zwW_cm C.1 (op := 60) (k' := 198) (n := 0) (kd := 7) (m := 9) (nx := 108) (r := 9) (tl := []) (st' := []) (by decide +kernel) rfl (by decide +kernel) (Nat.ble_eq_true_of_le (by omega)) (x198 h C) ?_
              rintro v29 h30 ⟨Ch30, Qh30, f28⟩
              have Xh30 : zXR msxK (0) (0) h h30 := X.tr (c2 := 0) (s2 := 0) Qh30 (by decide +kernel) (by decide) (by decide)
              refine zwif_eq (q := 141) (nx := 111) (by decide +kernel) (fun c31 => ?_) (fun c31 => ?_)
              · refine zwW_p [(0, 0, 0)] (q := 142) (ls' := [(2, 9), (0, a)]) (st' := [(0, 0)]) (by decide +kernel) rfl ?_
                refine zwW_ret (nx := 143) (a := 1) (b := 0) (by decide +kernel) rfl (Or.inr (Or.inl ⟨rfl, Or.inl rfl⟩)) ?_
                exact ⟨Ch30, Xh30.le (by decide) (by decide), by omega⟩
              · refine zwW_p [(1, 0, 2), (1, 1, 0), (0, 1, 0)] (q := 114) (ls' := [(2, 9), (0, a)]) (st' := [(0, 1), (0, a), (2, 9)]) (by decide +kernel) rfl ?_
                refine zwW_add (nx := 115) (by decide +kernel) (by first | omega | exact ⟨by omega, by omega⟩) ?_
                refine zwW_cm Ch30.1 (op := 60) (k' := 241) (n := 1) (kd := 7) (m := 9) (nx := 118) (r := 9) (tl := [(0, (a + 1))]) (st' := []) (by decide +kernel) rfl (by decide +kernel) (Nat.ble_eq_true_of_le (by omega)) (HS (by omega) h30 Ch30) ?_
                rintro v33 h34 ⟨Ch34, Qh34, f32⟩
                have Xh34 : zXR msxK (0) (0) h h34 := Xh30.tr (c2 := 0) (s2 := 0) Qh34 (by decide +kernel) (by decide) (by decide)
                refine zwif_eq (q := 141) (nx := 121) (by decide +kernel) (fun c35 => ?_) (fun c35 => ?_)
                · refine zwW_p [(0, 0, 0)] (q := 142) (ls' := [(2, 9), (0, a)]) (st' := [(0, 0)]) (by decide +kernel) rfl ?_
                  refine zwW_ret (nx := 143) (a := 1) (b := 0) (by decide +kernel) rfl (Or.inr (Or.inl ⟨rfl, Or.inl rfl⟩)) ?_
                  exact ⟨Ch34, Xh34.le (by decide) (by decide), by omega⟩
                · refine zwW_p [(1, 0, 2)] (q := 122) (ls' := [(2, 9), (0, a)]) (st' := [(2, 9)]) (by decide +kernel) rfl ?_
                  refine zwW_gs Ch34.1 (kd := 7) (bn := 4) (n := 9) (t := 0) (lo := -2147483648) (hi := 2147483647) (nx := 125) (by decide +kernel) ?_
                  intro v36 ev36 lv36 uv36
                  refine zwW_p [(0, 41, 0)] (q := 127) (ls' := [(2, 9), (0, a)]) (st' := [(0, 41), (0, v36)]) (by decide +kernel) rfl ?_
                  refine zwic_ne (q := 141) (nx := 130) (by decide +kernel) (fun c37 => ?_) (fun c37 => ?_)
                  · refine zwW_p [(0, 0, 0)] (q := 142) (ls' := [(2, 9), (0, a)]) (st' := [(0, 0)]) (by decide +kernel) rfl ?_
                    refine zwW_ret (nx := 143) (a := 1) (b := 0) (by decide +kernel) rfl (Or.inr (Or.inl ⟨rfl, Or.inl rfl⟩)) ?_
                    exact ⟨Ch34, Xh34.le (by decide) (by decide), by omega⟩
                  · refine zwW_p [(1, 0, 2)] (q := 131) (ls' := [(2, 9), (0, a)]) (st' := [(2, 9)]) (by decide +kernel) rfl ?_
                    refine zwW_cm Ch34.1 (op := 60) (k' := 198) (n := 0) (kd := 7) (m := 9) (nx := 134) (r := 9) (tl := []) (st' := []) (by decide +kernel) rfl (by decide +kernel) (Nat.ble_eq_true_of_le (by omega)) (x198 h34 Ch34) ?_
                    rintro v39 h40 ⟨Ch40, Qh40, f38⟩
                    have Xh40 : zXR msxK (0) (0) h h40 := Xh34.tr (c2 := 0) (s2 := 0) Qh40 (by decide +kernel) (by decide) (by decide)
                    refine zwif_eq (q := 141) (nx := 137) (by decide +kernel) (fun c41 => ?_) (fun c41 => ?_)
                    · refine zwW_p [(0, 0, 0)] (q := 142) (ls' := [(2, 9), (0, a)]) (st' := [(0, 0)]) (by decide +kernel) rfl ?_
                      refine zwW_ret (nx := 143) (a := 1) (b := 0) (by decide +kernel) rfl (Or.inr (Or.inl ⟨rfl, Or.inl rfl⟩)) ?_
                      exact ⟨Ch40, Xh40.le (by decide) (by decide), by omega⟩
                    · refine zwW_p [(0, 1, 0), (24, 142, 0)] (q := 142) (ls' := [(2, 9), (0, a)]) (st' := [(0, 1)]) (by decide +kernel) rfl ?_
                      refine zwW_ret (nx := 143) (a := 1) (b := 0) (by decide +kernel) rfl (Or.inr (Or.inl ⟨rfl, Or.inr rfl⟩)) ?_
                      exact ⟨Ch40, Xh40.le (by decide) (by decide), by omega⟩
        · exfalso; omega
      · refine zwif_ne (q := 89) (nx := 63) (by decide +kernel) (fun c42 => ?_) (fun c42 => ?_)
        · exfalso; omega
        · refine zwW_p [(1, 0, 2), (0, -1, 0), (1, 0, 2)] (q := 66) (ls' := [(2, 9), (0, a)]) (st' := [(2, 9), (0, -1), (2, 9)]) (by decide +kernel) rfl ?_
          refine zwW_gs C.1 (kd := 7) (bn := 5) (n := 9) (t := 0) (lo := -2147483648) (hi := 2147483647) (nx := 69) (by decide +kernel) ?_
          intro v43 ev43 lv43 uv43
          refine zwW_sub (nx := 70) (by decide +kernel) (by first | omega | exact ⟨by omega, by omega⟩) ?_
          refine zwW_cm C.1 (op := 60) (k' := 243) (n := 1) (kd := 7) (m := 9) (nx := 73) (r := 9) (tl := [(0, (-1 - v43))]) (st' := []) (by decide +kernel) rfl (by decide +kernel) (Nat.ble_eq_true_of_le (by omega)) (x243 h C (-1 - v43) (by omega)) ?_
          rintro v45 h46 ⟨Ch46, Qh46, f44⟩
          have Xh46 : zXR msxK (0) (0) h h46 := X.tr (c2 := 0) (s2 := 0) Qh46 (by decide +kernel) (by decide) (by decide)
          refine zwif_eq (q := 87) (nx := 76) (by decide +kernel) (fun c47 => ?_) (fun c47 => ?_)
          · refine zwW_p [(0, 0, 0)] (q := 88) (ls' := [(2, 9), (0, a)]) (st' := [(0, 0)]) (by decide +kernel) rfl ?_
            refine zwW_ret (nx := 89) (a := 1) (b := 0) (by decide +kernel) rfl (Or.inr (Or.inl ⟨rfl, Or.inl rfl⟩)) ?_
            exact ⟨Ch46, Xh46.le (by decide) (by decide), by omega⟩
          · refine zwW_p [(1, 0, 2)] (q := 77) (ls' := [(2, 9), (0, a)]) (st' := [(2, 9)]) (by decide +kernel) rfl ?_
            refine zwW_cm Ch46.1 (op := 60) (k' := 198) (n := 0) (kd := 7) (m := 9) (nx := 80) (r := 9) (tl := []) (st' := []) (by decide +kernel) rfl (by decide +kernel) (Nat.ble_eq_true_of_le (by omega)) (x198 h46 Ch46) ?_
            rintro v49 h50 ⟨Ch50, Qh50, f48⟩
            have Xh50 : zXR msxK (0) (0) h h50 := Xh46.tr (c2 := 0) (s2 := 0) Qh50 (by decide +kernel) (by decide) (by decide)
            refine zwif_eq (q := 87) (nx := 83) (by decide +kernel) (fun c51 => ?_) (fun c51 => ?_)
            · refine zwW_p [(0, 0, 0)] (q := 88) (ls' := [(2, 9), (0, a)]) (st' := [(0, 0)]) (by decide +kernel) rfl ?_
              refine zwW_ret (nx := 89) (a := 1) (b := 0) (by decide +kernel) rfl (Or.inr (Or.inl ⟨rfl, Or.inl rfl⟩)) ?_
              exact ⟨Ch50, Xh50.le (by decide) (by decide), by omega⟩
            · refine zwW_p [(0, 1, 0), (24, 88, 0)] (q := 88) (ls' := [(2, 9), (0, a)]) (st' := [(0, 1)]) (by decide +kernel) rfl ?_
              refine zwW_ret (nx := 89) (a := 1) (b := 0) (by decide +kernel) rfl (Or.inr (Or.inl ⟨rfl, Or.inr rfl⟩)) ?_
              exact ⟨Ch50, Xh50.le (by decide) (by decide), by omega⟩
  · refine zwW_p [(1, 0, 2)] (q := 9) (ls' := [(2, 9), (0, a)]) (st' := [(2, 9)]) (by decide +kernel) rfl ?_
    refine zwW_gs C.1 (kd := 7) (bn := 5) (n := 9) (t := 0) (lo := -2147483648) (hi := 2147483647) (nx := 12) (by decide +kernel) ?_
    intro v52 ev52 lv52 uv52
    refine zwW_p [(0, 9999, 0)] (q := 15) (ls' := [(2, 9), (0, a)]) (st' := [(0, 9999), (0, v52)]) (by decide +kernel) rfl ?_
    refine zwic_gt (q := 42) (nx := 18) (by decide +kernel) (fun c53 => ?_) (fun c53 => ?_)
    · refine zwW_p [(1, 0, 2)] (q := 43) (ls' := [(2, 9), (0, a)]) (st' := [(2, 9)]) (by decide +kernel) rfl ?_
      refine zwW_gs C.1 (kd := 7) (bn := 4) (n := 9) (t := 0) (lo := -2147483648) (hi := 2147483647) (nx := 46) (by decide +kernel) ?_
      intro v54 ev54 lv54 uv54
      refine zwW_p [(0, 1, 0)] (q := 47) (ls' := [(2, 9), (0, a)]) (st' := [(0, 1), (0, v54)]) (by decide +kernel) rfl ?_
      refine zwic_ne (q := 89) (nx := 50) (by decide +kernel) (fun c55 => ?_) (fun c55 => ?_)
      · refine zwW_p [(1, 1, 0), (0, 8, 0)] (q := 92) (ls' := [(2, 9), (0, a)]) (st' := [(0, 8), (0, a)]) (by decide +kernel) rfl ?_
        refine zwic_ge (q := 141) (nx := 95) (by decide +kernel) (fun c56 => ?_) (fun c56 => ?_)
        · refine zwW_p [(0, 0, 0)] (q := 142) (ls' := [(2, 9), (0, a)]) (st' := [(0, 0)]) (by decide +kernel) rfl ?_
          refine zwW_ret (nx := 143) (a := 1) (b := 0) (by decide +kernel) rfl (Or.inr (Or.inl ⟨rfl, Or.inl rfl⟩)) ?_
          exact ⟨C, X.le (by decide) (by decide), by omega⟩
        · refine zwW_p [(1, 0, 2)] (q := 96) (ls' := [(2, 9), (0, a)]) (st' := [(2, 9)]) (by decide +kernel) rfl ?_
          refine zwW_gs C.1 (kd := 7) (bn := 4) (n := 9) (t := 0) (lo := -2147483648) (hi := 2147483647) (nx := 99) (by decide +kernel) ?_
          intro v57 ev57 lv57 uv57
          refine zwW_p [(0, 40, 0)] (q := 101) (ls' := [(2, 9), (0, a)]) (st' := [(0, 40), (0, v57)]) (by decide +kernel) rfl ?_
          refine zwic_ne (q := 141) (nx := 104) (by decide +kernel) (fun c58 => ?_) (fun c58 => ?_)
          · refine zwW_p [(0, 0, 0)] (q := 142) (ls' := [(2, 9), (0, a)]) (st' := [(0, 0)]) (by decide +kernel) rfl ?_
            refine zwW_ret (nx := 143) (a := 1) (b := 0) (by decide +kernel) rfl (Or.inr (Or.inl ⟨rfl, Or.inl rfl⟩)) ?_
            exact ⟨C, X.le (by decide) (by decide), by omega⟩
          · refine zwW_p [(1, 0, 2)] (q := 105) (ls' := [(2, 9), (0, a)]) (st' := [(2, 9)]) (by decide +kernel) rfl ?_
            refine zwW_cm C.1 (op := 60) (k' := 198) (n := 0) (kd := 7) (m := 9) (nx := 108) (r := 9) (tl := []) (st' := []) (by decide +kernel) rfl (by decide +kernel) (Nat.ble_eq_true_of_le (by omega)) (x198 h C) ?_
            rintro v60 h61 ⟨Ch61, Qh61, f59⟩
            have Xh61 : zXR msxK (0) (0) h h61 := X.tr (c2 := 0) (s2 := 0) Qh61 (by decide +kernel) (by decide) (by decide)
            refine zwif_eq (q := 141) (nx := 111) (by decide +kernel) (fun c62 => ?_) (fun c62 => ?_)
            · refine zwW_p [(0, 0, 0)] (q := 142) (ls' := [(2, 9), (0, a)]) (st' := [(0, 0)]) (by decide +kernel) rfl ?_
              refine zwW_ret (nx := 143) (a := 1) (b := 0) (by decide +kernel) rfl (Or.inr (Or.inl ⟨rfl, Or.inl rfl⟩)) ?_
              exact ⟨Ch61, Xh61.le (by decide) (by decide), by omega⟩
            · refine zwW_p [(1, 0, 2), (1, 1, 0), (0, 1, 0)] (q := 114) (ls' := [(2, 9), (0, a)]) (st' := [(0, 1), (0, a), (2, 9)]) (by decide +kernel) rfl ?_
              refine zwW_add (nx := 115) (by decide +kernel) (by first | omega | exact ⟨by omega, by omega⟩) ?_
              refine zwW_cm Ch61.1 (op := 60) (k' := 241) (n := 1) (kd := 7) (m := 9) (nx := 118) (r := 9) (tl := [(0, (a + 1))]) (st' := []) (by decide +kernel) rfl (by decide +kernel) (Nat.ble_eq_true_of_le (by omega)) (HS (by omega) h61 Ch61) ?_
              rintro v64 h65 ⟨Ch65, Qh65, f63⟩
              have Xh65 : zXR msxK (0) (0) h h65 := Xh61.tr (c2 := 0) (s2 := 0) Qh65 (by decide +kernel) (by decide) (by decide)
              refine zwif_eq (q := 141) (nx := 121) (by decide +kernel) (fun c66 => ?_) (fun c66 => ?_)
              · refine zwW_p [(0, 0, 0)] (q := 142) (ls' := [(2, 9), (0, a)]) (st' := [(0, 0)]) (by decide +kernel) rfl ?_
                refine zwW_ret (nx := 143) (a := 1) (b := 0) (by decide +kernel) rfl (Or.inr (Or.inl ⟨rfl, Or.inl rfl⟩)) ?_
                exact ⟨Ch65, Xh65.le (by decide) (by decide), by omega⟩
              · refine zwW_p [(1, 0, 2)] (q := 122) (ls' := [(2, 9), (0, a)]) (st' := [(2, 9)]) (by decide +kernel) rfl ?_
                refine zwW_gs Ch65.1 (kd := 7) (bn := 4) (n := 9) (t := 0) (lo := -2147483648) (hi := 2147483647) (nx := 125) (by decide +kernel) ?_
                intro v67 ev67 lv67 uv67
                refine zwW_p [(0, 41, 0)] (q := 127) (ls' := [(2, 9), (0, a)]) (st' := [(0, 41), (0, v67)]) (by decide +kernel) rfl ?_
                refine zwic_ne (q := 141) (nx := 130) (by decide +kernel) (fun c68 => ?_) (fun c68 => ?_)
                · refine zwW_p [(0, 0, 0)] (q := 142) (ls' := [(2, 9), (0, a)]) (st' := [(0, 0)]) (by decide +kernel) rfl ?_
                  refine zwW_ret (nx := 143) (a := 1) (b := 0) (by decide +kernel) rfl (Or.inr (Or.inl ⟨rfl, Or.inl rfl⟩)) ?_
                  exact ⟨Ch65, Xh65.le (by decide) (by decide), by omega⟩
                · refine zwW_p [(1, 0, 2)] (q := 131) (ls' := [(2, 9), (0, a)]) (st' := [(2, 9)]) (by decide +kernel) rfl ?_
                  refine zwW_cm Ch65.1 (op := 60) (k' := 198) (n := 0) (kd := 7) (m := 9) (nx := 134) (r := 9) (tl := []) (st' := []) (by decide +kernel) rfl (by decide +kernel) (Nat.ble_eq_true_of_le (by omega)) (x198 h65 Ch65) ?_
                  rintro v70 h71 ⟨Ch71, Qh71, f69⟩
                  have Xh71 : zXR msxK (0) (0) h h71 := Xh65.tr (c2 := 0) (s2 := 0) Qh71 (by decide +kernel) (by decide) (by decide)
                  refine zwif_eq (q := 141) (nx := 137) (by decide +kernel) (fun c72 => ?_) (fun c72 => ?_)
                  · refine zwW_p [(0, 0, 0)] (q := 142) (ls' := [(2, 9), (0, a)]) (st' := [(0, 0)]) (by decide +kernel) rfl ?_
                    refine zwW_ret (nx := 143) (a := 1) (b := 0) (by decide +kernel) rfl (Or.inr (Or.inl ⟨rfl, Or.inl rfl⟩)) ?_
                    exact ⟨Ch71, Xh71.le (by decide) (by decide), by omega⟩
                  · refine zwW_p [(0, 1, 0), (24, 142, 0)] (q := 142) (ls' := [(2, 9), (0, a)]) (st' := [(0, 1)]) (by decide +kernel) rfl ?_
                    refine zwW_ret (nx := 143) (a := 1) (b := 0) (by decide +kernel) rfl (Or.inr (Or.inl ⟨rfl, Or.inr rfl⟩)) ?_
                    exact ⟨Ch71, Xh71.le (by decide) (by decide), by omega⟩
      · refine zwW_p [(1, 0, 2)] (q := 51) (ls' := [(2, 9), (0, a)]) (st' := [(2, 9)]) (by decide +kernel) rfl ?_
        refine zwW_gs C.1 (kd := 7) (bn := 5) (n := 9) (t := 0) (lo := -2147483648) (hi := 2147483647) (nx := 54) (by decide +kernel) ?_
        intro v73 ev73 lv73 uv73
        refine zwW_p [(0, 0, 0), (0, 12, 0)] (q := 57) (ls' := [(2, 9), (0, a)]) (st' := [(0, 12), (0, 0), (0, v73)]) (by decide +kernel) rfl ?_
        refine zwW_cs (k' := 98) (n := 3) (nx := 60) (as := [(0, v73), (0, 0), (0, 12)]) (st' := []) (by decide +kernel) rfl (x98 h C v73 0 12 (by omega) (by omega) (by omega)) (Nat.ble_eq_true_of_le (by omega)) ?_
        rintro x _ ⟨rfl, ⟨rfl, c74⟩ | ⟨rfl, c74⟩⟩
        · refine zwif_ne (q := 89) (nx := 63) (by decide +kernel) (fun c75 => ?_) (fun c75 => ?_)
          · refine zwW_p [(1, 1, 0), (0, 8, 0)] (q := 92) (ls' := [(2, 9), (0, a)]) (st' := [(0, 8), (0, a)]) (by decide +kernel) rfl ?_
            refine zwic_ge (q := 141) (nx := 95) (by decide +kernel) (fun c76 => ?_) (fun c76 => ?_)
            · refine zwW_p [(0, 0, 0)] (q := 142) (ls' := [(2, 9), (0, a)]) (st' := [(0, 0)]) (by decide +kernel) rfl ?_
              refine zwW_ret (nx := 143) (a := 1) (b := 0) (by decide +kernel) rfl (Or.inr (Or.inl ⟨rfl, Or.inl rfl⟩)) ?_
              exact ⟨C, X.le (by decide) (by decide), by omega⟩
            · refine zwW_p [(1, 0, 2)] (q := 96) (ls' := [(2, 9), (0, a)]) (st' := [(2, 9)]) (by decide +kernel) rfl ?_
              refine zwW_gs C.1 (kd := 7) (bn := 4) (n := 9) (t := 0) (lo := -2147483648) (hi := 2147483647) (nx := 99) (by decide +kernel) ?_
              intro v77 ev77 lv77 uv77
              refine zwW_p [(0, 40, 0)] (q := 101) (ls' := [(2, 9), (0, a)]) (st' := [(0, 40), (0, v77)]) (by decide +kernel) rfl ?_
              refine zwic_ne (q := 141) (nx := 104) (by decide +kernel) (fun c78 => ?_) (fun c78 => ?_)
              · refine zwW_p [(0, 0, 0)] (q := 142) (ls' := [(2, 9), (0, a)]) (st' := [(0, 0)]) (by decide +kernel) rfl ?_
                refine zwW_ret (nx := 143) (a := 1) (b := 0) (by decide +kernel) rfl (Or.inr (Or.inl ⟨rfl, Or.inl rfl⟩)) ?_
                exact ⟨C, X.le (by decide) (by decide), by omega⟩
              · refine zwW_p [(1, 0, 2)] (q := 105) (ls' := [(2, 9), (0, a)]) (st' := [(2, 9)]) (by decide +kernel) rfl ?_
                refine zwW_cm C.1 (op := 60) (k' := 198) (n := 0) (kd := 7) (m := 9) (nx := 108) (r := 9) (tl := []) (st' := []) (by decide +kernel) rfl (by decide +kernel) (Nat.ble_eq_true_of_le (by omega)) (x198 h C) ?_
                rintro v80 h81 ⟨Ch81, Qh81, f79⟩
                have Xh81 : zXR msxK (0) (0) h h81 := X.tr (c2 := 0) (s2 := 0) Qh81 (by decide +kernel) (by decide) (by decide)
                refine zwif_eq (q := 141) (nx := 111) (by decide +kernel) (fun c82 => ?_) (fun c82 => ?_)
                · refine zwW_p [(0, 0, 0)] (q := 142) (ls' := [(2, 9), (0, a)]) (st' := [(0, 0)]) (by decide +kernel) rfl ?_
                  refine zwW_ret (nx := 143) (a := 1) (b := 0) (by decide +kernel) rfl (Or.inr (Or.inl ⟨rfl, Or.inl rfl⟩)) ?_
                  exact ⟨Ch81, Xh81.le (by decide) (by decide), by omega⟩
                · refine zwW_p [(1, 0, 2), (1, 1, 0), (0, 1, 0)] (q := 114) (ls' := [(2, 9), (0, a)]) (st' := [(0, 1), (0, a), (2, 9)]) (by decide +kernel) rfl ?_
                  refine zwW_add (nx := 115) (by decide +kernel) (by first | omega | exact ⟨by omega, by omega⟩) ?_
                  refine zwW_cm Ch81.1 (op := 60) (k' := 241) (n := 1) (kd := 7) (m := 9) (nx := 118) (r := 9) (tl := [(0, (a + 1))]) (st' := []) (by decide +kernel) rfl (by decide +kernel) (Nat.ble_eq_true_of_le (by omega)) (HS (by omega) h81 Ch81) ?_
                  rintro v84 h85 ⟨Ch85, Qh85, f83⟩
                  have Xh85 : zXR msxK (0) (0) h h85 := Xh81.tr (c2 := 0) (s2 := 0) Qh85 (by decide +kernel) (by decide) (by decide)
                  refine zwif_eq (q := 141) (nx := 121) (by decide +kernel) (fun c86 => ?_) (fun c86 => ?_)
                  · refine zwW_p [(0, 0, 0)] (q := 142) (ls' := [(2, 9), (0, a)]) (st' := [(0, 0)]) (by decide +kernel) rfl ?_
                    refine zwW_ret (nx := 143) (a := 1) (b := 0) (by decide +kernel) rfl (Or.inr (Or.inl ⟨rfl, Or.inl rfl⟩)) ?_
                    exact ⟨Ch85, Xh85.le (by decide) (by decide), by omega⟩
                  · refine zwW_p [(1, 0, 2)] (q := 122) (ls' := [(2, 9), (0, a)]) (st' := [(2, 9)]) (by decide +kernel) rfl ?_
                    refine zwW_gs Ch85.1 (kd := 7) (bn := 4) (n := 9) (t := 0) (lo := -2147483648) (hi := 2147483647) (nx := 125) (by decide +kernel) ?_
                    intro v87 ev87 lv87 uv87
                    refine zwW_p [(0, 41, 0)] (q := 127) (ls' := [(2, 9), (0, a)]) (st' := [(0, 41), (0, v87)]) (by decide +kernel) rfl ?_
                    refine zwic_ne (q := 141) (nx := 130) (by decide +kernel) (fun c88 => ?_) (fun c88 => ?_)
                    · refine zwW_p [(0, 0, 0)] (q := 142) (ls' := [(2, 9), (0, a)]) (st' := [(0, 0)]) (by decide +kernel) rfl ?_
                      refine zwW_ret (nx := 143) (a := 1) (b := 0) (by decide +kernel) rfl (Or.inr (Or.inl ⟨rfl, Or.inl rfl⟩)) ?_
                      exact ⟨Ch85, Xh85.le (by decide) (by decide), by omega⟩
                    · refine zwW_p [(1, 0, 2)] (q := 131) (ls' := [(2, 9), (0, a)]) (st' := [(2, 9)]) (by decide +kernel) rfl ?_
                      refine zwW_cm Ch85.1 (op := 60) (k' := 198) (n := 0) (kd := 7) (m := 9) (nx := 134) (r := 9) (tl := []) (st' := []) (by decide +kernel) rfl (by decide +kernel) (Nat.ble_eq_true_of_le (by omega)) (x198 h85 Ch85) ?_
                      rintro v90 h91 ⟨Ch91, Qh91, f89⟩
                      have Xh91 : zXR msxK (0) (0) h h91 := Xh85.tr (c2 := 0) (s2 := 0) Qh91 (by decide +kernel) (by decide) (by decide)
                      refine zwif_eq (q := 141) (nx := 137) (by decide +kernel) (fun c92 => ?_) (fun c92 => ?_)
                      · refine zwW_p [(0, 0, 0)] (q := 142) (ls' := [(2, 9), (0, a)]) (st' := [(0, 0)]) (by decide +kernel) rfl ?_
                        refine zwW_ret (nx := 143) (a := 1) (b := 0) (by decide +kernel) rfl (Or.inr (Or.inl ⟨rfl, Or.inl rfl⟩)) ?_
                        exact ⟨Ch91, Xh91.le (by decide) (by decide), by omega⟩
                      · refine zwW_p [(0, 1, 0), (24, 142, 0)] (q := 142) (ls' := [(2, 9), (0, a)]) (st' := [(0, 1)]) (by decide +kernel) rfl ?_
                        refine zwW_ret (nx := 143) (a := 1) (b := 0) (by decide +kernel) rfl (Or.inr (Or.inl ⟨rfl, Or.inr rfl⟩)) ?_
                        exact ⟨Ch91, Xh91.le (by decide) (by decide), by omega⟩
          · exfalso; omega
        · refine zwif_ne (q := 89) (nx := 63) (by decide +kernel) (fun c93 => ?_) (fun c93 => ?_)
          · exfalso; omega
          · refine zwW_p [(1, 0, 2), (0, -1, 0), (1, 0, 2)] (q := 66) (ls' := [(2, 9), (0, a)]) (st' := [(2, 9), (0, -1), (2, 9)]) (by decide +kernel) rfl ?_
            refine zwW_gs C.1 (kd := 7) (bn := 5) (n := 9) (t := 0) (lo := -2147483648) (hi := 2147483647) (nx := 69) (by decide +kernel) ?_
            intro v94 ev94 lv94 uv94
            refine zwW_sub (nx := 70) (by decide +kernel) (by first | omega | exact ⟨by omega, by omega⟩) ?_
            refine zwW_cm C.1 (op := 60) (k' := 243) (n := 1) (kd := 7) (m := 9) (nx := 73) (r := 9) (tl := [(0, (-1 - v94))]) (st' := []) (by decide +kernel) rfl (by decide +kernel) (Nat.ble_eq_true_of_le (by omega)) (x243 h C (-1 - v94) (by omega)) ?_
            rintro v96 h97 ⟨Ch97, Qh97, f95⟩
            have Xh97 : zXR msxK (0) (0) h h97 := X.tr (c2 := 0) (s2 := 0) Qh97 (by decide +kernel) (by decide) (by decide)
            refine zwif_eq (q := 87) (nx := 76) (by decide +kernel) (fun c98 => ?_) (fun c98 => ?_)
            · refine zwW_p [(0, 0, 0)] (q := 88) (ls' := [(2, 9), (0, a)]) (st' := [(0, 0)]) (by decide +kernel) rfl ?_
              refine zwW_ret (nx := 89) (a := 1) (b := 0) (by decide +kernel) rfl (Or.inr (Or.inl ⟨rfl, Or.inl rfl⟩)) ?_
              exact ⟨Ch97, Xh97.le (by decide) (by decide), by omega⟩
            · refine zwW_p [(1, 0, 2)] (q := 77) (ls' := [(2, 9), (0, a)]) (st' := [(2, 9)]) (by decide +kernel) rfl ?_
              refine zwW_cm Ch97.1 (op := 60) (k' := 198) (n := 0) (kd := 7) (m := 9) (nx := 80) (r := 9) (tl := []) (st' := []) (by decide +kernel) rfl (by decide +kernel) (Nat.ble_eq_true_of_le (by omega)) (x198 h97 Ch97) ?_
              rintro v100 h101 ⟨Ch101, Qh101, f99⟩
              have Xh101 : zXR msxK (0) (0) h h101 := Xh97.tr (c2 := 0) (s2 := 0) Qh101 (by decide +kernel) (by decide) (by decide)
              refine zwif_eq (q := 87) (nx := 83) (by decide +kernel) (fun c102 => ?_) (fun c102 => ?_)
              · refine zwW_p [(0, 0, 0)] (q := 88) (ls' := [(2, 9), (0, a)]) (st' := [(0, 0)]) (by decide +kernel) rfl ?_
                refine zwW_ret (nx := 89) (a := 1) (b := 0) (by decide +kernel) rfl (Or.inr (Or.inl ⟨rfl, Or.inl rfl⟩)) ?_
                exact ⟨Ch101, Xh101.le (by decide) (by decide), by omega⟩
              · refine zwW_p [(0, 1, 0), (24, 88, 0)] (q := 88) (ls' := [(2, 9), (0, a)]) (st' := [(0, 1)]) (by decide +kernel) rfl ?_
                refine zwW_ret (nx := 89) (a := 1) (b := 0) (by decide +kernel) rfl (Or.inr (Or.inl ⟨rfl, Or.inr rfl⟩)) ?_
                exact ⟨Ch101, Xh101.le (by decide) (by decide), by omega⟩
    · refine zwW_p [(1, 0, 2), (1, 0, 2)] (q := 20) (ls' := [(2, 9), (0, a)]) (st' := [(2, 9), (2, 9)]) (by decide +kernel) rfl ?_
      refine zwW_gs C.1 (kd := 7) (bn := 5) (n := 9) (t := 0) (lo := -2147483648) (hi := 2147483647) (nx := 23) (by decide +kernel) ?_
      intro v103 ev103 lv103 uv103
      refine zwW_cm C.1 (op := 60) (k' := 243) (n := 1) (kd := 7) (m := 9) (nx := 26) (r := 9) (tl := [(0, v103)]) (st' := []) (by decide +kernel) rfl (by decide +kernel) (Nat.ble_eq_true_of_le (by omega)) (x243 h C v103 (by omega)) ?_
      rintro v105 h106 ⟨Ch106, Qh106, f104⟩
      have Xh106 : zXR msxK (0) (0) h h106 := X.tr (c2 := 0) (s2 := 0) Qh106 (by decide +kernel) (by decide) (by decide)
      refine zwif_eq (q := 40) (nx := 29) (by decide +kernel) (fun c107 => ?_) (fun c107 => ?_)
      · refine zwW_p [(0, 0, 0)] (q := 41) (ls' := [(2, 9), (0, a)]) (st' := [(0, 0)]) (by decide +kernel) rfl ?_
        refine zwW_ret (nx := 42) (a := 1) (b := 0) (by decide +kernel) rfl (Or.inr (Or.inl ⟨rfl, Or.inl rfl⟩)) ?_
        exact ⟨Ch106, Xh106.le (by decide) (by decide), by omega⟩
      · refine zwW_p [(1, 0, 2)] (q := 30) (ls' := [(2, 9), (0, a)]) (st' := [(2, 9)]) (by decide +kernel) rfl ?_
        refine zwW_cm Ch106.1 (op := 60) (k' := 198) (n := 0) (kd := 7) (m := 9) (nx := 33) (r := 9) (tl := []) (st' := []) (by decide +kernel) rfl (by decide +kernel) (Nat.ble_eq_true_of_le (by omega)) (x198 h106 Ch106) ?_
        rintro v109 h110 ⟨Ch110, Qh110, f108⟩
        have Xh110 : zXR msxK (0) (0) h h110 := Xh106.tr (c2 := 0) (s2 := 0) Qh110 (by decide +kernel) (by decide) (by decide)
        refine zwif_eq (q := 40) (nx := 36) (by decide +kernel) (fun c111 => ?_) (fun c111 => ?_)
        · refine zwW_p [(0, 0, 0)] (q := 41) (ls' := [(2, 9), (0, a)]) (st' := [(0, 0)]) (by decide +kernel) rfl ?_
          refine zwW_ret (nx := 42) (a := 1) (b := 0) (by decide +kernel) rfl (Or.inr (Or.inl ⟨rfl, Or.inl rfl⟩)) ?_
          exact ⟨Ch110, Xh110.le (by decide) (by decide), by omega⟩
        · refine zwW_p [(0, 1, 0), (24, 41, 0)] (q := 41) (ls' := [(2, 9), (0, a)]) (st' := [(0, 1)]) (by decide +kernel) rfl ?_
          refine zwW_ret (nx := 42) (a := 1) (b := 0) (by decide +kernel) rfl (Or.inr (Or.inl ⟨rfl, Or.inr rfl⟩)) ?_
          exact ⟨Ch110, Xh110.le (by decide) (by decide), by omega⟩
-- WheelLand$Reader.product(I)Z
theorem x262 {sc : List Int} (a : Int) (D0 : Nat) (pa : 0 ≤ a ∧ a ≤ 8) (HS : a < 8 → zKX sc D0 241 (a + 1)) : zKX sc (D0 + 21) 262 a := by
  intro h C
  refine zwC_of (D := D0 + 20) 5 (by decide +kernel) rfl (ls := [(2, 9), (0, a), (9, 0), (9, 0), (9, 0)]) rfl ?_
  have X : zXR msxK 0 0 h h := zXR.rf _ _
  refine zwW_p [(1, 0, 2), (1, 1, 0)] (q := 2) (ls' := [(2, 9), (0, a), (9, 0), (9, 0), (9, 0)]) (st' := [(0, a), (2, 9)]) (by decide +kernel) rfl ?_
  refine zwW_cm C.1 (op := 60) (k' := 280) (n := 1) (kd := 7) (m := 9) (nx := 5) (r := 9) (tl := [(0, a)]) (st' := []) (by decide +kernel) rfl (by decide +kernel) (Nat.ble_eq_true_of_le (by omega)) (x280 a D0 pa HS h C) ?_
  rintro v2 h3 ⟨Ch3, Qh3, f1⟩
  have Xh3 : zXR msxK (0) (0) h h3 := X.tr (c2 := 0) (s2 := 0) Qh3 (by decide +kernel) (by decide) (by decide)
  refine zwW_p [(2, 2, 0), (0, 0, 0), (2, 3, 0)] (q := 8) (ls' := [(2, 9), (0, a), (0, v2), (0, 0), (9, 0)]) (st' := []) (by decide +kernel) rfl ?_
  have L4 : ∀ (n : Nat) (v2L4 v3L4 : Int) (w4L4 : Vl) (hL4 : Hp), n = ((1000 - v3L4)).toNat → (0 ≤ v2L4 ∧ v2L4 ≤ 1) → (0 ≤ v3L4 ∧ v3L4 ≤ 1000) → CI hL4 → zXR msxK (0) (0) h hL4 → zwW sc (D0 + 20) 262 8 [(2, 9), (0, a), (0, v2L4), (0, v3L4), w4L4] [] hL4 (zwRt 0 (fun x g => CI g ∧ zXR msxK (0) (0) h g ∧ (0 ≤ x ∧ x ≤ 1))) := by
    intro n
    induction n using Nat.strongRecOn with
    | ind n IHL4 =>
      intro v2L4 v3L4 w4L4 hL4 hnL4 iL4_0 iL4_1 ChL4 XhL4
      refine zwW_p [(1, 3, 0), (0, 400, 0)] (q := 12) (ls' := [(2, 9), (0, a), (0, v2L4), (0, v3L4), w4L4]) (st' := [(0, 400), (0, v3L4)]) (by decide +kernel) rfl ?_
      refine zwic_ge (q := 78) (nx := 15) (by decide +kernel) (fun c5 => ?_) (fun c5 => ?_)
      · refine zwW_p [(1, 2, 0)] (q := 79) (ls' := [(2, 9), (0, a), (0, v2L4), (0, v3L4), w4L4]) (st' := [(0, v2L4)]) (by decide +kernel) rfl ?_
        refine zwW_ret (nx := 80) (a := 1) (b := 0) (by decide +kernel) rfl (Or.inr (Or.inl ⟨rfl, by omega⟩)) ?_
        exact ⟨ChL4, XhL4.le (by decide) (by decide), by omega⟩
      · refine zwW_p [(1, 2, 0)] (q := 16) (ls' := [(2, 9), (0, a), (0, v2L4), (0, v3L4), w4L4]) (st' := [(0, v2L4)]) (by decide +kernel) rfl ?_
        refine zwif_eq (q := 78) (nx := 19) (by decide +kernel) (fun c6 => ?_) (fun c6 => ?_)
        · refine zwW_p [(1, 2, 0)] (q := 79) (ls' := [(2, 9), (0, a), (0, v2L4), (0, v3L4), w4L4]) (st' := [(0, v2L4)]) (by decide +kernel) rfl ?_
          refine zwW_ret (nx := 80) (a := 1) (b := 0) (by decide +kernel) rfl (Or.inr (Or.inl ⟨rfl, by omega⟩)) ?_
          exact ⟨ChL4, XhL4.le (by decide) (by decide), by omega⟩
        · refine zwW_p [(1, 0, 2)] (q := 20) (ls' := [(2, 9), (0, a), (0, v2L4), (0, v3L4), w4L4]) (st' := [(2, 9)]) (by decide +kernel) rfl ?_
          refine zwW_gs ChL4.1 (kd := 7) (bn := 4) (n := 9) (t := 0) (lo := -2147483648) (hi := 2147483647) (nx := 23) (by decide +kernel) ?_
          intro v7 ev7 lv7 uv7
          refine zwW_p [(0, 42, 0)] (q := 25) (ls' := [(2, 9), (0, a), (0, v2L4), (0, v3L4), w4L4]) (st' := [(0, 42), (0, v7)]) (by decide +kernel) rfl ?_
          refine zwic_eq (q := 37) (nx := 28) (by decide +kernel) (fun c8 => ?_) (fun c8 => ?_)
          · refine zwW_p [(1, 0, 2)] (q := 38) (ls' := [(2, 9), (0, a), (0, v2L4), (0, v3L4), w4L4]) (st' := [(2, 9)]) (by decide +kernel) rfl ?_
            refine zwW_gs ChL4.1 (kd := 7) (bn := 4) (n := 9) (t := 0) (lo := -2147483648) (hi := 2147483647) (nx := 41) (by decide +kernel) ?_
            intro v9 ev9 lv9 uv9
            refine zwW_p [(2, 4, 0), (1, 0, 2)] (q := 44) (ls' := [(2, 9), (0, a), (0, v2L4), (0, v3L4), (0, v9)]) (st' := [(2, 9)]) (by decide +kernel) rfl ?_
            refine zwW_cm ChL4.1 (op := 60) (k' := 198) (n := 0) (kd := 7) (m := 9) (nx := 47) (r := 9) (tl := []) (st' := []) (by decide +kernel) rfl (by decide +kernel) (Nat.ble_eq_true_of_le (by omega)) (x198 hL4 ChL4) ?_
            rintro v11 h12 ⟨Ch12, Qh12, f10⟩
            have Xh12 : zXR msxK (0) (0) h h12 := XhL4.tr (c2 := 0) (s2 := 0) Qh12 (by decide +kernel) (by decide) (by decide)
            refine zwW_p [(15, 0, 0), (1, 0, 2), (1, 1, 0)] (q := 50) (ls' := [(2, 9), (0, a), (0, v2L4), (0, v3L4), (0, v9)]) (st' := [(0, a), (2, 9)]) (by decide +kernel) rfl ?_
            refine zwW_cm Ch12.1 (op := 60) (k' := 280) (n := 1) (kd := 7) (m := 9) (nx := 53) (r := 9) (tl := [(0, a)]) (st' := []) (by decide +kernel) rfl (by decide +kernel) (Nat.ble_eq_true_of_le (by omega)) (x280 a D0 pa HS h12 Ch12) ?_
            rintro v14 h15 ⟨Ch15, Qh15, f13⟩
            have Xh15 : zXR msxK (0) (0) h h15 := Xh12.tr (c2 := 0) (s2 := 0) Qh15 (by decide +kernel) (by decide) (by decide)
            refine zwif_eq (q := 70) (nx := 56) (by decide +kernel) (fun c16 => ?_) (fun c16 => ?_)
            · refine zwW_p [(0, 0, 0), (2, 2, 0)] (q := 72) (ls' := [(2, 9), (0, a), (0, 0), (0, v3L4), (0, v9)]) (st' := []) (by decide +kernel) rfl ?_
              refine zwW_inc (i := 3) (c := 1) (x := v3L4) (nx := 75) (by decide +kernel) rfl (by first | omega | exact ⟨by omega, by omega⟩) (ls' := [(2, 9), (0, a), (0, 0), (0, (v3L4 + 1)), (0, v9)]) rfl ?_
              refine zwW_p [(24, 8, 0)] (q := 8) (ls' := [(2, 9), (0, a), (0, 0), (0, (v3L4 + 1)), (0, v9)]) (st' := []) (by decide +kernel) rfl ?_
              exact IHL4 ((1000 - (v3L4 + 1))).toNat (by omega) 0 (v3L4 + 1) (0, v9) h15 rfl (by omega) (by omega) Ch15 (Xh15.le (by decide) (by decide))
            · refine zwW_p [(1, 0, 2), (1, 4, 0)] (q := 59) (ls' := [(2, 9), (0, a), (0, v2L4), (0, v3L4), (0, v9)]) (st' := [(0, v9), (2, 9)]) (by decide +kernel) rfl ?_
              refine zwW_ngw (nx := 60) (by decide +kernel) ?_
              intro v17 ev17 lv17 uv17
              refine zwW_cm Ch15.1 (op := 60) (k' := 243) (n := 1) (kd := 7) (m := 9) (nx := 63) (r := 9) (tl := [(0, v17)]) (st' := []) (by decide +kernel) rfl (by decide +kernel) (Nat.ble_eq_true_of_le (by omega)) (x243 h15 Ch15 v17 (by omega)) ?_
              rintro v19 h20 ⟨Ch20, Qh20, f18⟩
              have Xh20 : zXR msxK (0) (0) h h20 := Xh15.tr (c2 := 0) (s2 := 0) Qh20 (by decide +kernel) (by decide) (by decide)
              refine zwif_eq (q := 70) (nx := 66) (by decide +kernel) (fun c21 => ?_) (fun c21 => ?_)
              · refine zwW_p [(0, 0, 0), (2, 2, 0)] (q := 72) (ls' := [(2, 9), (0, a), (0, 0), (0, v3L4), (0, v9)]) (st' := []) (by decide +kernel) rfl ?_
                refine zwW_inc (i := 3) (c := 1) (x := v3L4) (nx := 75) (by decide +kernel) rfl (by first | omega | exact ⟨by omega, by omega⟩) (ls' := [(2, 9), (0, a), (0, 0), (0, (v3L4 + 1)), (0, v9)]) rfl ?_
                refine zwW_p [(24, 8, 0)] (q := 8) (ls' := [(2, 9), (0, a), (0, 0), (0, (v3L4 + 1)), (0, v9)]) (st' := []) (by decide +kernel) rfl ?_
                exact IHL4 ((1000 - (v3L4 + 1))).toNat (by omega) 0 (v3L4 + 1) (0, v9) h20 rfl (by omega) (by omega) Ch20 (Xh20.le (by decide) (by decide))
              · refine zwW_p [(0, 1, 0), (24, 71, 0), (2, 2, 0)] (q := 72) (ls' := [(2, 9), (0, a), (0, 1), (0, v3L4), (0, v9)]) (st' := []) (by decide +kernel) rfl ?_
                refine zwW_inc (i := 3) (c := 1) (x := v3L4) (nx := 75) (by decide +kernel) rfl (by first | omega | exact ⟨by omega, by omega⟩) (ls' := [(2, 9), (0, a), (0, 1), (0, (v3L4 + 1)), (0, v9)]) rfl ?_
                refine zwW_p [(24, 8, 0)] (q := 8) (ls' := [(2, 9), (0, a), (0, 1), (0, (v3L4 + 1)), (0, v9)]) (st' := []) (by decide +kernel) rfl ?_
                exact IHL4 ((1000 - (v3L4 + 1))).toNat (by omega) 1 (v3L4 + 1) (0, v9) h20 rfl (by omega) (by omega) Ch20 (Xh20.le (by decide) (by decide))
          · refine zwW_p [(1, 0, 2)] (q := 29) (ls' := [(2, 9), (0, a), (0, v2L4), (0, v3L4), w4L4]) (st' := [(2, 9)]) (by decide +kernel) rfl ?_
            refine zwW_gs ChL4.1 (kd := 7) (bn := 4) (n := 9) (t := 0) (lo := -2147483648) (hi := 2147483647) (nx := 32) (by decide +kernel) ?_
            intro v22 ev22 lv22 uv22
            refine zwW_p [(0, 47, 0)] (q := 34) (ls' := [(2, 9), (0, a), (0, v2L4), (0, v3L4), w4L4]) (st' := [(0, 47), (0, v22)]) (by decide +kernel) rfl ?_
            refine zwic_ne (q := 78) (nx := 37) (by decide +kernel) (fun c23 => ?_) (fun c23 => ?_)
            · refine zwW_p [(1, 2, 0)] (q := 79) (ls' := [(2, 9), (0, a), (0, v2L4), (0, v3L4), w4L4]) (st' := [(0, v2L4)]) (by decide +kernel) rfl ?_
              refine zwW_ret (nx := 80) (a := 1) (b := 0) (by decide +kernel) rfl (Or.inr (Or.inl ⟨rfl, by omega⟩)) ?_
              exact ⟨ChL4, XhL4.le (by decide) (by decide), by omega⟩
            · refine zwW_p [(1, 0, 2)] (q := 38) (ls' := [(2, 9), (0, a), (0, v2L4), (0, v3L4), w4L4]) (st' := [(2, 9)]) (by decide +kernel) rfl ?_
              refine zwW_gs ChL4.1 (kd := 7) (bn := 4) (n := 9) (t := 0) (lo := -2147483648) (hi := 2147483647) (nx := 41) (by decide +kernel) ?_
              intro v24 ev24 lv24 uv24
              refine zwW_p [(2, 4, 0), (1, 0, 2)] (q := 44) (ls' := [(2, 9), (0, a), (0, v2L4), (0, v3L4), (0, v24)]) (st' := [(2, 9)]) (by decide +kernel) rfl ?_
              refine zwW_cm ChL4.1 (op := 60) (k' := 198) (n := 0) (kd := 7) (m := 9) (nx := 47) (r := 9) (tl := []) (st' := []) (by decide +kernel) rfl (by decide +kernel) (Nat.ble_eq_true_of_le (by omega)) (x198 hL4 ChL4) ?_
              rintro v26 h27 ⟨Ch27, Qh27, f25⟩
              have Xh27 : zXR msxK (0) (0) h h27 := XhL4.tr (c2 := 0) (s2 := 0) Qh27 (by decide +kernel) (by decide) (by decide)
              refine zwW_p [(15, 0, 0), (1, 0, 2), (1, 1, 0)] (q := 50) (ls' := [(2, 9), (0, a), (0, v2L4), (0, v3L4), (0, v24)]) (st' := [(0, a), (2, 9)]) (by decide +kernel) rfl ?_
              refine zwW_cm Ch27.1 (op := 60) (k' := 280) (n := 1) (kd := 7) (m := 9) (nx := 53) (r := 9) (tl := [(0, a)]) (st' := []) (by decide +kernel) rfl (by decide +kernel) (Nat.ble_eq_true_of_le (by omega)) (x280 a D0 pa HS h27 Ch27) ?_
              rintro v29 h30 ⟨Ch30, Qh30, f28⟩
              have Xh30 : zXR msxK (0) (0) h h30 := Xh27.tr (c2 := 0) (s2 := 0) Qh30 (by decide +kernel) (by decide) (by decide)
              refine zwif_eq (q := 70) (nx := 56) (by decide +kernel) (fun c31 => ?_) (fun c31 => ?_)
              · refine zwW_p [(0, 0, 0), (2, 2, 0)] (q := 72) (ls' := [(2, 9), (0, a), (0, 0), (0, v3L4), (0, v24)]) (st' := []) (by decide +kernel) rfl ?_
                refine zwW_inc (i := 3) (c := 1) (x := v3L4) (nx := 75) (by decide +kernel) rfl (by first | omega | exact ⟨by omega, by omega⟩) (ls' := [(2, 9), (0, a), (0, 0), (0, (v3L4 + 1)), (0, v24)]) rfl ?_
                refine zwW_p [(24, 8, 0)] (q := 8) (ls' := [(2, 9), (0, a), (0, 0), (0, (v3L4 + 1)), (0, v24)]) (st' := []) (by decide +kernel) rfl ?_
                exact IHL4 ((1000 - (v3L4 + 1))).toNat (by omega) 0 (v3L4 + 1) (0, v24) h30 rfl (by omega) (by omega) Ch30 (Xh30.le (by decide) (by decide))
              · refine zwW_p [(1, 0, 2), (1, 4, 0)] (q := 59) (ls' := [(2, 9), (0, a), (0, v2L4), (0, v3L4), (0, v24)]) (st' := [(0, v24), (2, 9)]) (by decide +kernel) rfl ?_
                refine zwW_ngw (nx := 60) (by decide +kernel) ?_
                intro v32 ev32 lv32 uv32
                refine zwW_cm Ch30.1 (op := 60) (k' := 243) (n := 1) (kd := 7) (m := 9) (nx := 63) (r := 9) (tl := [(0, v32)]) (st' := []) (by decide +kernel) rfl (by decide +kernel) (Nat.ble_eq_true_of_le (by omega)) (x243 h30 Ch30 v32 (by omega)) ?_
                rintro v34 h35 ⟨Ch35, Qh35, f33⟩
                have Xh35 : zXR msxK (0) (0) h h35 := Xh30.tr (c2 := 0) (s2 := 0) Qh35 (by decide +kernel) (by decide) (by decide)
                refine zwif_eq (q := 70) (nx := 66) (by decide +kernel) (fun c36 => ?_) (fun c36 => ?_)
                · refine zwW_p [(0, 0, 0), (2, 2, 0)] (q := 72) (ls' := [(2, 9), (0, a), (0, 0), (0, v3L4), (0, v24)]) (st' := []) (by decide +kernel) rfl ?_
                  refine zwW_inc (i := 3) (c := 1) (x := v3L4) (nx := 75) (by decide +kernel) rfl (by first | omega | exact ⟨by omega, by omega⟩) (ls' := [(2, 9), (0, a), (0, 0), (0, (v3L4 + 1)), (0, v24)]) rfl ?_
                  refine zwW_p [(24, 8, 0)] (q := 8) (ls' := [(2, 9), (0, a), (0, 0), (0, (v3L4 + 1)), (0, v24)]) (st' := []) (by decide +kernel) rfl ?_
                  exact IHL4 ((1000 - (v3L4 + 1))).toNat (by omega) 0 (v3L4 + 1) (0, v24) h35 rfl (by omega) (by omega) Ch35 (Xh35.le (by decide) (by decide))
                · refine zwW_p [(0, 1, 0), (24, 71, 0), (2, 2, 0)] (q := 72) (ls' := [(2, 9), (0, a), (0, 1), (0, v3L4), (0, v24)]) (st' := []) (by decide +kernel) rfl ?_
                  refine zwW_inc (i := 3) (c := 1) (x := v3L4) (nx := 75) (by decide +kernel) rfl (by first | omega | exact ⟨by omega, by omega⟩) (ls' := [(2, 9), (0, a), (0, 1), (0, (v3L4 + 1)), (0, v24)]) rfl ?_
                  refine zwW_p [(24, 8, 0)] (q := 8) (ls' := [(2, 9), (0, a), (0, 1), (0, (v3L4 + 1)), (0, v24)]) (st' := []) (by decide +kernel) rfl ?_
                  exact IHL4 ((1000 - (v3L4 + 1))).toNat (by omega) 1 (v3L4 + 1) (0, v24) h35 rfl (by omega) (by omega) Ch35 (Xh35.le (by decide) (by decide))
  exact L4 _ v2 0 (9, 0) h3 rfl (by omega) (by omega) Ch3 (Xh3.le (by decide) (by decide))
-- WheelLand$Reader.sum(I)Z
theorem x241 {sc : List Int} (a : Int) (D0 : Nat) (pa : 0 ≤ a ∧ a ≤ 8) (HS : a < 8 → zKX sc D0 241 (a + 1)) : zKX sc (D0 + 22) 241 a := by
  intro h C
  refine zwC_of (D := D0 + 21) 5 (by decide +kernel) rfl (ls := [(2, 9), (0, a), (9, 0), (9, 0), (9, 0)]) rfl ?_
  have X : zXR msxK 0 0 h h := zXR.rf _ _
  refine zwW_p [(1, 0, 2), (1, 1, 0)] (q := 2) (ls' := [(2, 9), (0, a), (9, 0), (9, 0), (9, 0)]) (st' := [(0, a), (2, 9)]) (by decide +kernel) rfl ?_
  refine zwW_cm C.1 (op := 60) (k' := 262) (n := 1) (kd := 7) (m := 9) (nx := 5) (r := 9) (tl := [(0, a)]) (st' := []) (by decide +kernel) rfl (by decide +kernel) (Nat.ble_eq_true_of_le (by omega)) (x262 a D0 pa HS h C) ?_
  rintro v2 h3 ⟨Ch3, Qh3, f1⟩
  have Xh3 : zXR msxK (0) (0) h h3 := X.tr (c2 := 0) (s2 := 0) Qh3 (by decide +kernel) (by decide) (by decide)
  refine zwW_p [(2, 2, 0), (0, 0, 0), (2, 3, 0)] (q := 8) (ls' := [(2, 9), (0, a), (0, v2), (0, 0), (9, 0)]) (st' := []) (by decide +kernel) rfl ?_
  have L4 : ∀ (n : Nat) (v2L4 v3L4 : Int) (w4L4 : Vl) (hL4 : Hp), n = ((1000 - v3L4)).toNat → (0 ≤ v2L4 ∧ v2L4 ≤ 1) → (0 ≤ v3L4 ∧ v3L4 ≤ 1000) → CI hL4 → zXR msxK (0) (0) h hL4 → zwW sc (D0 + 21) 241 8 [(2, 9), (0, a), (0, v2L4), (0, v3L4), w4L4] [] hL4 (zwRt 0 (fun x g => CI g ∧ zXR msxK (0) (0) h g ∧ (0 ≤ x ∧ x ≤ 1))) := by
    intro n
    induction n using Nat.strongRecOn with
    | ind n IHL4 =>
      intro v2L4 v3L4 w4L4 hL4 hnL4 iL4_0 iL4_1 ChL4 XhL4
      refine zwW_p [(1, 3, 0), (0, 400, 0)] (q := 12) (ls' := [(2, 9), (0, a), (0, v2L4), (0, v3L4), w4L4]) (st' := [(0, 400), (0, v3L4)]) (by decide +kernel) rfl ?_
      refine zwic_ge (q := 78) (nx := 15) (by decide +kernel) (fun c5 => ?_) (fun c5 => ?_)
      · refine zwW_p [(1, 2, 0)] (q := 79) (ls' := [(2, 9), (0, a), (0, v2L4), (0, v3L4), w4L4]) (st' := [(0, v2L4)]) (by decide +kernel) rfl ?_
        refine zwW_ret (nx := 80) (a := 1) (b := 0) (by decide +kernel) rfl (Or.inr (Or.inl ⟨rfl, by omega⟩)) ?_
        exact ⟨ChL4, XhL4.le (by decide) (by decide), by omega⟩
      · refine zwW_p [(1, 2, 0)] (q := 16) (ls' := [(2, 9), (0, a), (0, v2L4), (0, v3L4), w4L4]) (st' := [(0, v2L4)]) (by decide +kernel) rfl ?_
        refine zwif_eq (q := 78) (nx := 19) (by decide +kernel) (fun c6 => ?_) (fun c6 => ?_)
        · refine zwW_p [(1, 2, 0)] (q := 79) (ls' := [(2, 9), (0, a), (0, v2L4), (0, v3L4), w4L4]) (st' := [(0, v2L4)]) (by decide +kernel) rfl ?_
          refine zwW_ret (nx := 80) (a := 1) (b := 0) (by decide +kernel) rfl (Or.inr (Or.inl ⟨rfl, by omega⟩)) ?_
          exact ⟨ChL4, XhL4.le (by decide) (by decide), by omega⟩
        · refine zwW_p [(1, 0, 2)] (q := 20) (ls' := [(2, 9), (0, a), (0, v2L4), (0, v3L4), w4L4]) (st' := [(2, 9)]) (by decide +kernel) rfl ?_
          refine zwW_gs ChL4.1 (kd := 7) (bn := 4) (n := 9) (t := 0) (lo := -2147483648) (hi := 2147483647) (nx := 23) (by decide +kernel) ?_
          intro v7 ev7 lv7 uv7
          refine zwW_p [(0, 43, 0)] (q := 25) (ls' := [(2, 9), (0, a), (0, v2L4), (0, v3L4), w4L4]) (st' := [(0, 43), (0, v7)]) (by decide +kernel) rfl ?_
          refine zwic_eq (q := 37) (nx := 28) (by decide +kernel) (fun c8 => ?_) (fun c8 => ?_)
          · refine zwW_p [(1, 0, 2)] (q := 38) (ls' := [(2, 9), (0, a), (0, v2L4), (0, v3L4), w4L4]) (st' := [(2, 9)]) (by decide +kernel) rfl ?_
            refine zwW_gs ChL4.1 (kd := 7) (bn := 4) (n := 9) (t := 0) (lo := -2147483648) (hi := 2147483647) (nx := 41) (by decide +kernel) ?_
            intro v9 ev9 lv9 uv9
            refine zwW_p [(2, 4, 0), (1, 0, 2)] (q := 44) (ls' := [(2, 9), (0, a), (0, v2L4), (0, v3L4), (0, v9)]) (st' := [(2, 9)]) (by decide +kernel) rfl ?_
            refine zwW_cm ChL4.1 (op := 60) (k' := 198) (n := 0) (kd := 7) (m := 9) (nx := 47) (r := 9) (tl := []) (st' := []) (by decide +kernel) rfl (by decide +kernel) (Nat.ble_eq_true_of_le (by omega)) (x198 hL4 ChL4) ?_
            rintro v11 h12 ⟨Ch12, Qh12, f10⟩
            have Xh12 : zXR msxK (0) (0) h h12 := XhL4.tr (c2 := 0) (s2 := 0) Qh12 (by decide +kernel) (by decide) (by decide)
            refine zwW_p [(15, 0, 0), (1, 0, 2), (1, 1, 0)] (q := 50) (ls' := [(2, 9), (0, a), (0, v2L4), (0, v3L4), (0, v9)]) (st' := [(0, a), (2, 9)]) (by decide +kernel) rfl ?_
            refine zwW_cm Ch12.1 (op := 60) (k' := 262) (n := 1) (kd := 7) (m := 9) (nx := 53) (r := 9) (tl := [(0, a)]) (st' := []) (by decide +kernel) rfl (by decide +kernel) (Nat.ble_eq_true_of_le (by omega)) (x262 a D0 pa HS h12 Ch12) ?_
            rintro v14 h15 ⟨Ch15, Qh15, f13⟩
            have Xh15 : zXR msxK (0) (0) h h15 := Xh12.tr (c2 := 0) (s2 := 0) Qh15 (by decide +kernel) (by decide) (by decide)
            refine zwif_eq (q := 70) (nx := 56) (by decide +kernel) (fun c16 => ?_) (fun c16 => ?_)
            · refine zwW_p [(0, 0, 0), (2, 2, 0)] (q := 72) (ls' := [(2, 9), (0, a), (0, 0), (0, v3L4), (0, v9)]) (st' := []) (by decide +kernel) rfl ?_
              refine zwW_inc (i := 3) (c := 1) (x := v3L4) (nx := 75) (by decide +kernel) rfl (by first | omega | exact ⟨by omega, by omega⟩) (ls' := [(2, 9), (0, a), (0, 0), (0, (v3L4 + 1)), (0, v9)]) rfl ?_
              refine zwW_p [(24, 8, 0)] (q := 8) (ls' := [(2, 9), (0, a), (0, 0), (0, (v3L4 + 1)), (0, v9)]) (st' := []) (by decide +kernel) rfl ?_
              exact IHL4 ((1000 - (v3L4 + 1))).toNat (by omega) 0 (v3L4 + 1) (0, v9) h15 rfl (by omega) (by omega) Ch15 (Xh15.le (by decide) (by decide))
            · refine zwW_p [(1, 0, 2), (1, 4, 0)] (q := 59) (ls' := [(2, 9), (0, a), (0, v2L4), (0, v3L4), (0, v9)]) (st' := [(0, v9), (2, 9)]) (by decide +kernel) rfl ?_
              refine zwW_ngw (nx := 60) (by decide +kernel) ?_
              intro v17 ev17 lv17 uv17
              refine zwW_cm Ch15.1 (op := 60) (k' := 243) (n := 1) (kd := 7) (m := 9) (nx := 63) (r := 9) (tl := [(0, v17)]) (st' := []) (by decide +kernel) rfl (by decide +kernel) (Nat.ble_eq_true_of_le (by omega)) (x243 h15 Ch15 v17 (by omega)) ?_
              rintro v19 h20 ⟨Ch20, Qh20, f18⟩
              have Xh20 : zXR msxK (0) (0) h h20 := Xh15.tr (c2 := 0) (s2 := 0) Qh20 (by decide +kernel) (by decide) (by decide)
              refine zwif_eq (q := 70) (nx := 66) (by decide +kernel) (fun c21 => ?_) (fun c21 => ?_)
              · refine zwW_p [(0, 0, 0), (2, 2, 0)] (q := 72) (ls' := [(2, 9), (0, a), (0, 0), (0, v3L4), (0, v9)]) (st' := []) (by decide +kernel) rfl ?_
                refine zwW_inc (i := 3) (c := 1) (x := v3L4) (nx := 75) (by decide +kernel) rfl (by first | omega | exact ⟨by omega, by omega⟩) (ls' := [(2, 9), (0, a), (0, 0), (0, (v3L4 + 1)), (0, v9)]) rfl ?_
                refine zwW_p [(24, 8, 0)] (q := 8) (ls' := [(2, 9), (0, a), (0, 0), (0, (v3L4 + 1)), (0, v9)]) (st' := []) (by decide +kernel) rfl ?_
                exact IHL4 ((1000 - (v3L4 + 1))).toNat (by omega) 0 (v3L4 + 1) (0, v9) h20 rfl (by omega) (by omega) Ch20 (Xh20.le (by decide) (by decide))
              · refine zwW_p [(0, 1, 0), (24, 71, 0), (2, 2, 0)] (q := 72) (ls' := [(2, 9), (0, a), (0, 1), (0, v3L4), (0, v9)]) (st' := []) (by decide +kernel) rfl ?_
                refine zwW_inc (i := 3) (c := 1) (x := v3L4) (nx := 75) (by decide +kernel) rfl (by first | omega | exact ⟨by omega, by omega⟩) (ls' := [(2, 9), (0, a), (0, 1), (0, (v3L4 + 1)), (0, v9)]) rfl ?_
                refine zwW_p [(24, 8, 0)] (q := 8) (ls' := [(2, 9), (0, a), (0, 1), (0, (v3L4 + 1)), (0, v9)]) (st' := []) (by decide +kernel) rfl ?_
                exact IHL4 ((1000 - (v3L4 + 1))).toNat (by omega) 1 (v3L4 + 1) (0, v9) h20 rfl (by omega) (by omega) Ch20 (Xh20.le (by decide) (by decide))
          · refine zwW_p [(1, 0, 2)] (q := 29) (ls' := [(2, 9), (0, a), (0, v2L4), (0, v3L4), w4L4]) (st' := [(2, 9)]) (by decide +kernel) rfl ?_
            refine zwW_gs ChL4.1 (kd := 7) (bn := 4) (n := 9) (t := 0) (lo := -2147483648) (hi := 2147483647) (nx := 32) (by decide +kernel) ?_
            intro v22 ev22 lv22 uv22
            refine zwW_p [(0, 45, 0)] (q := 34) (ls' := [(2, 9), (0, a), (0, v2L4), (0, v3L4), w4L4]) (st' := [(0, 45), (0, v22)]) (by decide +kernel) rfl ?_
            refine zwic_ne (q := 78) (nx := 37) (by decide +kernel) (fun c23 => ?_) (fun c23 => ?_)
            · refine zwW_p [(1, 2, 0)] (q := 79) (ls' := [(2, 9), (0, a), (0, v2L4), (0, v3L4), w4L4]) (st' := [(0, v2L4)]) (by decide +kernel) rfl ?_
              refine zwW_ret (nx := 80) (a := 1) (b := 0) (by decide +kernel) rfl (Or.inr (Or.inl ⟨rfl, by omega⟩)) ?_
              exact ⟨ChL4, XhL4.le (by decide) (by decide), by omega⟩
            · refine zwW_p [(1, 0, 2)] (q := 38) (ls' := [(2, 9), (0, a), (0, v2L4), (0, v3L4), w4L4]) (st' := [(2, 9)]) (by decide +kernel) rfl ?_
              refine zwW_gs ChL4.1 (kd := 7) (bn := 4) (n := 9) (t := 0) (lo := -2147483648) (hi := 2147483647) (nx := 41) (by decide +kernel) ?_
              intro v24 ev24 lv24 uv24
              refine zwW_p [(2, 4, 0), (1, 0, 2)] (q := 44) (ls' := [(2, 9), (0, a), (0, v2L4), (0, v3L4), (0, v24)]) (st' := [(2, 9)]) (by decide +kernel) rfl ?_
              refine zwW_cm ChL4.1 (op := 60) (k' := 198) (n := 0) (kd := 7) (m := 9) (nx := 47) (r := 9) (tl := []) (st' := []) (by decide +kernel) rfl (by decide +kernel) (Nat.ble_eq_true_of_le (by omega)) (x198 hL4 ChL4) ?_
              rintro v26 h27 ⟨Ch27, Qh27, f25⟩
              have Xh27 : zXR msxK (0) (0) h h27 := XhL4.tr (c2 := 0) (s2 := 0) Qh27 (by decide +kernel) (by decide) (by decide)
              refine zwW_p [(15, 0, 0), (1, 0, 2), (1, 1, 0)] (q := 50) (ls' := [(2, 9), (0, a), (0, v2L4), (0, v3L4), (0, v24)]) (st' := [(0, a), (2, 9)]) (by decide +kernel) rfl ?_
              refine zwW_cm Ch27.1 (op := 60) (k' := 262) (n := 1) (kd := 7) (m := 9) (nx := 53) (r := 9) (tl := [(0, a)]) (st' := []) (by decide +kernel) rfl (by decide +kernel) (Nat.ble_eq_true_of_le (by omega)) (x262 a D0 pa HS h27 Ch27) ?_
              rintro v29 h30 ⟨Ch30, Qh30, f28⟩
              have Xh30 : zXR msxK (0) (0) h h30 := Xh27.tr (c2 := 0) (s2 := 0) Qh30 (by decide +kernel) (by decide) (by decide)
              refine zwif_eq (q := 70) (nx := 56) (by decide +kernel) (fun c31 => ?_) (fun c31 => ?_)
              · refine zwW_p [(0, 0, 0), (2, 2, 0)] (q := 72) (ls' := [(2, 9), (0, a), (0, 0), (0, v3L4), (0, v24)]) (st' := []) (by decide +kernel) rfl ?_
                refine zwW_inc (i := 3) (c := 1) (x := v3L4) (nx := 75) (by decide +kernel) rfl (by first | omega | exact ⟨by omega, by omega⟩) (ls' := [(2, 9), (0, a), (0, 0), (0, (v3L4 + 1)), (0, v24)]) rfl ?_
                refine zwW_p [(24, 8, 0)] (q := 8) (ls' := [(2, 9), (0, a), (0, 0), (0, (v3L4 + 1)), (0, v24)]) (st' := []) (by decide +kernel) rfl ?_
                exact IHL4 ((1000 - (v3L4 + 1))).toNat (by omega) 0 (v3L4 + 1) (0, v24) h30 rfl (by omega) (by omega) Ch30 (Xh30.le (by decide) (by decide))
              · refine zwW_p [(1, 0, 2), (1, 4, 0)] (q := 59) (ls' := [(2, 9), (0, a), (0, v2L4), (0, v3L4), (0, v24)]) (st' := [(0, v24), (2, 9)]) (by decide +kernel) rfl ?_
                refine zwW_ngw (nx := 60) (by decide +kernel) ?_
                intro v32 ev32 lv32 uv32
                refine zwW_cm Ch30.1 (op := 60) (k' := 243) (n := 1) (kd := 7) (m := 9) (nx := 63) (r := 9) (tl := [(0, v32)]) (st' := []) (by decide +kernel) rfl (by decide +kernel) (Nat.ble_eq_true_of_le (by omega)) (x243 h30 Ch30 v32 (by omega)) ?_
                rintro v34 h35 ⟨Ch35, Qh35, f33⟩
                have Xh35 : zXR msxK (0) (0) h h35 := Xh30.tr (c2 := 0) (s2 := 0) Qh35 (by decide +kernel) (by decide) (by decide)
                refine zwif_eq (q := 70) (nx := 66) (by decide +kernel) (fun c36 => ?_) (fun c36 => ?_)
                · refine zwW_p [(0, 0, 0), (2, 2, 0)] (q := 72) (ls' := [(2, 9), (0, a), (0, 0), (0, v3L4), (0, v24)]) (st' := []) (by decide +kernel) rfl ?_
                  refine zwW_inc (i := 3) (c := 1) (x := v3L4) (nx := 75) (by decide +kernel) rfl (by first | omega | exact ⟨by omega, by omega⟩) (ls' := [(2, 9), (0, a), (0, 0), (0, (v3L4 + 1)), (0, v24)]) rfl ?_
                  refine zwW_p [(24, 8, 0)] (q := 8) (ls' := [(2, 9), (0, a), (0, 0), (0, (v3L4 + 1)), (0, v24)]) (st' := []) (by decide +kernel) rfl ?_
                  exact IHL4 ((1000 - (v3L4 + 1))).toNat (by omega) 0 (v3L4 + 1) (0, v24) h35 rfl (by omega) (by omega) Ch35 (Xh35.le (by decide) (by decide))
                · refine zwW_p [(0, 1, 0), (24, 71, 0), (2, 2, 0)] (q := 72) (ls' := [(2, 9), (0, a), (0, 1), (0, v3L4), (0, v24)]) (st' := []) (by decide +kernel) rfl ?_
                  refine zwW_inc (i := 3) (c := 1) (x := v3L4) (nx := 75) (by decide +kernel) rfl (by first | omega | exact ⟨by omega, by omega⟩) (ls' := [(2, 9), (0, a), (0, 1), (0, (v3L4 + 1)), (0, v24)]) rfl ?_
                  refine zwW_p [(24, 8, 0)] (q := 8) (ls' := [(2, 9), (0, a), (0, 1), (0, (v3L4 + 1)), (0, v24)]) (st' := []) (by decide +kernel) rfl ?_
                  exact IHL4 ((1000 - (v3L4 + 1))).toNat (by omega) 1 (v3L4 + 1) (0, v24) h35 rfl (by omega) (by omega) Ch35 (Xh35.le (by decide) (by decide))
  exact L4 _ v2 0 (9, 0) h3 rfl (by omega) (by omega) Ch3 (Xh3.le (by decide) (by decide))
-- WheelLand$Reader.holds(I)Z
theorem x281 {sc : List Int} (a : Int) (D0 : Nat) (pa : 0 ≤ a ∧ a ≤ 8) (HS : a < 8 → zKX sc D0 241 (a + 1)) (HT : a < 8 → zKX sc D0 281 (a + 1)) (HE : a < 8 → zKX sc D0 242 (a + 1)) : zKX sc (D0 + 23) 281 a := by
  intro h C
  refine zwC_of (D := D0 + 22) 3 (by decide +kernel) rfl (ls := [(2, 9), (0, a), (9, 0)]) rfl ?_
  have X : zXR msxK 0 0 h h := zXR.rf _ _
  refine zwW_p [(1, 0, 2), (0, 20, 0)] (q := 3) (ls' := [(2, 9), (0, a), (9, 0)]) (st' := [(0, 20), (2, 9)]) (by decide +kernel) rfl ?_
  refine zwW_cm C.1 (op := 60) (k' := 264) (n := 1) (kd := 7) (m := 9) (nx := 6) (r := 9) (tl := [(0, 20)]) (st' := []) (by decide +kernel) rfl (by decide +kernel) (Nat.ble_eq_true_of_le (by omega)) (x264 h C 20 (by omega)) ?_
  rintro x _ ⟨rfl, ⟨rfl, c1⟩ | ⟨rfl, c1⟩⟩
  · refine zwif_eq (q := 47) (nx := 9) (by decide +kernel) (fun c2 => ?_) (fun c2 => ?_)
    · exfalso; omega
    · refine zwW_p [(1, 1, 0), (0, 8, 0)] (q := 12) (ls' := [(2, 9), (0, a), (9, 0)]) (st' := [(0, 8), (0, a)]) (by decide +kernel) rfl ?_
      refine zwic_ge (q := 45) (nx := 15) (by decide +kernel) (fun c3 => ?_) (fun c3 => ?_)
      · refine zwW_p [(0, 0, 0)] (q := 46) (ls' := [(2, 9), (0, a), (9, 0)]) (st' := [(0, 0)]) (by decide +kernel) rfl ?_
        refine zwW_ret (nx := 47) (a := 1) (b := 0) (by decide +kernel) rfl (Or.inr (Or.inl ⟨rfl, Or.inl rfl⟩)) ?_
        exact ⟨C, X.le (by decide) (by decide), by omega⟩
      · refine zwW_p [(1, 0, 2)] (q := 16) (ls' := [(2, 9), (0, a), (9, 0)]) (st' := [(2, 9)]) (by decide +kernel) rfl ?_
        refine zwW_cm C.1 (op := 60) (k' := 198) (n := 0) (kd := 7) (m := 9) (nx := 19) (r := 9) (tl := []) (st' := []) (by decide +kernel) rfl (by decide +kernel) (Nat.ble_eq_true_of_le (by omega)) (x198 h C) ?_
        rintro v5 h6 ⟨Ch6, Qh6, f4⟩
        have Xh6 : zXR msxK (0) (0) h h6 := X.tr (c2 := 0) (s2 := 0) Qh6 (by decide +kernel) (by decide) (by decide)
        refine zwif_eq (q := 45) (nx := 22) (by decide +kernel) (fun c7 => ?_) (fun c7 => ?_)
        · refine zwW_p [(0, 0, 0)] (q := 46) (ls' := [(2, 9), (0, a), (9, 0)]) (st' := [(0, 0)]) (by decide +kernel) rfl ?_
          refine zwW_ret (nx := 47) (a := 1) (b := 0) (by decide +kernel) rfl (Or.inr (Or.inl ⟨rfl, Or.inl rfl⟩)) ?_
          exact ⟨Ch6, Xh6.le (by decide) (by decide), by omega⟩
        · refine zwW_p [(1, 0, 2), (1, 1, 0), (0, 1, 0)] (q := 25) (ls' := [(2, 9), (0, a), (9, 0)]) (st' := [(0, 1), (0, a), (2, 9)]) (by decide +kernel) rfl ?_
          refine zwW_add (nx := 26) (by decide +kernel) (by first | omega | exact ⟨by omega, by omega⟩) ?_
          refine zwW_cm Ch6.1 (op := 60) (k' := 281) (n := 1) (kd := 7) (m := 9) (nx := 29) (r := 9) (tl := [(0, (a + 1))]) (st' := []) (by decide +kernel) rfl (by decide +kernel) (Nat.ble_eq_true_of_le (by omega)) (HT (by omega) h6 Ch6) ?_
          rintro v9 h10 ⟨Ch10, Qh10, f8⟩
          have Xh10 : zXR msxK (0) (0) h h10 := Xh6.tr (c2 := 0) (s2 := 0) Qh10 (by decide +kernel) (by decide) (by decide)
          refine zwif_eq (q := 45) (nx := 32) (by decide +kernel) (fun c11 => ?_) (fun c11 => ?_)
          · refine zwW_p [(0, 0, 0)] (q := 46) (ls' := [(2, 9), (0, a), (9, 0)]) (st' := [(0, 0)]) (by decide +kernel) rfl ?_
            refine zwW_ret (nx := 47) (a := 1) (b := 0) (by decide +kernel) rfl (Or.inr (Or.inl ⟨rfl, Or.inl rfl⟩)) ?_
            exact ⟨Ch10, Xh10.le (by decide) (by decide), by omega⟩
          · refine zwW_p [(1, 0, 2), (0, -20, 0)] (q := 35) (ls' := [(2, 9), (0, a), (9, 0)]) (st' := [(0, -20), (2, 9)]) (by decide +kernel) rfl ?_
            refine zwW_cm Ch10.1 (op := 60) (k' := 243) (n := 1) (kd := 7) (m := 9) (nx := 38) (r := 9) (tl := [(0, -20)]) (st' := []) (by decide +kernel) rfl (by decide +kernel) (Nat.ble_eq_true_of_le (by omega)) (x243 h10 Ch10 (-20) (by omega)) ?_
            rintro v13 h14 ⟨Ch14, Qh14, f12⟩
            have Xh14 : zXR msxK (0) (0) h h14 := Xh10.tr (c2 := 0) (s2 := 0) Qh14 (by decide +kernel) (by decide) (by decide)
            refine zwif_eq (q := 45) (nx := 41) (by decide +kernel) (fun c15 => ?_) (fun c15 => ?_)
            · refine zwW_p [(0, 0, 0)] (q := 46) (ls' := [(2, 9), (0, a), (9, 0)]) (st' := [(0, 0)]) (by decide +kernel) rfl ?_
              refine zwW_ret (nx := 47) (a := 1) (b := 0) (by decide +kernel) rfl (Or.inr (Or.inl ⟨rfl, Or.inl rfl⟩)) ?_
              exact ⟨Ch14, Xh14.le (by decide) (by decide), by omega⟩
            · refine zwW_p [(0, 1, 0), (24, 46, 0)] (q := 46) (ls' := [(2, 9), (0, a), (9, 0)]) (st' := [(0, 1)]) (by decide +kernel) rfl ?_
              refine zwW_ret (nx := 47) (a := 1) (b := 0) (by decide +kernel) rfl (Or.inr (Or.inl ⟨rfl, Or.inr rfl⟩)) ?_
              exact ⟨Ch14, Xh14.le (by decide) (by decide), by omega⟩
  · refine zwif_eq (q := 47) (nx := 9) (by decide +kernel) (fun c16 => ?_) (fun c16 => ?_)
    · refine zwW_p [(1, 0, 2)] (q := 48) (ls' := [(2, 9), (0, a), (9, 0)]) (st' := [(2, 9)]) (by decide +kernel) rfl ?_
      refine zwW_gs C.1 (kd := 7) (bn := 4) (n := 9) (t := 0) (lo := -2147483648) (hi := 2147483647) (nx := 51) (by decide +kernel) ?_
      intro v17 ev17 lv17 uv17
      refine zwW_p [(0, 91, 0)] (q := 53) (ls' := [(2, 9), (0, a), (9, 0)]) (st' := [(0, 91), (0, v17)]) (by decide +kernel) rfl ?_
      refine zwic_ne (q := 101) (nx := 56) (by decide +kernel) (fun c18 => ?_) (fun c18 => ?_)
      · refine zwW_p [(1, 0, 2), (1, 1, 0)] (q := 103) (ls' := [(2, 9), (0, a), (9, 0)]) (st' := [(0, a), (2, 9)]) (by decide +kernel) rfl ?_
        refine zwW_cm C.1 (op := 60) (k' := 241) (n := 1) (kd := 7) (m := 9) (nx := 106) (r := 9) (tl := [(0, a)]) (st' := []) (by decide +kernel) rfl (by decide +kernel) (Nat.ble_eq_true_of_le (by omega)) (x241 a D0 pa HS h C) ?_
        rintro v20 h21 ⟨Ch21, Qh21, f19⟩
        have Xh21 : zXR msxK (0) (0) h h21 := X.tr (c2 := 0) (s2 := 0) Qh21 (by decide +kernel) (by decide) (by decide)
        refine zwif_ne (q := 111) (nx := 109) (by decide +kernel) (fun c22 => ?_) (fun c22 => ?_)
        · refine zwW_p [(1, 0, 2)] (q := 112) (ls' := [(2, 9), (0, a), (9, 0)]) (st' := [(2, 9)]) (by decide +kernel) rfl ?_
          refine zwW_gs Ch21.1 (kd := 7) (bn := 4) (n := 9) (t := 0) (lo := -2147483648) (hi := 2147483647) (nx := 115) (by decide +kernel) ?_
          intro v23 ev23 lv23 uv23
          refine zwW_p [(2, 2, 0), (1, 2, 0), (0, 60, 0)] (q := 119) (ls' := [(2, 9), (0, a), (0, v23)]) (st' := [(0, 60), (0, v23)]) (by decide +kernel) rfl ?_
          refine zwic_eq (q := 136) (nx := 122) (by decide +kernel) (fun c24 => ?_) (fun c24 => ?_)
          · refine zwW_p [(1, 0, 2)] (q := 137) (ls' := [(2, 9), (0, a), (0, v23)]) (st' := [(2, 9)]) (by decide +kernel) rfl ?_
            refine zwW_cm Ch21.1 (op := 60) (k' := 198) (n := 0) (kd := 7) (m := 9) (nx := 140) (r := 9) (tl := []) (st' := []) (by decide +kernel) rfl (by decide +kernel) (Nat.ble_eq_true_of_le (by omega)) (x198 h21 Ch21) ?_
            rintro v26 h27 ⟨Ch27, Qh27, f25⟩
            have Xh27 : zXR msxK (0) (0) h h27 := Xh21.tr (c2 := 0) (s2 := 0) Qh27 (by decide +kernel) (by decide) (by decide)
            refine zwif_eq (q := 164) (nx := 143) (by decide +kernel) (fun c28 => ?_) (fun c28 => ?_)
            · refine zwW_p [(0, 0, 0)] (q := 165) (ls' := [(2, 9), (0, a), (0, v23)]) (st' := [(0, 0)]) (by decide +kernel) rfl ?_
              refine zwW_ret (nx := 166) (a := 1) (b := 0) (by decide +kernel) rfl (Or.inr (Or.inl ⟨rfl, Or.inl rfl⟩)) ?_
              exact ⟨Ch27, Xh27.le (by decide) (by decide), by omega⟩
            · refine zwW_p [(1, 0, 2), (1, 1, 0)] (q := 145) (ls' := [(2, 9), (0, a), (0, v23)]) (st' := [(0, a), (2, 9)]) (by decide +kernel) rfl ?_
              refine zwW_cm Ch27.1 (op := 60) (k' := 241) (n := 1) (kd := 7) (m := 9) (nx := 148) (r := 9) (tl := [(0, a)]) (st' := []) (by decide +kernel) rfl (by decide +kernel) (Nat.ble_eq_true_of_le (by omega)) (x241 a D0 pa HS h27 Ch27) ?_
              rintro v30 h31 ⟨Ch31, Qh31, f29⟩
              have Xh31 : zXR msxK (0) (0) h h31 := Xh27.tr (c2 := 0) (s2 := 0) Qh31 (by decide +kernel) (by decide) (by decide)
              refine zwif_eq (q := 164) (nx := 151) (by decide +kernel) (fun c32 => ?_) (fun c32 => ?_)
              · refine zwW_p [(0, 0, 0)] (q := 165) (ls' := [(2, 9), (0, a), (0, v23)]) (st' := [(0, 0)]) (by decide +kernel) rfl ?_
                refine zwW_ret (nx := 166) (a := 1) (b := 0) (by decide +kernel) rfl (Or.inr (Or.inl ⟨rfl, Or.inl rfl⟩)) ?_
                exact ⟨Ch31, Xh31.le (by decide) (by decide), by omega⟩
              · refine zwW_p [(1, 0, 2), (1, 2, 0)] (q := 153) (ls' := [(2, 9), (0, a), (0, v23)]) (st' := [(0, v23), (2, 9)]) (by decide +kernel) rfl ?_
                refine zwW_neg (nx := 154) (by decide +kernel) (by first | omega | exact ⟨by omega, by omega⟩) ?_
                refine zwW_cm Ch31.1 (op := 60) (k' := 243) (n := 1) (kd := 7) (m := 9) (nx := 157) (r := 9) (tl := [(0, (-v23))]) (st' := []) (by decide +kernel) rfl (by decide +kernel) (Nat.ble_eq_true_of_le (by omega)) (x243 h31 Ch31 (-v23) (by omega)) ?_
                rintro v34 h35 ⟨Ch35, Qh35, f33⟩
                have Xh35 : zXR msxK (0) (0) h h35 := Xh31.tr (c2 := 0) (s2 := 0) Qh35 (by decide +kernel) (by decide) (by decide)
                refine zwif_eq (q := 164) (nx := 160) (by decide +kernel) (fun c36 => ?_) (fun c36 => ?_)
                · refine zwW_p [(0, 0, 0)] (q := 165) (ls' := [(2, 9), (0, a), (0, v23)]) (st' := [(0, 0)]) (by decide +kernel) rfl ?_
                  refine zwW_ret (nx := 166) (a := 1) (b := 0) (by decide +kernel) rfl (Or.inr (Or.inl ⟨rfl, Or.inl rfl⟩)) ?_
                  exact ⟨Ch35, Xh35.le (by decide) (by decide), by omega⟩
                · refine zwW_p [(0, 1, 0), (24, 165, 0)] (q := 165) (ls' := [(2, 9), (0, a), (0, v23)]) (st' := [(0, 1)]) (by decide +kernel) rfl ?_
                  refine zwW_ret (nx := 166) (a := 1) (b := 0) (by decide +kernel) rfl (Or.inr (Or.inl ⟨rfl, Or.inr rfl⟩)) ?_
                  exact ⟨Ch35, Xh35.le (by decide) (by decide), by omega⟩
          · refine zwW_p [(1, 2, 0), (0, 62, 0)] (q := 125) (ls' := [(2, 9), (0, a), (0, v23)]) (st' := [(0, 62), (0, v23)]) (by decide +kernel) rfl ?_
            refine zwic_eq (q := 136) (nx := 128) (by decide +kernel) (fun c37 => ?_) (fun c37 => ?_)
            · refine zwW_p [(1, 0, 2)] (q := 137) (ls' := [(2, 9), (0, a), (0, v23)]) (st' := [(2, 9)]) (by decide +kernel) rfl ?_
              refine zwW_cm Ch21.1 (op := 60) (k' := 198) (n := 0) (kd := 7) (m := 9) (nx := 140) (r := 9) (tl := []) (st' := []) (by decide +kernel) rfl (by decide +kernel) (Nat.ble_eq_true_of_le (by omega)) (x198 h21 Ch21) ?_
              rintro v39 h40 ⟨Ch40, Qh40, f38⟩
              have Xh40 : zXR msxK (0) (0) h h40 := Xh21.tr (c2 := 0) (s2 := 0) Qh40 (by decide +kernel) (by decide) (by decide)
              refine zwif_eq (q := 164) (nx := 143) (by decide +kernel) (fun c41 => ?_) (fun c41 => ?_)
              · refine zwW_p [(0, 0, 0)] (q := 165) (ls' := [(2, 9), (0, a), (0, v23)]) (st' := [(0, 0)]) (by decide +kernel) rfl ?_
                refine zwW_ret (nx := 166) (a := 1) (b := 0) (by decide +kernel) rfl (Or.inr (Or.inl ⟨rfl, Or.inl rfl⟩)) ?_
                exact ⟨Ch40, Xh40.le (by decide) (by decide), by omega⟩
              · refine zwW_p [(1, 0, 2), (1, 1, 0)] (q := 145) (ls' := [(2, 9), (0, a), (0, v23)]) (st' := [(0, a), (2, 9)]) (by decide +kernel) rfl ?_
                refine zwW_cm Ch40.1 (op := 60) (k' := 241) (n := 1) (kd := 7) (m := 9) (nx := 148) (r := 9) (tl := [(0, a)]) (st' := []) (by decide +kernel) rfl (by decide +kernel) (Nat.ble_eq_true_of_le (by omega)) (x241 a D0 pa HS h40 Ch40) ?_
                rintro v43 h44 ⟨Ch44, Qh44, f42⟩
                have Xh44 : zXR msxK (0) (0) h h44 := Xh40.tr (c2 := 0) (s2 := 0) Qh44 (by decide +kernel) (by decide) (by decide)
                refine zwif_eq (q := 164) (nx := 151) (by decide +kernel) (fun c45 => ?_) (fun c45 => ?_)
                · refine zwW_p [(0, 0, 0)] (q := 165) (ls' := [(2, 9), (0, a), (0, v23)]) (st' := [(0, 0)]) (by decide +kernel) rfl ?_
                  refine zwW_ret (nx := 166) (a := 1) (b := 0) (by decide +kernel) rfl (Or.inr (Or.inl ⟨rfl, Or.inl rfl⟩)) ?_
                  exact ⟨Ch44, Xh44.le (by decide) (by decide), by omega⟩
                · refine zwW_p [(1, 0, 2), (1, 2, 0)] (q := 153) (ls' := [(2, 9), (0, a), (0, v23)]) (st' := [(0, v23), (2, 9)]) (by decide +kernel) rfl ?_
                  refine zwW_neg (nx := 154) (by decide +kernel) (by first | omega | exact ⟨by omega, by omega⟩) ?_
                  refine zwW_cm Ch44.1 (op := 60) (k' := 243) (n := 1) (kd := 7) (m := 9) (nx := 157) (r := 9) (tl := [(0, (-v23))]) (st' := []) (by decide +kernel) rfl (by decide +kernel) (Nat.ble_eq_true_of_le (by omega)) (x243 h44 Ch44 (-v23) (by omega)) ?_
                  rintro v47 h48 ⟨Ch48, Qh48, f46⟩
                  have Xh48 : zXR msxK (0) (0) h h48 := Xh44.tr (c2 := 0) (s2 := 0) Qh48 (by decide +kernel) (by decide) (by decide)
                  refine zwif_eq (q := 164) (nx := 160) (by decide +kernel) (fun c49 => ?_) (fun c49 => ?_)
                  · refine zwW_p [(0, 0, 0)] (q := 165) (ls' := [(2, 9), (0, a), (0, v23)]) (st' := [(0, 0)]) (by decide +kernel) rfl ?_
                    refine zwW_ret (nx := 166) (a := 1) (b := 0) (by decide +kernel) rfl (Or.inr (Or.inl ⟨rfl, Or.inl rfl⟩)) ?_
                    exact ⟨Ch48, Xh48.le (by decide) (by decide), by omega⟩
                  · refine zwW_p [(0, 1, 0), (24, 165, 0)] (q := 165) (ls' := [(2, 9), (0, a), (0, v23)]) (st' := [(0, 1)]) (by decide +kernel) rfl ?_
                    refine zwW_ret (nx := 166) (a := 1) (b := 0) (by decide +kernel) rfl (Or.inr (Or.inl ⟨rfl, Or.inr rfl⟩)) ?_
                    exact ⟨Ch48, Xh48.le (by decide) (by decide), by omega⟩
            · refine zwW_p [(1, 2, 0), (0, 61, 0)] (q := 131) (ls' := [(2, 9), (0, a), (0, v23)]) (st' := [(0, 61), (0, v23)]) (by decide +kernel) rfl ?_
              refine zwic_eq (q := 136) (nx := 134) (by decide +kernel) (fun c50 => ?_) (fun c50 => ?_)
              · refine zwW_p [(1, 0, 2)] (q := 137) (ls' := [(2, 9), (0, a), (0, v23)]) (st' := [(2, 9)]) (by decide +kernel) rfl ?_
                refine zwW_cm Ch21.1 (op := 60) (k' := 198) (n := 0) (kd := 7) (m := 9) (nx := 140) (r := 9) (tl := []) (st' := []) (by decide +kernel) rfl (by decide +kernel) (Nat.ble_eq_true_of_le (by omega)) (x198 h21 Ch21) ?_
                rintro v52 h53 ⟨Ch53, Qh53, f51⟩
                have Xh53 : zXR msxK (0) (0) h h53 := Xh21.tr (c2 := 0) (s2 := 0) Qh53 (by decide +kernel) (by decide) (by decide)
                refine zwif_eq (q := 164) (nx := 143) (by decide +kernel) (fun c54 => ?_) (fun c54 => ?_)
                · refine zwW_p [(0, 0, 0)] (q := 165) (ls' := [(2, 9), (0, a), (0, v23)]) (st' := [(0, 0)]) (by decide +kernel) rfl ?_
                  refine zwW_ret (nx := 166) (a := 1) (b := 0) (by decide +kernel) rfl (Or.inr (Or.inl ⟨rfl, Or.inl rfl⟩)) ?_
                  exact ⟨Ch53, Xh53.le (by decide) (by decide), by omega⟩
                · refine zwW_p [(1, 0, 2), (1, 1, 0)] (q := 145) (ls' := [(2, 9), (0, a), (0, v23)]) (st' := [(0, a), (2, 9)]) (by decide +kernel) rfl ?_
                  refine zwW_cm Ch53.1 (op := 60) (k' := 241) (n := 1) (kd := 7) (m := 9) (nx := 148) (r := 9) (tl := [(0, a)]) (st' := []) (by decide +kernel) rfl (by decide +kernel) (Nat.ble_eq_true_of_le (by omega)) (x241 a D0 pa HS h53 Ch53) ?_
                  rintro v56 h57 ⟨Ch57, Qh57, f55⟩
                  have Xh57 : zXR msxK (0) (0) h h57 := Xh53.tr (c2 := 0) (s2 := 0) Qh57 (by decide +kernel) (by decide) (by decide)
                  refine zwif_eq (q := 164) (nx := 151) (by decide +kernel) (fun c58 => ?_) (fun c58 => ?_)
                  · refine zwW_p [(0, 0, 0)] (q := 165) (ls' := [(2, 9), (0, a), (0, v23)]) (st' := [(0, 0)]) (by decide +kernel) rfl ?_
                    refine zwW_ret (nx := 166) (a := 1) (b := 0) (by decide +kernel) rfl (Or.inr (Or.inl ⟨rfl, Or.inl rfl⟩)) ?_
                    exact ⟨Ch57, Xh57.le (by decide) (by decide), by omega⟩
                  · refine zwW_p [(1, 0, 2), (1, 2, 0)] (q := 153) (ls' := [(2, 9), (0, a), (0, v23)]) (st' := [(0, v23), (2, 9)]) (by decide +kernel) rfl ?_
                    refine zwW_neg (nx := 154) (by decide +kernel) (by first | omega | exact ⟨by omega, by omega⟩) ?_
                    refine zwW_cm Ch57.1 (op := 60) (k' := 243) (n := 1) (kd := 7) (m := 9) (nx := 157) (r := 9) (tl := [(0, (-v23))]) (st' := []) (by decide +kernel) rfl (by decide +kernel) (Nat.ble_eq_true_of_le (by omega)) (x243 h57 Ch57 (-v23) (by omega)) ?_
                    rintro v60 h61 ⟨Ch61, Qh61, f59⟩
                    have Xh61 : zXR msxK (0) (0) h h61 := Xh57.tr (c2 := 0) (s2 := 0) Qh61 (by decide +kernel) (by decide) (by decide)
                    refine zwif_eq (q := 164) (nx := 160) (by decide +kernel) (fun c62 => ?_) (fun c62 => ?_)
                    · refine zwW_p [(0, 0, 0)] (q := 165) (ls' := [(2, 9), (0, a), (0, v23)]) (st' := [(0, 0)]) (by decide +kernel) rfl ?_
                      refine zwW_ret (nx := 166) (a := 1) (b := 0) (by decide +kernel) rfl (Or.inr (Or.inl ⟨rfl, Or.inl rfl⟩)) ?_
                      exact ⟨Ch61, Xh61.le (by decide) (by decide), by omega⟩
                    · refine zwW_p [(0, 1, 0), (24, 165, 0)] (q := 165) (ls' := [(2, 9), (0, a), (0, v23)]) (st' := [(0, 1)]) (by decide +kernel) rfl ?_
                      refine zwW_ret (nx := 166) (a := 1) (b := 0) (by decide +kernel) rfl (Or.inr (Or.inl ⟨rfl, Or.inr rfl⟩)) ?_
                      exact ⟨Ch61, Xh61.le (by decide) (by decide), by omega⟩
              · refine zwW_p [(0, 0, 0)] (q := 135) (ls' := [(2, 9), (0, a), (0, v23)]) (st' := [(0, 0)]) (by decide +kernel) rfl ?_
                refine zwW_ret (nx := 136) (a := 1) (b := 0) (by decide +kernel) rfl (Or.inr (Or.inl ⟨rfl, Or.inl rfl⟩)) ?_
                exact ⟨Ch21, Xh21.le (by decide) (by decide), by omega⟩
        · refine zwW_p [(0, 0, 0)] (q := 110) (ls' := [(2, 9), (0, a), (9, 0)]) (st' := [(0, 0)]) (by decide +kernel) rfl ?_
          refine zwW_ret (nx := 111) (a := 1) (b := 0) (by decide +kernel) rfl (Or.inr (Or.inl ⟨rfl, Or.inl rfl⟩)) ?_
          exact ⟨Ch21, Xh21.le (by decide) (by decide), by omega⟩
      · refine zwW_p [(1, 1, 0), (0, 8, 0)] (q := 59) (ls' := [(2, 9), (0, a), (9, 0)]) (st' := [(0, 8), (0, a)]) (by decide +kernel) rfl ?_
        refine zwic_ge (q := 99) (nx := 62) (by decide +kernel) (fun c63 => ?_) (fun c63 => ?_)
        · refine zwW_p [(0, 0, 0)] (q := 100) (ls' := [(2, 9), (0, a), (9, 0)]) (st' := [(0, 0)]) (by decide +kernel) rfl ?_
          refine zwW_ret (nx := 101) (a := 1) (b := 0) (by decide +kernel) rfl (Or.inr (Or.inl ⟨rfl, Or.inl rfl⟩)) ?_
          exact ⟨C, X.le (by decide) (by decide), by omega⟩
        · refine zwW_p [(1, 0, 2)] (q := 63) (ls' := [(2, 9), (0, a), (9, 0)]) (st' := [(2, 9)]) (by decide +kernel) rfl ?_
          refine zwW_cm C.1 (op := 60) (k' := 198) (n := 0) (kd := 7) (m := 9) (nx := 66) (r := 9) (tl := []) (st' := []) (by decide +kernel) rfl (by decide +kernel) (Nat.ble_eq_true_of_le (by omega)) (x198 h C) ?_
          rintro v65 h66 ⟨Ch66, Qh66, f64⟩
          have Xh66 : zXR msxK (0) (0) h h66 := X.tr (c2 := 0) (s2 := 0) Qh66 (by decide +kernel) (by decide) (by decide)
          refine zwif_eq (q := 99) (nx := 69) (by decide +kernel) (fun c67 => ?_) (fun c67 => ?_)
          · refine zwW_p [(0, 0, 0)] (q := 100) (ls' := [(2, 9), (0, a), (9, 0)]) (st' := [(0, 0)]) (by decide +kernel) rfl ?_
            refine zwW_ret (nx := 101) (a := 1) (b := 0) (by decide +kernel) rfl (Or.inr (Or.inl ⟨rfl, Or.inl rfl⟩)) ?_
            exact ⟨Ch66, Xh66.le (by decide) (by decide), by omega⟩
          · refine zwW_p [(1, 0, 2), (1, 1, 0), (0, 1, 0)] (q := 72) (ls' := [(2, 9), (0, a), (9, 0)]) (st' := [(0, 1), (0, a), (2, 9)]) (by decide +kernel) rfl ?_
            refine zwW_add (nx := 73) (by decide +kernel) (by first | omega | exact ⟨by omega, by omega⟩) ?_
            refine zwW_cm Ch66.1 (op := 60) (k' := 242) (n := 1) (kd := 7) (m := 9) (nx := 76) (r := 9) (tl := [(0, (a + 1))]) (st' := []) (by decide +kernel) rfl (by decide +kernel) (Nat.ble_eq_true_of_le (by omega)) (HE (by omega) h66 Ch66) ?_
            rintro v69 h70 ⟨Ch70, Qh70, f68⟩
            have Xh70 : zXR msxK (0) (0) h h70 := Xh66.tr (c2 := 0) (s2 := 0) Qh70 (by decide +kernel) (by decide) (by decide)
            refine zwif_eq (q := 99) (nx := 79) (by decide +kernel) (fun c71 => ?_) (fun c71 => ?_)
            · refine zwW_p [(0, 0, 0)] (q := 100) (ls' := [(2, 9), (0, a), (9, 0)]) (st' := [(0, 0)]) (by decide +kernel) rfl ?_
              refine zwW_ret (nx := 101) (a := 1) (b := 0) (by decide +kernel) rfl (Or.inr (Or.inl ⟨rfl, Or.inl rfl⟩)) ?_
              exact ⟨Ch70, Xh70.le (by decide) (by decide), by omega⟩
            · refine zwW_p [(1, 0, 2)] (q := 80) (ls' := [(2, 9), (0, a), (9, 0)]) (st' := [(2, 9)]) (by decide +kernel) rfl ?_
              refine zwW_gs Ch70.1 (kd := 7) (bn := 4) (n := 9) (t := 0) (lo := -2147483648) (hi := 2147483647) (nx := 83) (by decide +kernel) ?_
              intro v72 ev72 lv72 uv72
              refine zwW_p [(0, 93, 0)] (q := 85) (ls' := [(2, 9), (0, a), (9, 0)]) (st' := [(0, 93), (0, v72)]) (by decide +kernel) rfl ?_
              refine zwic_ne (q := 99) (nx := 88) (by decide +kernel) (fun c73 => ?_) (fun c73 => ?_)
              · refine zwW_p [(0, 0, 0)] (q := 100) (ls' := [(2, 9), (0, a), (9, 0)]) (st' := [(0, 0)]) (by decide +kernel) rfl ?_
                refine zwW_ret (nx := 101) (a := 1) (b := 0) (by decide +kernel) rfl (Or.inr (Or.inl ⟨rfl, Or.inl rfl⟩)) ?_
                exact ⟨Ch70, Xh70.le (by decide) (by decide), by omega⟩
              · refine zwW_p [(1, 0, 2)] (q := 89) (ls' := [(2, 9), (0, a), (9, 0)]) (st' := [(2, 9)]) (by decide +kernel) rfl ?_
                refine zwW_cm Ch70.1 (op := 60) (k' := 198) (n := 0) (kd := 7) (m := 9) (nx := 92) (r := 9) (tl := []) (st' := []) (by decide +kernel) rfl (by decide +kernel) (Nat.ble_eq_true_of_le (by omega)) (x198 h70 Ch70) ?_
                rintro v75 h76 ⟨Ch76, Qh76, f74⟩
                have Xh76 : zXR msxK (0) (0) h h76 := Xh70.tr (c2 := 0) (s2 := 0) Qh76 (by decide +kernel) (by decide) (by decide)
                refine zwif_eq (q := 99) (nx := 95) (by decide +kernel) (fun c77 => ?_) (fun c77 => ?_)
                · refine zwW_p [(0, 0, 0)] (q := 100) (ls' := [(2, 9), (0, a), (9, 0)]) (st' := [(0, 0)]) (by decide +kernel) rfl ?_
                  refine zwW_ret (nx := 101) (a := 1) (b := 0) (by decide +kernel) rfl (Or.inr (Or.inl ⟨rfl, Or.inl rfl⟩)) ?_
                  exact ⟨Ch76, Xh76.le (by decide) (by decide), by omega⟩
                · refine zwW_p [(0, 1, 0), (24, 100, 0)] (q := 100) (ls' := [(2, 9), (0, a), (9, 0)]) (st' := [(0, 1)]) (by decide +kernel) rfl ?_
                  refine zwW_ret (nx := 101) (a := 1) (b := 0) (by decide +kernel) rfl (Or.inr (Or.inl ⟨rfl, Or.inr rfl⟩)) ?_
                  exact ⟨Ch76, Xh76.le (by decide) (by decide), by omega⟩
    · exfalso; omega
-- WheelLand$Reader.both(I)Z
theorem x263 {sc : List Int} (a : Int) (D0 : Nat) (pa : 0 ≤ a ∧ a ≤ 8) (HS : a < 8 → zKX sc D0 241 (a + 1)) (HT : a < 8 → zKX sc D0 281 (a + 1)) (HE : a < 8 → zKX sc D0 242 (a + 1)) : zKX sc (D0 + 24) 263 a := by
  intro h C
  refine zwC_of (D := D0 + 23) 4 (by decide +kernel) rfl (ls := [(2, 9), (0, a), (9, 0), (9, 0)]) rfl ?_
  have X : zXR msxK 0 0 h h := zXR.rf _ _
  refine zwW_p [(1, 0, 2), (1, 1, 0)] (q := 2) (ls' := [(2, 9), (0, a), (9, 0), (9, 0)]) (st' := [(0, a), (2, 9)]) (by decide +kernel) rfl ?_
  refine zwW_cm C.1 (op := 60) (k' := 281) (n := 1) (kd := 7) (m := 9) (nx := 5) (r := 9) (tl := [(0, a)]) (st' := []) (by decide +kernel) rfl (by decide +kernel) (Nat.ble_eq_true_of_le (by omega)) (x281 a D0 pa HS HT HE h C) ?_
  rintro v2 h3 ⟨Ch3, Qh3, f1⟩
  have Xh3 : zXR msxK (0) (0) h h3 := X.tr (c2 := 0) (s2 := 0) Qh3 (by decide +kernel) (by decide) (by decide)
  refine zwW_p [(2, 2, 0), (0, 0, 0), (2, 3, 0)] (q := 8) (ls' := [(2, 9), (0, a), (0, v2), (0, 0)]) (st' := []) (by decide +kernel) rfl ?_
  have L4 : ∀ (n : Nat) (v2L4 v3L4 : Int) (hL4 : Hp), n = ((1000 - v3L4)).toNat → (0 ≤ v2L4 ∧ v2L4 ≤ 1) → (0 ≤ v3L4 ∧ v3L4 ≤ 1000) → CI hL4 → zXR msxK (0) (0) h hL4 → zwW sc (D0 + 23) 263 8 [(2, 9), (0, a), (0, v2L4), (0, v3L4)] [] hL4 (zwRt 0 (fun x g => CI g ∧ zXR msxK (0) (0) h g ∧ (0 ≤ x ∧ x ≤ 1))) := by
    intro n
    induction n using Nat.strongRecOn with
    | ind n IHL4 =>
      intro v2L4 v3L4 hL4 hnL4 iL4_0 iL4_1 ChL4 XhL4
      refine zwW_p [(1, 3, 0), (0, 400, 0)] (q := 12) (ls' := [(2, 9), (0, a), (0, v2L4), (0, v3L4)]) (st' := [(0, 400), (0, v3L4)]) (by decide +kernel) rfl ?_
      refine zwic_ge (q := 62) (nx := 15) (by decide +kernel) (fun c5 => ?_) (fun c5 => ?_)
      · refine zwW_p [(1, 2, 0)] (q := 63) (ls' := [(2, 9), (0, a), (0, v2L4), (0, v3L4)]) (st' := [(0, v2L4)]) (by decide +kernel) rfl ?_
        refine zwW_ret (nx := 64) (a := 1) (b := 0) (by decide +kernel) rfl (Or.inr (Or.inl ⟨rfl, by omega⟩)) ?_
        exact ⟨ChL4, XhL4.le (by decide) (by decide), by omega⟩
      · refine zwW_p [(1, 2, 0)] (q := 16) (ls' := [(2, 9), (0, a), (0, v2L4), (0, v3L4)]) (st' := [(0, v2L4)]) (by decide +kernel) rfl ?_
        refine zwif_eq (q := 62) (nx := 19) (by decide +kernel) (fun c6 => ?_) (fun c6 => ?_)
        · refine zwW_p [(1, 2, 0)] (q := 63) (ls' := [(2, 9), (0, a), (0, v2L4), (0, v3L4)]) (st' := [(0, v2L4)]) (by decide +kernel) rfl ?_
          refine zwW_ret (nx := 64) (a := 1) (b := 0) (by decide +kernel) rfl (Or.inr (Or.inl ⟨rfl, by omega⟩)) ?_
          exact ⟨ChL4, XhL4.le (by decide) (by decide), by omega⟩
        · refine zwW_p [(1, 0, 2), (0, 19, 0)] (q := 22) (ls' := [(2, 9), (0, a), (0, v2L4), (0, v3L4)]) (st' := [(0, 19), (2, 9)]) (by decide +kernel) rfl ?_
          refine zwW_cm ChL4.1 (op := 60) (k' := 264) (n := 1) (kd := 7) (m := 9) (nx := 25) (r := 9) (tl := [(0, 19)]) (st' := []) (by decide +kernel) rfl (by decide +kernel) (Nat.ble_eq_true_of_le (by omega)) (x264 hL4 ChL4 19 (by omega)) ?_
          rintro x _ ⟨rfl, ⟨rfl, c7⟩ | ⟨rfl, c7⟩⟩
          · refine zwif_eq (q := 62) (nx := 28) (by decide +kernel) (fun c8 => ?_) (fun c8 => ?_)
            · exfalso; omega
            · refine zwW_p [(1, 0, 2)] (q := 29) (ls' := [(2, 9), (0, a), (0, v2L4), (0, v3L4)]) (st' := [(2, 9)]) (by decide +kernel) rfl ?_
              refine zwW_cm ChL4.1 (op := 60) (k' := 198) (n := 0) (kd := 7) (m := 9) (nx := 32) (r := 9) (tl := []) (st' := []) (by decide +kernel) rfl (by decide +kernel) (Nat.ble_eq_true_of_le (by omega)) (x198 hL4 ChL4) ?_
              rintro v10 h11 ⟨Ch11, Qh11, f9⟩
              have Xh11 : zXR msxK (0) (0) h h11 := XhL4.tr (c2 := 0) (s2 := 0) Qh11 (by decide +kernel) (by decide) (by decide)
              refine zwW_p [(15, 0, 0), (1, 0, 2), (1, 1, 0)] (q := 35) (ls' := [(2, 9), (0, a), (0, v2L4), (0, v3L4)]) (st' := [(0, a), (2, 9)]) (by decide +kernel) rfl ?_
              refine zwW_cm Ch11.1 (op := 60) (k' := 281) (n := 1) (kd := 7) (m := 9) (nx := 38) (r := 9) (tl := [(0, a)]) (st' := []) (by decide +kernel) rfl (by decide +kernel) (Nat.ble_eq_true_of_le (by omega)) (x281 a D0 pa HS HT HE h11 Ch11) ?_
              rintro v13 h14 ⟨Ch14, Qh14, f12⟩
              have Xh14 : zXR msxK (0) (0) h h14 := Xh11.tr (c2 := 0) (s2 := 0) Qh14 (by decide +kernel) (by decide) (by decide)
              refine zwif_eq (q := 54) (nx := 41) (by decide +kernel) (fun c15 => ?_) (fun c15 => ?_)
              · refine zwW_p [(0, 0, 0), (2, 2, 0)] (q := 56) (ls' := [(2, 9), (0, a), (0, 0), (0, v3L4)]) (st' := []) (by decide +kernel) rfl ?_
                refine zwW_inc (i := 3) (c := 1) (x := v3L4) (nx := 59) (by decide +kernel) rfl (by first | omega | exact ⟨by omega, by omega⟩) (ls' := [(2, 9), (0, a), (0, 0), (0, (v3L4 + 1))]) rfl ?_
                refine zwW_p [(24, 8, 0)] (q := 8) (ls' := [(2, 9), (0, a), (0, 0), (0, (v3L4 + 1))]) (st' := []) (by decide +kernel) rfl ?_
                exact IHL4 ((1000 - (v3L4 + 1))).toNat (by omega) 0 (v3L4 + 1) h14 rfl (by omega) (by omega) Ch14 (Xh14.le (by decide) (by decide))
              · refine zwW_p [(1, 0, 2), (0, -19, 0)] (q := 44) (ls' := [(2, 9), (0, a), (0, v2L4), (0, v3L4)]) (st' := [(0, -19), (2, 9)]) (by decide +kernel) rfl ?_
                refine zwW_cm Ch14.1 (op := 60) (k' := 243) (n := 1) (kd := 7) (m := 9) (nx := 47) (r := 9) (tl := [(0, -19)]) (st' := []) (by decide +kernel) rfl (by decide +kernel) (Nat.ble_eq_true_of_le (by omega)) (x243 h14 Ch14 (-19) (by omega)) ?_
                rintro v17 h18 ⟨Ch18, Qh18, f16⟩
                have Xh18 : zXR msxK (0) (0) h h18 := Xh14.tr (c2 := 0) (s2 := 0) Qh18 (by decide +kernel) (by decide) (by decide)
                refine zwif_eq (q := 54) (nx := 50) (by decide +kernel) (fun c19 => ?_) (fun c19 => ?_)
                · refine zwW_p [(0, 0, 0), (2, 2, 0)] (q := 56) (ls' := [(2, 9), (0, a), (0, 0), (0, v3L4)]) (st' := []) (by decide +kernel) rfl ?_
                  refine zwW_inc (i := 3) (c := 1) (x := v3L4) (nx := 59) (by decide +kernel) rfl (by first | omega | exact ⟨by omega, by omega⟩) (ls' := [(2, 9), (0, a), (0, 0), (0, (v3L4 + 1))]) rfl ?_
                  refine zwW_p [(24, 8, 0)] (q := 8) (ls' := [(2, 9), (0, a), (0, 0), (0, (v3L4 + 1))]) (st' := []) (by decide +kernel) rfl ?_
                  exact IHL4 ((1000 - (v3L4 + 1))).toNat (by omega) 0 (v3L4 + 1) h18 rfl (by omega) (by omega) Ch18 (Xh18.le (by decide) (by decide))
                · refine zwW_p [(0, 1, 0), (24, 55, 0), (2, 2, 0)] (q := 56) (ls' := [(2, 9), (0, a), (0, 1), (0, v3L4)]) (st' := []) (by decide +kernel) rfl ?_
                  refine zwW_inc (i := 3) (c := 1) (x := v3L4) (nx := 59) (by decide +kernel) rfl (by first | omega | exact ⟨by omega, by omega⟩) (ls' := [(2, 9), (0, a), (0, 1), (0, (v3L4 + 1))]) rfl ?_
                  refine zwW_p [(24, 8, 0)] (q := 8) (ls' := [(2, 9), (0, a), (0, 1), (0, (v3L4 + 1))]) (st' := []) (by decide +kernel) rfl ?_
                  exact IHL4 ((1000 - (v3L4 + 1))).toNat (by omega) 1 (v3L4 + 1) h18 rfl (by omega) (by omega) Ch18 (Xh18.le (by decide) (by decide))
          · refine zwif_eq (q := 62) (nx := 28) (by decide +kernel) (fun c20 => ?_) (fun c20 => ?_)
            · refine zwW_p [(1, 2, 0)] (q := 63) (ls' := [(2, 9), (0, a), (0, v2L4), (0, v3L4)]) (st' := [(0, v2L4)]) (by decide +kernel) rfl ?_
              refine zwW_ret (nx := 64) (a := 1) (b := 0) (by decide +kernel) rfl (Or.inr (Or.inl ⟨rfl, by omega⟩)) ?_
              exact ⟨ChL4, XhL4.le (by decide) (by decide), by omega⟩
            · exfalso; omega
  exact L4 _ v2 0 h3 rfl (by omega) (by omega) Ch3 (Xh3.le (by decide) (by decide))
-- WheelLand$Reader.either(I)Z
theorem x242 {sc : List Int} (a : Int) (D0 : Nat) (pa : 0 ≤ a ∧ a ≤ 8) (HS : a < 8 → zKX sc D0 241 (a + 1)) (HT : a < 8 → zKX sc D0 281 (a + 1)) (HE : a < 8 → zKX sc D0 242 (a + 1)) : zKX sc (D0 + 25) 242 a := by
  intro h C
  refine zwC_of (D := D0 + 24) 4 (by decide +kernel) rfl (ls := [(2, 9), (0, a), (9, 0), (9, 0)]) rfl ?_
  have X : zXR msxK 0 0 h h := zXR.rf _ _
  refine zwW_p [(1, 0, 2), (1, 1, 0)] (q := 2) (ls' := [(2, 9), (0, a), (9, 0), (9, 0)]) (st' := [(0, a), (2, 9)]) (by decide +kernel) rfl ?_
  refine zwW_cm C.1 (op := 60) (k' := 263) (n := 1) (kd := 7) (m := 9) (nx := 5) (r := 9) (tl := [(0, a)]) (st' := []) (by decide +kernel) rfl (by decide +kernel) (Nat.ble_eq_true_of_le (by omega)) (x263 a D0 pa HS HT HE h C) ?_
  rintro v2 h3 ⟨Ch3, Qh3, f1⟩
  have Xh3 : zXR msxK (0) (0) h h3 := X.tr (c2 := 0) (s2 := 0) Qh3 (by decide +kernel) (by decide) (by decide)
  refine zwW_p [(2, 2, 0), (0, 0, 0), (2, 3, 0)] (q := 8) (ls' := [(2, 9), (0, a), (0, v2), (0, 0)]) (st' := []) (by decide +kernel) rfl ?_
  have L4 : ∀ (n : Nat) (v2L4 v3L4 : Int) (hL4 : Hp), n = ((1000 - v3L4)).toNat → (0 ≤ v2L4 ∧ v2L4 ≤ 1) → (0 ≤ v3L4 ∧ v3L4 ≤ 1000) → CI hL4 → zXR msxK (0) (0) h hL4 → zwW sc (D0 + 24) 242 8 [(2, 9), (0, a), (0, v2L4), (0, v3L4)] [] hL4 (zwRt 0 (fun x g => CI g ∧ zXR msxK (0) (0) h g ∧ (0 ≤ x ∧ x ≤ 1))) := by
    intro n
    induction n using Nat.strongRecOn with
    | ind n IHL4 =>
      intro v2L4 v3L4 hL4 hnL4 iL4_0 iL4_1 ChL4 XhL4
      refine zwW_p [(1, 3, 0), (0, 400, 0)] (q := 12) (ls' := [(2, 9), (0, a), (0, v2L4), (0, v3L4)]) (st' := [(0, 400), (0, v3L4)]) (by decide +kernel) rfl ?_
      refine zwic_ge (q := 62) (nx := 15) (by decide +kernel) (fun c5 => ?_) (fun c5 => ?_)
      · refine zwW_p [(1, 2, 0)] (q := 63) (ls' := [(2, 9), (0, a), (0, v2L4), (0, v3L4)]) (st' := [(0, v2L4)]) (by decide +kernel) rfl ?_
        refine zwW_ret (nx := 64) (a := 1) (b := 0) (by decide +kernel) rfl (Or.inr (Or.inl ⟨rfl, by omega⟩)) ?_
        exact ⟨ChL4, XhL4.le (by decide) (by decide), by omega⟩
      · refine zwW_p [(1, 2, 0)] (q := 16) (ls' := [(2, 9), (0, a), (0, v2L4), (0, v3L4)]) (st' := [(0, v2L4)]) (by decide +kernel) rfl ?_
        refine zwif_eq (q := 62) (nx := 19) (by decide +kernel) (fun c6 => ?_) (fun c6 => ?_)
        · refine zwW_p [(1, 2, 0)] (q := 63) (ls' := [(2, 9), (0, a), (0, v2L4), (0, v3L4)]) (st' := [(0, v2L4)]) (by decide +kernel) rfl ?_
          refine zwW_ret (nx := 64) (a := 1) (b := 0) (by decide +kernel) rfl (Or.inr (Or.inl ⟨rfl, by omega⟩)) ?_
          exact ⟨ChL4, XhL4.le (by decide) (by decide), by omega⟩
        · refine zwW_p [(1, 0, 2), (0, 18, 0)] (q := 22) (ls' := [(2, 9), (0, a), (0, v2L4), (0, v3L4)]) (st' := [(0, 18), (2, 9)]) (by decide +kernel) rfl ?_
          refine zwW_cm ChL4.1 (op := 60) (k' := 264) (n := 1) (kd := 7) (m := 9) (nx := 25) (r := 9) (tl := [(0, 18)]) (st' := []) (by decide +kernel) rfl (by decide +kernel) (Nat.ble_eq_true_of_le (by omega)) (x264 hL4 ChL4 18 (by omega)) ?_
          rintro x _ ⟨rfl, ⟨rfl, c7⟩ | ⟨rfl, c7⟩⟩
          · refine zwif_eq (q := 62) (nx := 28) (by decide +kernel) (fun c8 => ?_) (fun c8 => ?_)
            · exfalso; omega
            · refine zwW_p [(1, 0, 2)] (q := 29) (ls' := [(2, 9), (0, a), (0, v2L4), (0, v3L4)]) (st' := [(2, 9)]) (by decide +kernel) rfl ?_
              refine zwW_cm ChL4.1 (op := 60) (k' := 198) (n := 0) (kd := 7) (m := 9) (nx := 32) (r := 9) (tl := []) (st' := []) (by decide +kernel) rfl (by decide +kernel) (Nat.ble_eq_true_of_le (by omega)) (x198 hL4 ChL4) ?_
              rintro v10 h11 ⟨Ch11, Qh11, f9⟩
              have Xh11 : zXR msxK (0) (0) h h11 := XhL4.tr (c2 := 0) (s2 := 0) Qh11 (by decide +kernel) (by decide) (by decide)
              refine zwW_p [(15, 0, 0), (1, 0, 2), (1, 1, 0)] (q := 35) (ls' := [(2, 9), (0, a), (0, v2L4), (0, v3L4)]) (st' := [(0, a), (2, 9)]) (by decide +kernel) rfl ?_
              refine zwW_cm Ch11.1 (op := 60) (k' := 263) (n := 1) (kd := 7) (m := 9) (nx := 38) (r := 9) (tl := [(0, a)]) (st' := []) (by decide +kernel) rfl (by decide +kernel) (Nat.ble_eq_true_of_le (by omega)) (x263 a D0 pa HS HT HE h11 Ch11) ?_
              rintro v13 h14 ⟨Ch14, Qh14, f12⟩
              have Xh14 : zXR msxK (0) (0) h h14 := Xh11.tr (c2 := 0) (s2 := 0) Qh14 (by decide +kernel) (by decide) (by decide)
              refine zwif_eq (q := 54) (nx := 41) (by decide +kernel) (fun c15 => ?_) (fun c15 => ?_)
              · refine zwW_p [(0, 0, 0), (2, 2, 0)] (q := 56) (ls' := [(2, 9), (0, a), (0, 0), (0, v3L4)]) (st' := []) (by decide +kernel) rfl ?_
                refine zwW_inc (i := 3) (c := 1) (x := v3L4) (nx := 59) (by decide +kernel) rfl (by first | omega | exact ⟨by omega, by omega⟩) (ls' := [(2, 9), (0, a), (0, 0), (0, (v3L4 + 1))]) rfl ?_
                refine zwW_p [(24, 8, 0)] (q := 8) (ls' := [(2, 9), (0, a), (0, 0), (0, (v3L4 + 1))]) (st' := []) (by decide +kernel) rfl ?_
                exact IHL4 ((1000 - (v3L4 + 1))).toNat (by omega) 0 (v3L4 + 1) h14 rfl (by omega) (by omega) Ch14 (Xh14.le (by decide) (by decide))
              · refine zwW_p [(1, 0, 2), (0, -18, 0)] (q := 44) (ls' := [(2, 9), (0, a), (0, v2L4), (0, v3L4)]) (st' := [(0, -18), (2, 9)]) (by decide +kernel) rfl ?_
                refine zwW_cm Ch14.1 (op := 60) (k' := 243) (n := 1) (kd := 7) (m := 9) (nx := 47) (r := 9) (tl := [(0, -18)]) (st' := []) (by decide +kernel) rfl (by decide +kernel) (Nat.ble_eq_true_of_le (by omega)) (x243 h14 Ch14 (-18) (by omega)) ?_
                rintro v17 h18 ⟨Ch18, Qh18, f16⟩
                have Xh18 : zXR msxK (0) (0) h h18 := Xh14.tr (c2 := 0) (s2 := 0) Qh18 (by decide +kernel) (by decide) (by decide)
                refine zwif_eq (q := 54) (nx := 50) (by decide +kernel) (fun c19 => ?_) (fun c19 => ?_)
                · refine zwW_p [(0, 0, 0), (2, 2, 0)] (q := 56) (ls' := [(2, 9), (0, a), (0, 0), (0, v3L4)]) (st' := []) (by decide +kernel) rfl ?_
                  refine zwW_inc (i := 3) (c := 1) (x := v3L4) (nx := 59) (by decide +kernel) rfl (by first | omega | exact ⟨by omega, by omega⟩) (ls' := [(2, 9), (0, a), (0, 0), (0, (v3L4 + 1))]) rfl ?_
                  refine zwW_p [(24, 8, 0)] (q := 8) (ls' := [(2, 9), (0, a), (0, 0), (0, (v3L4 + 1))]) (st' := []) (by decide +kernel) rfl ?_
                  exact IHL4 ((1000 - (v3L4 + 1))).toNat (by omega) 0 (v3L4 + 1) h18 rfl (by omega) (by omega) Ch18 (Xh18.le (by decide) (by decide))
                · refine zwW_p [(0, 1, 0), (24, 55, 0), (2, 2, 0)] (q := 56) (ls' := [(2, 9), (0, a), (0, 1), (0, v3L4)]) (st' := []) (by decide +kernel) rfl ?_
                  refine zwW_inc (i := 3) (c := 1) (x := v3L4) (nx := 59) (by decide +kernel) rfl (by first | omega | exact ⟨by omega, by omega⟩) (ls' := [(2, 9), (0, a), (0, 1), (0, (v3L4 + 1))]) rfl ?_
                  refine zwW_p [(24, 8, 0)] (q := 8) (ls' := [(2, 9), (0, a), (0, 1), (0, (v3L4 + 1))]) (st' := []) (by decide +kernel) rfl ?_
                  exact IHL4 ((1000 - (v3L4 + 1))).toNat (by omega) 1 (v3L4 + 1) h18 rfl (by omega) (by omega) Ch18 (Xh18.le (by decide) (by decide))
          · refine zwif_eq (q := 62) (nx := 28) (by decide +kernel) (fun c20 => ?_) (fun c20 => ?_)
            · refine zwW_p [(1, 2, 0)] (q := 63) (ls' := [(2, 9), (0, a), (0, v2L4), (0, v3L4)]) (st' := [(0, v2L4)]) (by decide +kernel) rfl ?_
              refine zwW_ret (nx := 64) (a := 1) (b := 0) (by decide +kernel) rfl (Or.inr (Or.inl ⟨rfl, by omega⟩)) ?_
              exact ⟨ChL4, XhL4.le (by decide) (by decide), by omega⟩
            · exfalso; omega
  exact L4 _ v2 0 h3 rfl (by omega) (by omega) Ch3 (Xh3.le (by decide) (by decide))
-- WheelLand$Handwork.search(II)V
theorem x212 {sc : List Int} (a : Int) (D0 : Nat) (pa : 0 ≤ a ∧ a ≤ 6) (HS : a < 6 → zKS sc D0 (a + 1)) : zKS sc (D0 + 9) a := by
  intro h C b q_b
  refine zwC_of (D := D0 + 8) 4 (by decide +kernel) rfl (ls := [(2, 19), (0, a), (0, b), (9, 0)]) rfl ?_
  have X : zXR msxT 0 0 h h := zXR.rf _ _
  refine zwW_p [(1, 2, 0), (1, 0, 2)] (q := 2) (ls' := [(2, 19), (0, a), (0, b), (9, 0)]) (st' := [(2, 19), (0, b)]) (by decide +kernel) rfl ?_
  refine zwW_gs C.1 (kd := 3) (bn := 4) (n := 10) (t := 0) (lo := -2147483648) (hi := 2147483647) (nx := 5) (by decide +kernel) ?_
  intro v1 ev1 lv1 uv1
  refine zwic_lt (q := 9) (nx := 8) (by decide +kernel) (fun c2 => ?_) (fun c2 => ?_)
  · refine zwW_p [(1, 1, 0), (1, 0, 2)] (q := 11) (ls' := [(2, 19), (0, a), (0, b), (9, 0)]) (st' := [(2, 19), (0, a)]) (by decide +kernel) rfl ?_
    refine zwW_gc C.1 (kd := 3) (bn := 0) (n := 10) (c := 20) (nx := 14) (by decide +kernel) ?_
    refine zwW_cm C.1 (op := 60) (k' := 96) (n := 0) (kd := 0) (m := 3) (nx := 17) (r := 20) (tl := []) (st' := [(0, a)]) (by decide +kernel) rfl (by decide +kernel) rfl (x96_20 C) ?_
    rintro v3 _ ⟨rfl, ev3⟩
    have bv3 := zLb_20 C
    refine zwic_ge (q := 26) (nx := 20) (by decide +kernel) (fun c4 => ?_) (fun c4 => ?_)
    · refine zwW_p [(1, 0, 2), (1, 2, 0)] (q := 28) (ls' := [(2, 19), (0, a), (0, b), (9, 0)]) (st' := [(0, b), (2, 19)]) (by decide +kernel) rfl ?_
      refine zwW_ps C.1 (kd := 3) (bn := 4) (n := 10) (lo := -2147483648) (hi := 2147483647) (nx := 31) (by decide +kernel) (by first | omega | exact ⟨by omega, by omega⟩) ?_
      intro h5 eh5 Ih5
      have Ch5 : CI h5 := C.wc eh5 Ih5 (by decide) (by decide)
      have Qh5 : zXR [(19, 19, 4, 5)] 0 0 h h5 := zXR.wc eh5 rfl ⟨by decide, by decide, Or.inl (by decide)⟩ (by first | decide | exact ⟨by decide, by decide⟩)
      have Xh5 : zXR msxT (0) (0) h h5 := X.tr (c2 := 0) (s2 := 0) Qh5 (by decide +kernel) (by decide) (by decide)
      have th5_21_2 : fld h5 21 2 = fld h 21 2 := Qh5.f (a1 := 21) (a2 := 21) (j1 := 2) (j2 := 3) (by decide +kernel) (by first | decide | exact ⟨by decide, by decide⟩) (by first | decide | exact ⟨by decide, by decide⟩) (by first | decide | exact ⟨by decide, by decide⟩)
      refine zwW_p [(1, 0, 2)] (q := 32) (ls' := [(2, 19), (0, a), (0, b), (9, 0)]) (st' := [(2, 19)]) (by decide +kernel) rfl ?_
      refine zwW_gc Ch5.1 (kd := 3) (bn := 8) (n := 10) (c := 25) (nx := 35) (by decide +kernel) ?_
      refine zwW_p [(0, 0, 0), (1, 0, 2)] (q := 37) (ls' := [(2, 19), (0, a), (0, b), (9, 0)]) (st' := [(2, 19), (0, 0), (2, 25)]) (by decide +kernel) rfl ?_
      refine zwW_gc Ch5.1 (kd := 3) (bn := 9) (n := 10) (c := 26) (nx := 40) (by decide +kernel) ?_
      refine zwW_p [(0, 0, 0), (0, 6, 0)] (q := 43) (ls' := [(2, 19), (0, a), (0, b), (9, 0)]) (st' := [(0, 6), (0, 0), (2, 26), (0, 0), (2, 25)]) (by decide +kernel) rfl ?_
      refine zwX_copy Ch5 (A := 25) (B := 26) (n := 6) (nx := 46) (by decide +kernel) (by decide +kernel) (by decide +kernel) (Ch5.1.s (a1 := 25) (a2 := 25) (by decide +kernel) (by decide) (by decide)) (Ch5.1.s (a1 := 26) (a2 := 26) (by decide +kernel) (by decide) (by decide)) (by decide) rfl ?_
      rintro h6 Ch6 Qh6 fh6 oh6
      have Xh6 : zXR msxT (0) (0) h h6 := Xh5.tr (c2 := 0) (s2 := 0) Qh6 (by decide +kernel) (by decide) (by decide)
      have th6_21_2 : fld h6 21 2 = fld h5 21 2 := Qh6.f (a1 := 21) (a2 := 21) (j1 := 2) (j2 := 3) (by decide +kernel) (by first | decide | exact ⟨by decide, by decide⟩) (by first | decide | exact ⟨by decide, by decide⟩) (by first | decide | exact ⟨by decide, by decide⟩)
      refine zwW_retv (nx := 47) (a := 0) (b := 0) (by decide +kernel) ?_
      exact ⟨Ch6, Xh6.le (by decide) (by decide)⟩
    · refine zwW_p [(1, 1, 0), (0, 6, 0)] (q := 23) (ls' := [(2, 19), (0, a), (0, b), (9, 0)]) (st' := [(0, 6), (0, a)]) (by decide +kernel) rfl ?_
      refine zwic_lt (q := 47) (nx := 26) (by decide +kernel) (fun c7 => ?_) (fun c7 => ?_)
      · refine zwW_p [(1, 0, 2)] (q := 48) (ls' := [(2, 19), (0, a), (0, b), (9, 0)]) (st' := [(2, 19)]) (by decide +kernel) rfl ?_
        refine zwW_gc C.1 (kd := 3) (bn := 8) (n := 10) (c := 25) (nx := 51) (by decide +kernel) ?_
        refine zwW_p [(1, 1, 0), (0, -1, 0)] (q := 53) (ls' := [(2, 19), (0, a), (0, b), (9, 0)]) (st' := [(0, -1), (0, a), (2, 25)]) (by decide +kernel) rfl ?_
        refine zwW_as C.1 (a1 := 25) (a2 := 25) (n := 6) (lo := -2147483648) (hi := 2147483647) (nx := 54) (by decide +kernel) (by first | decide | exact ⟨by decide, by decide⟩) (by first | omega | exact ⟨by omega, by omega⟩) (by first | decide | exact ⟨by decide, by decide⟩) ?_
        intro h8 eh8 Ih8
        have Ch8 : CI h8 := C.wc eh8 Ih8 (by decide) (by decide)
        have Qh8 : zXR [(25, 25, 0, 6)] 0 0 h h8 := zXR.wc eh8 rfl ⟨by decide, by decide, Or.inl (by decide)⟩ (by first | omega | exact ⟨by omega, by omega⟩)
        have Xh8 : zXR msxT (0) (0) h h8 := X.tr (c2 := 0) (s2 := 0) Qh8 (by decide +kernel) (by decide) (by decide)
        have th8_21_2 : fld h8 21 2 = fld h 21 2 := Qh8.f (a1 := 21) (a2 := 21) (j1 := 2) (j2 := 3) (by decide +kernel) (by first | decide | exact ⟨by decide, by decide⟩) (by first | decide | exact ⟨by decide, by decide⟩) (by first | decide | exact ⟨by decide, by decide⟩)
        refine zwW_p [(1, 0, 2)] (q := 55) (ls' := [(2, 19), (0, a), (0, b), (9, 0)]) (st' := [(2, 19)]) (by decide +kernel) rfl ?_
        refine zwW_gc Ch8.1 (kd := 3) (bn := 6) (n := 10) (c := 23) (nx := 58) (by decide +kernel) ?_
        refine zwW_p [(1, 1, 0)] (q := 59) (ls' := [(2, 19), (0, a), (0, b), (9, 0)]) (st' := [(0, a), (2, 23)]) (by decide +kernel) rfl ?_
        refine zwW_al Ch8.1 (a1 := 23) (a2 := 23) (kd := 20) (n := 6) (t := 0) (lo := -2147483648) (hi := 2147483647) (nx := 60) (by decide +kernel) (by first | decide | exact ⟨by decide, by decide⟩) (by first | omega | exact ⟨by omega, by omega⟩) ?_
        intro v9 ev9 lv9 uv9
        refine zwif_ne (q := 71) (nx := 63) (by decide +kernel) (fun c10 => ?_) (fun c10 => ?_)
        · refine zwW_p [(0, 0, 0), (2, 3, 0)] (q := 73) (ls' := [(2, 19), (0, a), (0, b), (0, 0)]) (st' := []) (by decide +kernel) rfl ?_
          have L11 : ∀ (n : Nat) (v3L11 : Int) (hL11 : Hp), n = ((1000 - v3L11)).toNat → (0 ≤ v3L11 ∧ v3L11 ≤ 1000) → CI hL11 → zXR msxT (0) (0) h hL11 → zwW sc (D0 + 8) 212 73 [(2, 19), (0, a), (0, b), (0, v3L11)] [] hL11 (zwRv (fun g => CI g ∧ zXR msxT (0) (0) h g)) := by
            intro n
            induction n using Nat.strongRecOn with
            | ind n IHL11 =>
              intro v3L11 hL11 hnL11 iL11_0 ChL11 XhL11
              refine zwW_p [(1, 3, 0), (1, 0, 2)] (q := 75) (ls' := [(2, 19), (0, a), (0, b), (0, v3L11)]) (st' := [(2, 19), (0, v3L11)]) (by decide +kernel) rfl ?_
              refine zwW_gc ChL11.1 (kd := 3) (bn := 1) (n := 10) (c := 21) (nx := 78) (by decide +kernel) ?_
              refine zwW_cm ChL11.1 (op := 60) (k' := 96) (n := 0) (kd := 0) (m := 3) (nx := 81) (r := 21) (tl := []) (st' := [(0, v3L11)]) (by decide +kernel) rfl (by decide +kernel) rfl (x96_21 ChL11) ?_
              rintro v12 _ ⟨rfl, ev12⟩
              have bv12 := zLb_21 ChL11
              refine zwic_ge (q := 180) (nx := 84) (by decide +kernel) (fun c13 => ?_) (fun c13 => ?_)
              · refine zwW_retv (nx := 181) (a := 0) (b := 0) (by decide +kernel) ?_
                exact ⟨ChL11, XhL11.le (by decide) (by decide)⟩
              · refine zwW_p [(1, 3, 0), (0, 6, 0)] (q := 87) (ls' := [(2, 19), (0, a), (0, b), (0, v3L11)]) (st' := [(0, 6), (0, v3L11)]) (by decide +kernel) rfl ?_
                refine zwic_ge (q := 180) (nx := 90) (by decide +kernel) (fun c14 => ?_) (fun c14 => ?_)
                · exfalso; omega
                · refine zwW_p [(1, 0, 2)] (q := 91) (ls' := [(2, 19), (0, a), (0, b), (0, v3L11)]) (st' := [(2, 19)]) (by decide +kernel) rfl ?_
                  refine zwW_gc ChL11.1 (kd := 3) (bn := 6) (n := 10) (c := 23) (nx := 94) (by decide +kernel) ?_
                  refine zwW_p [(1, 1, 0)] (q := 95) (ls' := [(2, 19), (0, a), (0, b), (0, v3L11)]) (st' := [(0, a), (2, 23)]) (by decide +kernel) rfl ?_
                  refine zwW_al ChL11.1 (a1 := 23) (a2 := 23) (kd := 20) (n := 6) (t := 0) (lo := -2147483648) (hi := 2147483647) (nx := 96) (by decide +kernel) (by first | decide | exact ⟨by decide, by decide⟩) (by first | omega | exact ⟨by omega, by omega⟩) ?_
                  intro v15 ev15 lv15 uv15
                  refine zwW_p [(1, 3, 0)] (q := 97) (ls' := [(2, 19), (0, a), (0, b), (0, v3L11)]) (st' := [(0, v3L11), (0, v15)]) (by decide +kernel) rfl ?_
                  refine zwW_any2 (a := 9) (nx := 98) (by decide +kernel) rfl (by first | omega | exact ⟨by omega, by omega⟩) (Or.inr (by first | decide | exact ⟨by decide, by decide⟩)) ?_
                  intro v16 lv16 uv16
                  refine zwW_p [(0, 1, 0)] (q := 99) (ls' := [(2, 19), (0, a), (0, b), (0, v3L11)]) (st' := [(0, 1), (0, v16)]) (by decide +kernel) rfl ?_
                  refine zwW_any2 (a := 5) (nx := 100) (by decide +kernel) rfl (by first | omega | exact ⟨by omega, by omega⟩) (Or.inr (by first | decide | exact ⟨by decide, by decide⟩)) ?_
                  intro v17 lv17 uv17
                  refine zwif_eq (q := 174) (nx := 103) (by decide +kernel) (fun c18 => ?_) (fun c18 => ?_)
                  · refine zwW_inc (i := 3) (c := 1) (x := v3L11) (nx := 177) (by decide +kernel) rfl (by first | omega | exact ⟨by omega, by omega⟩) (ls' := [(2, 19), (0, a), (0, b), (0, (v3L11 + 1))]) rfl ?_
                    refine zwW_p [(24, 73, 0)] (q := 73) (ls' := [(2, 19), (0, a), (0, b), (0, (v3L11 + 1))]) (st' := []) (by decide +kernel) rfl ?_
                    exact IHL11 ((1000 - (v3L11 + 1))).toNat (by omega) (v3L11 + 1) hL11 rfl (by omega) ChL11 (XhL11.le (by decide) (by decide))
                  · refine zwW_p [(1, 0, 2)] (q := 104) (ls' := [(2, 19), (0, a), (0, b), (0, v3L11)]) (st' := [(2, 19)]) (by decide +kernel) rfl ?_
                    refine zwW_gc ChL11.1 (kd := 3) (bn := 8) (n := 10) (c := 25) (nx := 107) (by decide +kernel) ?_
                    refine zwW_p [(1, 1, 0), (1, 3, 0)] (q := 109) (ls' := [(2, 19), (0, a), (0, b), (0, v3L11)]) (st' := [(0, v3L11), (0, a), (2, 25)]) (by decide +kernel) rfl ?_
                    refine zwW_as ChL11.1 (a1 := 25) (a2 := 25) (n := 6) (lo := -2147483648) (hi := 2147483647) (nx := 110) (by decide +kernel) (by first | decide | exact ⟨by decide, by decide⟩) (by first | omega | exact ⟨by omega, by omega⟩) (by first | omega | exact ⟨by omega, by omega⟩) ?_
                    intro h19 eh19 Ih19
                    have Ch19 : CI h19 := ChL11.wc eh19 Ih19 (by decide) (by decide)
                    have Qh19 : zXR [(25, 25, 0, 6)] 0 0 hL11 h19 := zXR.wc eh19 rfl ⟨by decide, by decide, Or.inl (by decide)⟩ (by first | omega | exact ⟨by omega, by omega⟩)
                    have Xh19 : zXR msxT (0) (0) h h19 := XhL11.tr (c2 := 0) (s2 := 0) Qh19 (by decide +kernel) (by decide) (by decide)
                    have th19_21_2 : fld h19 21 2 = fld hL11 21 2 := Qh19.f (a1 := 21) (a2 := 21) (j1 := 2) (j2 := 3) (by decide +kernel) (by first | decide | exact ⟨by decide, by decide⟩) (by first | decide | exact ⟨by decide, by decide⟩) (by first | decide | exact ⟨by decide, by decide⟩)
                    refine zwW_p [(1, 0, 2)] (q := 111) (ls' := [(2, 19), (0, a), (0, b), (0, v3L11)]) (st' := [(2, 19)]) (by decide +kernel) rfl ?_
                    refine zwW_gc Ch19.1 (kd := 3) (bn := 7) (n := 10) (c := 24) (nx := 114) (by decide +kernel) ?_
                    refine zwW_p [(1, 3, 0), (14, 0, 0)] (q := 116) (ls' := [(2, 19), (0, a), (0, b), (0, v3L11)]) (st' := [(0, v3L11), (2, 24), (0, v3L11), (2, 24)]) (by decide +kernel) rfl ?_
                    refine zwW_al Ch19.1 (a1 := 24) (a2 := 24) (kd := 20) (n := 6) (t := 0) (lo := -2147483648) (hi := 2147483647) (nx := 117) (by decide +kernel) (by first | decide | exact ⟨by decide, by decide⟩) (by first | omega | exact ⟨by omega, by omega⟩) ?_
                    intro v20 ev20 lv20 uv20
                    refine zwW_p [(1, 0, 2)] (q := 118) (ls' := [(2, 19), (0, a), (0, b), (0, v3L11)]) (st' := [(2, 19), (0, v20), (0, v3L11), (2, 24)]) (by decide +kernel) rfl ?_
                    refine zwW_gc Ch19.1 (kd := 3) (bn := 5) (n := 10) (c := 22) (nx := 121) (by decide +kernel) ?_
                    refine zwW_p [(1, 1, 0)] (q := 122) (ls' := [(2, 19), (0, a), (0, b), (0, v3L11)]) (st' := [(0, a), (2, 22), (0, v20), (0, v3L11), (2, 24)]) (by decide +kernel) rfl ?_
                    refine zwW_al Ch19.1 (a1 := 22) (a2 := 22) (kd := 20) (n := 6) (t := 0) (lo := -2147483648) (hi := 2147483647) (nx := 123) (by decide +kernel) (by first | decide | exact ⟨by decide, by decide⟩) (by first | omega | exact ⟨by omega, by omega⟩) ?_
                    intro v21 ev21 lv21 uv21
                    refine zwW_adw (nx := 124) (by decide +kernel) ?_
                    intro v22 ev22 lv22 uv22
                    refine zwW_as Ch19.1 (a1 := 24) (a2 := 24) (n := 6) (lo := -2147483648) (hi := 2147483647) (nx := 125) (by decide +kernel) (by first | decide | exact ⟨by decide, by decide⟩) (by first | omega | exact ⟨by omega, by omega⟩) (by first | omega | exact ⟨by omega, by omega⟩) ?_
                    intro h23 eh23 Ih23
                    have Ch23 : CI h23 := Ch19.wc eh23 Ih23 (by decide) (by decide)
                    have Qh23 : zXR [(24, 24, 0, 6)] 0 0 h19 h23 := zXR.wc eh23 rfl ⟨by decide, by decide, Or.inl (by decide)⟩ (by first | omega | exact ⟨by omega, by omega⟩)
                    have Xh23 : zXR msxT (0) (0) h h23 := Xh19.tr (c2 := 0) (s2 := 0) Qh23 (by decide +kernel) (by decide) (by decide)
                    have th23_21_2 : fld h23 21 2 = fld h19 21 2 := Qh23.f (a1 := 21) (a2 := 21) (j1 := 2) (j2 := 3) (by decide +kernel) (by first | decide | exact ⟨by decide, by decide⟩) (by first | decide | exact ⟨by decide, by decide⟩) (by first | decide | exact ⟨by decide, by decide⟩)
                    refine zwW_p [(1, 0, 2), (1, 1, 0), (0, 1, 0)] (q := 128) (ls' := [(2, 19), (0, a), (0, b), (0, v3L11)]) (st' := [(0, 1), (0, a), (2, 19)]) (by decide +kernel) rfl ?_
                    refine zwW_add (nx := 129) (by decide +kernel) (by first | omega | exact ⟨by omega, by omega⟩) ?_
                    refine zwW_p [(1, 2, 0), (1, 0, 2)] (q := 131) (ls' := [(2, 19), (0, a), (0, b), (0, v3L11)]) (st' := [(2, 19), (0, b), (0, (a + 1)), (2, 19)]) (by decide +kernel) rfl ?_
                    refine zwW_gc Ch23.1 (kd := 3) (bn := 7) (n := 10) (c := 24) (nx := 134) (by decide +kernel) ?_
                    refine zwW_p [(1, 3, 0)] (q := 135) (ls' := [(2, 19), (0, a), (0, b), (0, v3L11)]) (st' := [(0, v3L11), (2, 24), (0, b), (0, (a + 1)), (2, 19)]) (by decide +kernel) rfl ?_
                    refine zwW_al Ch23.1 (a1 := 24) (a2 := 24) (kd := 20) (n := 6) (t := 0) (lo := -2147483648) (hi := 2147483647) (nx := 136) (by decide +kernel) (by first | decide | exact ⟨by decide, by decide⟩) (by first | omega | exact ⟨by omega, by omega⟩) ?_
                    intro v24 ev24 lv24 uv24
                    refine zwW_p [(1, 0, 2)] (q := 137) (ls' := [(2, 19), (0, a), (0, b), (0, v3L11)]) (st' := [(2, 19), (0, v24), (0, b), (0, (a + 1)), (2, 19)]) (by decide +kernel) rfl ?_
                    refine zwW_gc Ch23.1 (kd := 3) (bn := 1) (n := 10) (c := 21) (nx := 140) (by decide +kernel) ?_
                    refine zwW_p [(1, 3, 0)] (q := 141) (ls' := [(2, 19), (0, a), (0, b), (0, v3L11)]) (st' := [(0, v3L11), (2, 21), (0, v24), (0, b), (0, (a + 1)), (2, 19)]) (by decide +kernel) rfl ?_
                    refine zwW_cm Ch23.1 (op := 60) (k' := 123) (n := 1) (kd := 0) (m := 3) (nx := 144) (r := 21) (tl := [(0, v3L11)]) (st' := [(0, v24), (0, b), (0, (a + 1)), (2, 19)]) (by decide +kernel) rfl (by decide +kernel) rfl (x123_21 Ch23 (i := v3L11) (by first | omega | exact ⟨by omega, by omega⟩)) ?_
                    rintro v25 _ ⟨rfl, Gv25, ev25⟩
                    have lv25 := Gv25.1
                    refine zwW_cast (a := 4) (kd := 4) (n := 19) (nx := 147) (by decide +kernel) rfl (Or.inr Gv25.2.1) ?_
                    refine zwX_gi Ch23 (kd := 4) (bn := 13) (n := 19) (nx := 150) (by decide +kernel) Gv25.2.1 Gv25.1 rfl ?_
                    intro v26 ev26 lv26 uv26
                    refine zwW_cs (k' := 151) (n := 2) (nx := 153) (as := [(0, v24), (0, v26)]) (st' := [(0, b), (0, (a + 1)), (2, 19)]) (by decide +kernel) rfl (x151 h23 Ch23 v24 v26 (by omega) (by omega)) (Nat.ble_eq_true_of_le (by omega)) ?_
                    rintro v27 _ ⟨rfl, f28⟩
                    refine zwW_max (nx := 156) (by decide +kernel) rfl ?_
                    intro v29 ev29
                    refine zwW_cmv Ch23.1 (op := 60) (k' := 212) (n := 2) (kd := 3) (m := 10) (nx := 159) (r := 19) (tl := [(0, (a + 1)), (0, v29)]) (st' := []) (by decide +kernel) rfl (by decide +kernel) (Nat.ble_eq_true_of_le (by omega)) (HS (by omega) h23 Ch23 v29 (by omega)) ?_
                    rintro h30 ⟨Ch30, Qh30⟩
                    have Xh30 : zXR msxT (0) (0) h h30 := Xh23.tr (c2 := 0) (s2 := 0) Qh30 (by decide +kernel) (by decide) (by decide)
                    have th30_21_2 : fld h30 21 2 = fld h23 21 2 := Qh30.f (a1 := 21) (a2 := 21) (j1 := 2) (j2 := 3) (by decide +kernel) (by first | decide | exact ⟨by decide, by decide⟩) (by first | decide | exact ⟨by decide, by decide⟩) (by first | decide | exact ⟨by decide, by decide⟩)
                    refine zwW_p [(1, 0, 2)] (q := 160) (ls' := [(2, 19), (0, a), (0, b), (0, v3L11)]) (st' := [(2, 19)]) (by decide +kernel) rfl ?_
                    refine zwW_gc Ch30.1 (kd := 3) (bn := 7) (n := 10) (c := 24) (nx := 163) (by decide +kernel) ?_
                    refine zwW_p [(1, 3, 0), (14, 0, 0)] (q := 165) (ls' := [(2, 19), (0, a), (0, b), (0, v3L11)]) (st' := [(0, v3L11), (2, 24), (0, v3L11), (2, 24)]) (by decide +kernel) rfl ?_
                    refine zwW_al Ch30.1 (a1 := 24) (a2 := 24) (kd := 20) (n := 6) (t := 0) (lo := -2147483648) (hi := 2147483647) (nx := 166) (by decide +kernel) (by first | decide | exact ⟨by decide, by decide⟩) (by first | omega | exact ⟨by omega, by omega⟩) ?_
                    intro v31 ev31 lv31 uv31
                    refine zwW_p [(1, 0, 2)] (q := 167) (ls' := [(2, 19), (0, a), (0, b), (0, v3L11)]) (st' := [(2, 19), (0, v31), (0, v3L11), (2, 24)]) (by decide +kernel) rfl ?_
                    refine zwW_gc Ch30.1 (kd := 3) (bn := 5) (n := 10) (c := 22) (nx := 170) (by decide +kernel) ?_
                    refine zwW_p [(1, 1, 0)] (q := 171) (ls' := [(2, 19), (0, a), (0, b), (0, v3L11)]) (st' := [(0, a), (2, 22), (0, v31), (0, v3L11), (2, 24)]) (by decide +kernel) rfl ?_
                    refine zwW_al Ch30.1 (a1 := 22) (a2 := 22) (kd := 20) (n := 6) (t := 0) (lo := -2147483648) (hi := 2147483647) (nx := 172) (by decide +kernel) (by first | decide | exact ⟨by decide, by decide⟩) (by first | omega | exact ⟨by omega, by omega⟩) ?_
                    intro v32 ev32 lv32 uv32
                    refine zwW_sbw (nx := 173) (by decide +kernel) ?_
                    intro v33 ev33 lv33 uv33
                    refine zwW_as Ch30.1 (a1 := 24) (a2 := 24) (n := 6) (lo := -2147483648) (hi := 2147483647) (nx := 174) (by decide +kernel) (by first | decide | exact ⟨by decide, by decide⟩) (by first | omega | exact ⟨by omega, by omega⟩) (by first | omega | exact ⟨by omega, by omega⟩) ?_
                    intro h34 eh34 Ih34
                    have Ch34 : CI h34 := Ch30.wc eh34 Ih34 (by decide) (by decide)
                    have Qh34 : zXR [(24, 24, 0, 6)] 0 0 h30 h34 := zXR.wc eh34 rfl ⟨by decide, by decide, Or.inl (by decide)⟩ (by first | omega | exact ⟨by omega, by omega⟩)
                    have Xh34 : zXR msxT (0) (0) h h34 := Xh30.tr (c2 := 0) (s2 := 0) Qh34 (by decide +kernel) (by decide) (by decide)
                    have th34_21_2 : fld h34 21 2 = fld h30 21 2 := Qh34.f (a1 := 21) (a2 := 21) (j1 := 2) (j2 := 3) (by decide +kernel) (by first | decide | exact ⟨by decide, by decide⟩) (by first | decide | exact ⟨by decide, by decide⟩) (by first | decide | exact ⟨by decide, by decide⟩)
                    refine zwW_inc (i := 3) (c := 1) (x := v3L11) (nx := 177) (by decide +kernel) rfl (by first | omega | exact ⟨by omega, by omega⟩) (ls' := [(2, 19), (0, a), (0, b), (0, (v3L11 + 1))]) rfl ?_
                    refine zwW_p [(24, 73, 0)] (q := 73) (ls' := [(2, 19), (0, a), (0, b), (0, (v3L11 + 1))]) (st' := []) (by decide +kernel) rfl ?_
                    exact IHL11 ((1000 - (v3L11 + 1))).toNat (by omega) (v3L11 + 1) h34 rfl (by omega) Ch34 (Xh34.le (by decide) (by decide))
          exact L11 _ 0 h8 rfl (by omega) Ch8 (Xh8.le (by decide) (by decide))
        · refine zwW_p [(1, 0, 2), (1, 1, 0), (0, 1, 0)] (q := 66) (ls' := [(2, 19), (0, a), (0, b), (9, 0)]) (st' := [(0, 1), (0, a), (2, 19)]) (by decide +kernel) rfl ?_
          refine zwW_add (nx := 67) (by decide +kernel) (by first | omega | exact ⟨by omega, by omega⟩) ?_
          refine zwW_p [(1, 2, 0)] (q := 68) (ls' := [(2, 19), (0, a), (0, b), (9, 0)]) (st' := [(0, b), (0, (a + 1)), (2, 19)]) (by decide +kernel) rfl ?_
          refine zwW_cmv Ch8.1 (op := 60) (k' := 212) (n := 2) (kd := 3) (m := 10) (nx := 71) (r := 19) (tl := [(0, (a + 1)), (0, b)]) (st' := []) (by decide +kernel) rfl (by decide +kernel) (Nat.ble_eq_true_of_le (by omega)) (HS (by omega) h8 Ch8 b (by omega)) ?_
          rintro h35 ⟨Ch35, Qh35⟩
          have Xh35 : zXR msxT (0) (0) h h35 := Xh8.tr (c2 := 0) (s2 := 0) Qh35 (by decide +kernel) (by decide) (by decide)
          have th35_21_2 : fld h35 21 2 = fld h8 21 2 := Qh35.f (a1 := 21) (a2 := 21) (j1 := 2) (j2 := 3) (by decide +kernel) (by first | decide | exact ⟨by decide, by decide⟩) (by first | decide | exact ⟨by decide, by decide⟩) (by first | decide | exact ⟨by decide, by decide⟩)
          refine zwW_p [(0, 0, 0), (2, 3, 0)] (q := 73) (ls' := [(2, 19), (0, a), (0, b), (0, 0)]) (st' := []) (by decide +kernel) rfl ?_
          have L36 : ∀ (n : Nat) (v3L36 : Int) (hL36 : Hp), n = ((1000 - v3L36)).toNat → (0 ≤ v3L36 ∧ v3L36 ≤ 1000) → CI hL36 → zXR msxT (0) (0) h hL36 → zwW sc (D0 + 8) 212 73 [(2, 19), (0, a), (0, b), (0, v3L36)] [] hL36 (zwRv (fun g => CI g ∧ zXR msxT (0) (0) h g)) := by
            intro n
            induction n using Nat.strongRecOn with
            | ind n IHL36 =>
              intro v3L36 hL36 hnL36 iL36_0 ChL36 XhL36
              refine zwW_p [(1, 3, 0), (1, 0, 2)] (q := 75) (ls' := [(2, 19), (0, a), (0, b), (0, v3L36)]) (st' := [(2, 19), (0, v3L36)]) (by decide +kernel) rfl ?_
              refine zwW_gc ChL36.1 (kd := 3) (bn := 1) (n := 10) (c := 21) (nx := 78) (by decide +kernel) ?_
              refine zwW_cm ChL36.1 (op := 60) (k' := 96) (n := 0) (kd := 0) (m := 3) (nx := 81) (r := 21) (tl := []) (st' := [(0, v3L36)]) (by decide +kernel) rfl (by decide +kernel) rfl (x96_21 ChL36) ?_
              rintro v37 _ ⟨rfl, ev37⟩
              have bv37 := zLb_21 ChL36
              refine zwic_ge (q := 180) (nx := 84) (by decide +kernel) (fun c38 => ?_) (fun c38 => ?_)
              · refine zwW_retv (nx := 181) (a := 0) (b := 0) (by decide +kernel) ?_
                exact ⟨ChL36, XhL36.le (by decide) (by decide)⟩
              · refine zwW_p [(1, 3, 0), (0, 6, 0)] (q := 87) (ls' := [(2, 19), (0, a), (0, b), (0, v3L36)]) (st' := [(0, 6), (0, v3L36)]) (by decide +kernel) rfl ?_
                refine zwic_ge (q := 180) (nx := 90) (by decide +kernel) (fun c39 => ?_) (fun c39 => ?_)
                · exfalso; omega
                · refine zwW_p [(1, 0, 2)] (q := 91) (ls' := [(2, 19), (0, a), (0, b), (0, v3L36)]) (st' := [(2, 19)]) (by decide +kernel) rfl ?_
                  refine zwW_gc ChL36.1 (kd := 3) (bn := 6) (n := 10) (c := 23) (nx := 94) (by decide +kernel) ?_
                  refine zwW_p [(1, 1, 0)] (q := 95) (ls' := [(2, 19), (0, a), (0, b), (0, v3L36)]) (st' := [(0, a), (2, 23)]) (by decide +kernel) rfl ?_
                  refine zwW_al ChL36.1 (a1 := 23) (a2 := 23) (kd := 20) (n := 6) (t := 0) (lo := -2147483648) (hi := 2147483647) (nx := 96) (by decide +kernel) (by first | decide | exact ⟨by decide, by decide⟩) (by first | omega | exact ⟨by omega, by omega⟩) ?_
                  intro v40 ev40 lv40 uv40
                  refine zwW_p [(1, 3, 0)] (q := 97) (ls' := [(2, 19), (0, a), (0, b), (0, v3L36)]) (st' := [(0, v3L36), (0, v40)]) (by decide +kernel) rfl ?_
                  refine zwW_any2 (a := 9) (nx := 98) (by decide +kernel) rfl (by first | omega | exact ⟨by omega, by omega⟩) (Or.inr (by first | decide | exact ⟨by decide, by decide⟩)) ?_
                  intro v41 lv41 uv41
                  refine zwW_p [(0, 1, 0)] (q := 99) (ls' := [(2, 19), (0, a), (0, b), (0, v3L36)]) (st' := [(0, 1), (0, v41)]) (by decide +kernel) rfl ?_
                  refine zwW_any2 (a := 5) (nx := 100) (by decide +kernel) rfl (by first | omega | exact ⟨by omega, by omega⟩) (Or.inr (by first | decide | exact ⟨by decide, by decide⟩)) ?_
                  intro v42 lv42 uv42
                  refine zwif_eq (q := 174) (nx := 103) (by decide +kernel) (fun c43 => ?_) (fun c43 => ?_)
                  · refine zwW_inc (i := 3) (c := 1) (x := v3L36) (nx := 177) (by decide +kernel) rfl (by first | omega | exact ⟨by omega, by omega⟩) (ls' := [(2, 19), (0, a), (0, b), (0, (v3L36 + 1))]) rfl ?_
                    refine zwW_p [(24, 73, 0)] (q := 73) (ls' := [(2, 19), (0, a), (0, b), (0, (v3L36 + 1))]) (st' := []) (by decide +kernel) rfl ?_
                    exact IHL36 ((1000 - (v3L36 + 1))).toNat (by omega) (v3L36 + 1) hL36 rfl (by omega) ChL36 (XhL36.le (by decide) (by decide))
                  · refine zwW_p [(1, 0, 2)] (q := 104) (ls' := [(2, 19), (0, a), (0, b), (0, v3L36)]) (st' := [(2, 19)]) (by decide +kernel) rfl ?_
                    refine zwW_gc ChL36.1 (kd := 3) (bn := 8) (n := 10) (c := 25) (nx := 107) (by decide +kernel) ?_
                    refine zwW_p [(1, 1, 0), (1, 3, 0)] (q := 109) (ls' := [(2, 19), (0, a), (0, b), (0, v3L36)]) (st' := [(0, v3L36), (0, a), (2, 25)]) (by decide +kernel) rfl ?_
                    refine zwW_as ChL36.1 (a1 := 25) (a2 := 25) (n := 6) (lo := -2147483648) (hi := 2147483647) (nx := 110) (by decide +kernel) (by first | decide | exact ⟨by decide, by decide⟩) (by first | omega | exact ⟨by omega, by omega⟩) (by first | omega | exact ⟨by omega, by omega⟩) ?_
                    intro h44 eh44 Ih44
                    have Ch44 : CI h44 := ChL36.wc eh44 Ih44 (by decide) (by decide)
                    have Qh44 : zXR [(25, 25, 0, 6)] 0 0 hL36 h44 := zXR.wc eh44 rfl ⟨by decide, by decide, Or.inl (by decide)⟩ (by first | omega | exact ⟨by omega, by omega⟩)
                    have Xh44 : zXR msxT (0) (0) h h44 := XhL36.tr (c2 := 0) (s2 := 0) Qh44 (by decide +kernel) (by decide) (by decide)
                    have th44_21_2 : fld h44 21 2 = fld hL36 21 2 := Qh44.f (a1 := 21) (a2 := 21) (j1 := 2) (j2 := 3) (by decide +kernel) (by first | decide | exact ⟨by decide, by decide⟩) (by first | decide | exact ⟨by decide, by decide⟩) (by first | decide | exact ⟨by decide, by decide⟩)
                    refine zwW_p [(1, 0, 2)] (q := 111) (ls' := [(2, 19), (0, a), (0, b), (0, v3L36)]) (st' := [(2, 19)]) (by decide +kernel) rfl ?_
                    refine zwW_gc Ch44.1 (kd := 3) (bn := 7) (n := 10) (c := 24) (nx := 114) (by decide +kernel) ?_
                    refine zwW_p [(1, 3, 0), (14, 0, 0)] (q := 116) (ls' := [(2, 19), (0, a), (0, b), (0, v3L36)]) (st' := [(0, v3L36), (2, 24), (0, v3L36), (2, 24)]) (by decide +kernel) rfl ?_
                    refine zwW_al Ch44.1 (a1 := 24) (a2 := 24) (kd := 20) (n := 6) (t := 0) (lo := -2147483648) (hi := 2147483647) (nx := 117) (by decide +kernel) (by first | decide | exact ⟨by decide, by decide⟩) (by first | omega | exact ⟨by omega, by omega⟩) ?_
                    intro v45 ev45 lv45 uv45
                    refine zwW_p [(1, 0, 2)] (q := 118) (ls' := [(2, 19), (0, a), (0, b), (0, v3L36)]) (st' := [(2, 19), (0, v45), (0, v3L36), (2, 24)]) (by decide +kernel) rfl ?_
                    refine zwW_gc Ch44.1 (kd := 3) (bn := 5) (n := 10) (c := 22) (nx := 121) (by decide +kernel) ?_
                    refine zwW_p [(1, 1, 0)] (q := 122) (ls' := [(2, 19), (0, a), (0, b), (0, v3L36)]) (st' := [(0, a), (2, 22), (0, v45), (0, v3L36), (2, 24)]) (by decide +kernel) rfl ?_
                    refine zwW_al Ch44.1 (a1 := 22) (a2 := 22) (kd := 20) (n := 6) (t := 0) (lo := -2147483648) (hi := 2147483647) (nx := 123) (by decide +kernel) (by first | decide | exact ⟨by decide, by decide⟩) (by first | omega | exact ⟨by omega, by omega⟩) ?_
                    intro v46 ev46 lv46 uv46
                    refine zwW_adw (nx := 124) (by decide +kernel) ?_
                    intro v47 ev47 lv47 uv47
                    refine zwW_as Ch44.1 (a1 := 24) (a2 := 24) (n := 6) (lo := -2147483648) (hi := 2147483647) (nx := 125) (by decide +kernel) (by first | decide | exact ⟨by decide, by decide⟩) (by first | omega | exact ⟨by omega, by omega⟩) (by first | omega | exact ⟨by omega, by omega⟩) ?_
                    intro h48 eh48 Ih48
                    have Ch48 : CI h48 := Ch44.wc eh48 Ih48 (by decide) (by decide)
                    have Qh48 : zXR [(24, 24, 0, 6)] 0 0 h44 h48 := zXR.wc eh48 rfl ⟨by decide, by decide, Or.inl (by decide)⟩ (by first | omega | exact ⟨by omega, by omega⟩)
                    have Xh48 : zXR msxT (0) (0) h h48 := Xh44.tr (c2 := 0) (s2 := 0) Qh48 (by decide +kernel) (by decide) (by decide)
                    have th48_21_2 : fld h48 21 2 = fld h44 21 2 := Qh48.f (a1 := 21) (a2 := 21) (j1 := 2) (j2 := 3) (by decide +kernel) (by first | decide | exact ⟨by decide, by decide⟩) (by first | decide | exact ⟨by decide, by decide⟩) (by first | decide | exact ⟨by decide, by decide⟩)
                    refine zwW_p [(1, 0, 2), (1, 1, 0), (0, 1, 0)] (q := 128) (ls' := [(2, 19), (0, a), (0, b), (0, v3L36)]) (st' := [(0, 1), (0, a), (2, 19)]) (by decide +kernel) rfl ?_
                    refine zwW_add (nx := 129) (by decide +kernel) (by first | omega | exact ⟨by omega, by omega⟩) ?_
                    refine zwW_p [(1, 2, 0), (1, 0, 2)] (q := 131) (ls' := [(2, 19), (0, a), (0, b), (0, v3L36)]) (st' := [(2, 19), (0, b), (0, (a + 1)), (2, 19)]) (by decide +kernel) rfl ?_
                    refine zwW_gc Ch48.1 (kd := 3) (bn := 7) (n := 10) (c := 24) (nx := 134) (by decide +kernel) ?_
                    refine zwW_p [(1, 3, 0)] (q := 135) (ls' := [(2, 19), (0, a), (0, b), (0, v3L36)]) (st' := [(0, v3L36), (2, 24), (0, b), (0, (a + 1)), (2, 19)]) (by decide +kernel) rfl ?_
                    refine zwW_al Ch48.1 (a1 := 24) (a2 := 24) (kd := 20) (n := 6) (t := 0) (lo := -2147483648) (hi := 2147483647) (nx := 136) (by decide +kernel) (by first | decide | exact ⟨by decide, by decide⟩) (by first | omega | exact ⟨by omega, by omega⟩) ?_
                    intro v49 ev49 lv49 uv49
                    refine zwW_p [(1, 0, 2)] (q := 137) (ls' := [(2, 19), (0, a), (0, b), (0, v3L36)]) (st' := [(2, 19), (0, v49), (0, b), (0, (a + 1)), (2, 19)]) (by decide +kernel) rfl ?_
                    refine zwW_gc Ch48.1 (kd := 3) (bn := 1) (n := 10) (c := 21) (nx := 140) (by decide +kernel) ?_
                    refine zwW_p [(1, 3, 0)] (q := 141) (ls' := [(2, 19), (0, a), (0, b), (0, v3L36)]) (st' := [(0, v3L36), (2, 21), (0, v49), (0, b), (0, (a + 1)), (2, 19)]) (by decide +kernel) rfl ?_
                    refine zwW_cm Ch48.1 (op := 60) (k' := 123) (n := 1) (kd := 0) (m := 3) (nx := 144) (r := 21) (tl := [(0, v3L36)]) (st' := [(0, v49), (0, b), (0, (a + 1)), (2, 19)]) (by decide +kernel) rfl (by decide +kernel) rfl (x123_21 Ch48 (i := v3L36) (by first | omega | exact ⟨by omega, by omega⟩)) ?_
                    rintro v50 _ ⟨rfl, Gv50, ev50⟩
                    have lv50 := Gv50.1
                    refine zwW_cast (a := 4) (kd := 4) (n := 19) (nx := 147) (by decide +kernel) rfl (Or.inr Gv50.2.1) ?_
                    refine zwX_gi Ch48 (kd := 4) (bn := 13) (n := 19) (nx := 150) (by decide +kernel) Gv50.2.1 Gv50.1 rfl ?_
                    intro v51 ev51 lv51 uv51
                    refine zwW_cs (k' := 151) (n := 2) (nx := 153) (as := [(0, v49), (0, v51)]) (st' := [(0, b), (0, (a + 1)), (2, 19)]) (by decide +kernel) rfl (x151 h48 Ch48 v49 v51 (by omega) (by omega)) (Nat.ble_eq_true_of_le (by omega)) ?_
                    rintro v52 _ ⟨rfl, f53⟩
                    refine zwW_max (nx := 156) (by decide +kernel) rfl ?_
                    intro v54 ev54
                    refine zwW_cmv Ch48.1 (op := 60) (k' := 212) (n := 2) (kd := 3) (m := 10) (nx := 159) (r := 19) (tl := [(0, (a + 1)), (0, v54)]) (st' := []) (by decide +kernel) rfl (by decide +kernel) (Nat.ble_eq_true_of_le (by omega)) (HS (by omega) h48 Ch48 v54 (by omega)) ?_
                    rintro h55 ⟨Ch55, Qh55⟩
                    have Xh55 : zXR msxT (0) (0) h h55 := Xh48.tr (c2 := 0) (s2 := 0) Qh55 (by decide +kernel) (by decide) (by decide)
                    have th55_21_2 : fld h55 21 2 = fld h48 21 2 := Qh55.f (a1 := 21) (a2 := 21) (j1 := 2) (j2 := 3) (by decide +kernel) (by first | decide | exact ⟨by decide, by decide⟩) (by first | decide | exact ⟨by decide, by decide⟩) (by first | decide | exact ⟨by decide, by decide⟩)
                    refine zwW_p [(1, 0, 2)] (q := 160) (ls' := [(2, 19), (0, a), (0, b), (0, v3L36)]) (st' := [(2, 19)]) (by decide +kernel) rfl ?_
                    refine zwW_gc Ch55.1 (kd := 3) (bn := 7) (n := 10) (c := 24) (nx := 163) (by decide +kernel) ?_
                    refine zwW_p [(1, 3, 0), (14, 0, 0)] (q := 165) (ls' := [(2, 19), (0, a), (0, b), (0, v3L36)]) (st' := [(0, v3L36), (2, 24), (0, v3L36), (2, 24)]) (by decide +kernel) rfl ?_
                    refine zwW_al Ch55.1 (a1 := 24) (a2 := 24) (kd := 20) (n := 6) (t := 0) (lo := -2147483648) (hi := 2147483647) (nx := 166) (by decide +kernel) (by first | decide | exact ⟨by decide, by decide⟩) (by first | omega | exact ⟨by omega, by omega⟩) ?_
                    intro v56 ev56 lv56 uv56
                    refine zwW_p [(1, 0, 2)] (q := 167) (ls' := [(2, 19), (0, a), (0, b), (0, v3L36)]) (st' := [(2, 19), (0, v56), (0, v3L36), (2, 24)]) (by decide +kernel) rfl ?_
                    refine zwW_gc Ch55.1 (kd := 3) (bn := 5) (n := 10) (c := 22) (nx := 170) (by decide +kernel) ?_
                    refine zwW_p [(1, 1, 0)] (q := 171) (ls' := [(2, 19), (0, a), (0, b), (0, v3L36)]) (st' := [(0, a), (2, 22), (0, v56), (0, v3L36), (2, 24)]) (by decide +kernel) rfl ?_
                    refine zwW_al Ch55.1 (a1 := 22) (a2 := 22) (kd := 20) (n := 6) (t := 0) (lo := -2147483648) (hi := 2147483647) (nx := 172) (by decide +kernel) (by first | decide | exact ⟨by decide, by decide⟩) (by first | omega | exact ⟨by omega, by omega⟩) ?_
                    intro v57 ev57 lv57 uv57
                    refine zwW_sbw (nx := 173) (by decide +kernel) ?_
                    intro v58 ev58 lv58 uv58
                    refine zwW_as Ch55.1 (a1 := 24) (a2 := 24) (n := 6) (lo := -2147483648) (hi := 2147483647) (nx := 174) (by decide +kernel) (by first | decide | exact ⟨by decide, by decide⟩) (by first | omega | exact ⟨by omega, by omega⟩) (by first | omega | exact ⟨by omega, by omega⟩) ?_
                    intro h59 eh59 Ih59
                    have Ch59 : CI h59 := Ch55.wc eh59 Ih59 (by decide) (by decide)
                    have Qh59 : zXR [(24, 24, 0, 6)] 0 0 h55 h59 := zXR.wc eh59 rfl ⟨by decide, by decide, Or.inl (by decide)⟩ (by first | omega | exact ⟨by omega, by omega⟩)
                    have Xh59 : zXR msxT (0) (0) h h59 := Xh55.tr (c2 := 0) (s2 := 0) Qh59 (by decide +kernel) (by decide) (by decide)
                    have th59_21_2 : fld h59 21 2 = fld h55 21 2 := Qh59.f (a1 := 21) (a2 := 21) (j1 := 2) (j2 := 3) (by decide +kernel) (by first | decide | exact ⟨by decide, by decide⟩) (by first | decide | exact ⟨by decide, by decide⟩) (by first | decide | exact ⟨by decide, by decide⟩)
                    refine zwW_inc (i := 3) (c := 1) (x := v3L36) (nx := 177) (by decide +kernel) rfl (by first | omega | exact ⟨by omega, by omega⟩) (ls' := [(2, 19), (0, a), (0, b), (0, (v3L36 + 1))]) rfl ?_
                    refine zwW_p [(24, 73, 0)] (q := 73) (ls' := [(2, 19), (0, a), (0, b), (0, (v3L36 + 1))]) (st' := []) (by decide +kernel) rfl ?_
                    exact IHL36 ((1000 - (v3L36 + 1))).toNat (by omega) (v3L36 + 1) h59 rfl (by omega) Ch59 (Xh59.le (by decide) (by decide))
          exact L36 _ 0 h35 rfl (by omega) Ch35 (Xh35.le (by decide) (by decide))
      · exfalso; omega
  · refine zwW_retv (nx := 9) (a := 0) (b := 0) (by decide +kernel) ?_
    exact ⟨C, X.le (by decide) (by decide)⟩
end
section
/-! the class's grammar and search, all depths -/
section ZK2
theorem zkgram (sc : List Int) : ∀ (n : Nat) (a : Int), n ≤ 8 → a = 8 - (n : Int) → zKX sc (25 * n + 22) 241 a ∧ zKX sc (25 * n + 23) 281 a ∧ zKX sc (25 * n + 25) 242 a
  | 0, a, _, ha => by
    have ha : a = 8 := by omega
    subst ha
    exact ⟨x241 8 0 (by omega) (fun h => by omega), x281 8 0 (by omega) (fun h => by omega) (fun h => by omega) (fun h => by omega), x242 8 0 (by omega) (fun h => by omega) (fun h => by omega) (fun h => by omega)⟩
  | n + 1, a, hn, ha => by
    obtain ⟨k1, k2, k3⟩ := zkgram sc n (a + 1) (by omega) (by omega)
    have q1 := zKX.up (show 25 * n + 22 ≤ 25 * (n + 1) by omega) k1
    have q2 := zKX.up (show 25 * n + 23 ≤ 25 * (n + 1) by omega) k2
    have q3 := zKX.up (show 25 * n + 25 ≤ 25 * (n + 1) by omega) k3
    exact ⟨x241 a (25 * (n + 1)) (by omega) (fun _ => q1), x281 a (25 * (n + 1)) (by omega) (fun _ => q1) (fun _ => q2) (fun _ => q3), x242 a (25 * (n + 1)) (by omega) (fun _ => q1) (fun _ => q2) (fun _ => q3)⟩
theorem zk_sum (sc : List Int) : zKX sc 230 241 0 := zKX.up (by decide) (zkgram sc 8 0 (by decide) (by decide)).1
theorem zk_either (sc : List Int) : zKX sc 230 242 0 := zKX.up (by decide) (zkgram sc 8 0 (by decide) (by decide)).2.2
theorem zksearch (sc : List Int) : ∀ (n : Nat) (a : Int), n ≤ 6 → a = 6 - (n : Int) → zKS sc (9 * n + 9) a
  | 0, a, _, ha => by
    have ha : a = 6 := by omega
    subst ha
    exact x212 6 0 (by omega) (fun h => by omega)
  | n + 1, a, hn, ha => by
    have k := zksearch sc n (a + 1) (by omega) (by omega)
    exact x212 a (9 * (n + 1)) (by omega) (fun _ => k)
theorem zk_search (sc : List Int) : zKS sc 70 0 := fun h C b hb => zwC_up (by decide) (zksearch sc 6 0 (by decide) (by decide) h C b hb)
end ZK2
end
