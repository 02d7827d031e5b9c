/-! contracts of the class -/
-- WheelLand$Rules.joined(IJJ)I
theorem x256_e {sc : List Int} (h : Hp) (C : CI h) (a b c : Int) (q_a : -2147483648 ≤ a ∧ a ≤ 2147483647) (q_b : -2147483648 ≤ b ∧ b ≤ 2147483647) (q_c : -2147483648 ≤ c ∧ c ≤ 2147483647) (pa : a = 18 ∨ a = 19 ∨ a = 42 ∨ a = 43 ∨ a = 45 ∨ a = 47 ∨ a = 60 ∨ a = 61 ∨ a = 62) (pb : eNum b ∧ eNum c) (pz : (a = 18 ∨ a = 19) → eBit b ∧ eBit c) : zwC sc 1 256 [(0, a), (1, b), (1, c)] h (zwRt 0 (fun x g => h = g ∧ (-2147483648 ≤ x ∧ x ≤ 2147483647) ∧ (x = eJn a b c))) := by
  refine zwC_of (D := 0) 7 (by decide +kernel) rfl (ls := [(0, a), (1, b), (9, 0), (1, c), (9, 0), (9, 0), (9, 0)]) rfl ?_
  have W1 := w64_mul pb.1 pb.2
  have W2 := tdiv_n (b := c) pb.1
  have W4 : w64 (b.tdiv c) = b.tdiv c := by unfold eNum at W2; unfold w64; omega
  have pb1 := pb.1
  have pb2 := pb.2
  unfold eNum at pb1 pb2 W2
  refine zwW_p [(0, 0, 1), (2, 5, 1), (1, 0, 0)] (q := 4) (ls' := [(0, a), (1, b), (9, 0), (1, c), (9, 0), (1, 0), (9, 0)]) (st' := [(0, a)]) (by decide +kernel) rfl ?_
  refine zwW_sw (d := 194) (os := [18, 178, 19, 186, 42, 104, 43, 88, 45, 96, 47, 112, 60, 130, 61, 162, 62, 146]) (by decide +kernel) ?_
  refine ⟨fun c1 => ?_, fun c1 => ?_⟩
  · show zwW _ _ _ 178 _ _ _ _
    refine zwW_p [(1, 1, 1), (1, 3, 1)] (q := 180) (ls' := [(0, a), (1, b), (9, 0), (1, c), (9, 0), (1, 0), (9, 0)]) (st' := [(1, c), (1, b)]) (by decide +kernel) rfl ?_
    refine zwW_lb (a := 6) (nx := 181) (z := l_or b c) (by decide +kernel) (rfl) ?_
    obtain ⟨v2, ev2⟩ : ∃ z, z = l_or b c := ⟨_, rfl⟩
    rw [← ev2]
    have E181 : v2 = i_or b c ∧ (v2 = 0 ∨ v2 = 1) := l_or_b (pz (Or.inl (by omega))).1 (pz (Or.inl (by omega))).2 ev2
    clear ev2
    refine zwW_p [(2, 5, 1), (24, 194, 0), (1, 5, 1), (0, 1000000, 1)] (q := 199) (ls' := [(0, a), (1, b), (9, 0), (1, c), (9, 0), (1, v2), (9, 0)]) (st' := [(1, 1000000), (1, v2)]) (by decide +kernel) rfl ?_
    refine zwW_lmin (nx := 202) (by decide +kernel) rfl ?_
    intro v3 ev3
    refine zwW_p [(0, -1000000, 1)] (q := 205) (ls' := [(0, a), (1, b), (9, 0), (1, c), (9, 0), (1, v2), (9, 0)]) (st' := [(1, -1000000), (1, v3)]) (by decide +kernel) rfl ?_
    refine zwW_lmax (nx := 208) (by decide +kernel) rfl ?_
    intro v4 ev4
    refine zwW_l2i (nx := 209) (by decide +kernel) ⟨by omega, by omega⟩ ?_
    refine zwW_ret (nx := 210) (a := 0) (b := 0) (by decide +kernel) rfl (Or.inl rfl) ?_
    exact ⟨rfl, by omega, by first | (exfalso; omega) | (unfold eJn eBr; (repeat' (first | rw [if_pos (by omega)] | rw [if_neg (by omega)])); all_goals (first | omega | rfl))⟩
  refine ⟨fun c5 => ?_, fun c5 => ?_⟩
  · show zwW _ _ _ 186 _ _ _ _
    refine zwW_p [(1, 1, 1), (1, 3, 1)] (q := 188) (ls' := [(0, a), (1, b), (9, 0), (1, c), (9, 0), (1, 0), (9, 0)]) (st' := [(1, c), (1, b)]) (by decide +kernel) rfl ?_
    refine zwW_lb (a := 5) (nx := 189) (z := l_and b c) (by decide +kernel) (rfl) ?_
    obtain ⟨v6, ev6⟩ : ∃ z, z = l_and b c := ⟨_, rfl⟩
    rw [← ev6]
    have E189 : v6 = i_and b c ∧ (v6 = 0 ∨ v6 = 1) := l_and_b (pz (Or.inr (by omega))).1 (pz (Or.inr (by omega))).2 ev6
    clear ev6
    refine zwW_p [(2, 5, 1), (24, 194, 0), (1, 5, 1), (0, 1000000, 1)] (q := 199) (ls' := [(0, a), (1, b), (9, 0), (1, c), (9, 0), (1, v6), (9, 0)]) (st' := [(1, 1000000), (1, v6)]) (by decide +kernel) rfl ?_
    refine zwW_lmin (nx := 202) (by decide +kernel) rfl ?_
    intro v7 ev7
    refine zwW_p [(0, -1000000, 1)] (q := 205) (ls' := [(0, a), (1, b), (9, 0), (1, c), (9, 0), (1, v6), (9, 0)]) (st' := [(1, -1000000), (1, v7)]) (by decide +kernel) rfl ?_
    refine zwW_lmax (nx := 208) (by decide +kernel) rfl ?_
    intro v8 ev8
    refine zwW_l2i (nx := 209) (by decide +kernel) ⟨by omega, by omega⟩ ?_
    refine zwW_ret (nx := 210) (a := 0) (b := 0) (by decide +kernel) rfl (Or.inl rfl) ?_
    exact ⟨rfl, by omega, by first | (exfalso; omega) | (unfold eJn eBr; (repeat' (first | rw [if_pos (by omega)] | rw [if_neg (by omega)])); all_goals (first | omega | rfl))⟩
  refine ⟨fun c9 => ?_, fun c9 => ?_⟩
  · show zwW _ _ _ 104 _ _ _ _
    refine zwW_p [(1, 1, 1), (1, 3, 1)] (q := 106) (ls' := [(0, a), (1, b), (9, 0), (1, c), (9, 0), (1, 0), (9, 0)]) (st' := [(1, c), (1, b)]) (by decide +kernel) rfl ?_
    refine zwW_lmw (nx := 107) (by decide +kernel) ?_
    intro v10 ev10 lv10 uv10
    refine zwW_p [(2, 5, 1), (24, 194, 0), (1, 5, 1), (0, 1000000, 1)] (q := 199) (ls' := [(0, a), (1, b), (9, 0), (1, c), (9, 0), (1, v10), (9, 0)]) (st' := [(1, 1000000), (1, v10)]) (by decide +kernel) rfl ?_
    refine zwW_lmin (nx := 202) (by decide +kernel) rfl ?_
    intro v11 ev11
    refine zwW_p [(0, -1000000, 1)] (q := 205) (ls' := [(0, a), (1, b), (9, 0), (1, c), (9, 0), (1, v10), (9, 0)]) (st' := [(1, -1000000), (1, v11)]) (by decide +kernel) rfl ?_
    refine zwW_lmax (nx := 208) (by decide +kernel) rfl ?_
    intro v12 ev12
    refine zwW_l2i (nx := 209) (by decide +kernel) ⟨by omega, by omega⟩ ?_
    refine zwW_ret (nx := 210) (a := 0) (b := 0) (by decide +kernel) rfl (Or.inl rfl) ?_
    exact ⟨rfl, by omega, by first | (exfalso; omega) | (unfold eJn eBr; (repeat' (first | rw [if_pos (by omega)] | rw [if_neg (by omega)])); all_goals (first | omega | rfl))⟩
  refine ⟨fun c13 => ?_, fun c13 => ?_⟩
  · show zwW _ _ _ 88 _ _ _ _
    refine zwW_p [(1, 1, 1), (1, 3, 1)] (q := 90) (ls' := [(0, a), (1, b), (9, 0), (1, c), (9, 0), (1, 0), (9, 0)]) (st' := [(1, c), (1, b)]) (by decide +kernel) rfl ?_
    refine zwW_ladd (nx := 91) (by decide +kernel) ⟨by omega, by omega⟩ ?_
    refine zwW_p [(2, 5, 1), (24, 194, 0), (1, 5, 1), (0, 1000000, 1)] (q := 199) (ls' := [(0, a), (1, b), (9, 0), (1, c), (9, 0), (1, (b + c)), (9, 0)]) (st' := [(1, 1000000), (1, (b + c))]) (by decide +kernel) rfl ?_
    refine zwW_lmin (nx := 202) (by decide +kernel) rfl ?_
    intro v15 ev15
    refine zwW_p [(0, -1000000, 1)] (q := 205) (ls' := [(0, a), (1, b), (9, 0), (1, c), (9, 0), (1, (b + c)), (9, 0)]) (st' := [(1, -1000000), (1, v15)]) (by decide +kernel) rfl ?_
    refine zwW_lmax (nx := 208) (by decide +kernel) rfl ?_
    intro v16 ev16
    refine zwW_l2i (nx := 209) (by decide +kernel) ⟨by omega, by omega⟩ ?_
    refine zwW_ret (nx := 210) (a := 0) (b := 0) (by decide +kernel) rfl (Or.inl rfl) ?_
    exact ⟨rfl, by omega, by first | (exfalso; omega) | (unfold eJn eBr; (repeat' (first | rw [if_pos (by omega)] | rw [if_neg (by omega)])); all_goals (first | omega | rfl))⟩
  refine ⟨fun c17 => ?_, fun c17 => ?_⟩
  · show zwW _ _ _ 96 _ _ _ _
    refine zwW_p [(1, 1, 1), (1, 3, 1)] (q := 98) (ls' := [(0, a), (1, b), (9, 0), (1, c), (9, 0), (1, 0), (9, 0)]) (st' := [(1, c), (1, b)]) (by decide +kernel) rfl ?_
    refine zwW_lsub (nx := 99) (by decide +kernel) ⟨by omega, by omega⟩ ?_
    refine zwW_p [(2, 5, 1), (24, 194, 0), (1, 5, 1), (0, 1000000, 1)] (q := 199) (ls' := [(0, a), (1, b), (9, 0), (1, c), (9, 0), (1, (b - c)), (9, 0)]) (st' := [(1, 1000000), (1, (b - c))]) (by decide +kernel) rfl ?_
    refine zwW_lmin (nx := 202) (by decide +kernel) rfl ?_
    intro v19 ev19
    refine zwW_p [(0, -1000000, 1)] (q := 205) (ls' := [(0, a), (1, b), (9, 0), (1, c), (9, 0), (1, (b - c)), (9, 0)]) (st' := [(1, -1000000), (1, v19)]) (by decide +kernel) rfl ?_
    refine zwW_lmax (nx := 208) (by decide +kernel) rfl ?_
    intro v20 ev20
    refine zwW_l2i (nx := 209) (by decide +kernel) ⟨by omega, by omega⟩ ?_
    refine zwW_ret (nx := 210) (a := 0) (b := 0) (by decide +kernel) rfl (Or.inl rfl) ?_
    exact ⟨rfl, by omega, by first | (exfalso; omega) | (unfold eJn eBr; (repeat' (first | rw [if_pos (by omega)] | rw [if_neg (by omega)])); all_goals (first | omega | rfl))⟩
  refine ⟨fun c21 => ?_, fun c21 => ?_⟩
  · show zwW _ _ _ 112 _ _ _ _
    refine zwW_p [(1, 3, 1), (0, 0, 1)] (q := 114) (ls' := [(0, a), (1, b), (9, 0), (1, c), (9, 0), (1, 0), (9, 0)]) (st' := [(1, 0), (1, c)]) (by decide +kernel) rfl ?_
    refine zwlc_ne (q := 122) (nx := 118) (m := 115) (by decide +kernel) (by decide +kernel) (fun c22 => ?_) (fun c22 => ?_)
    · refine zwW_p [(1, 1, 1), (1, 3, 1)] (q := 124) (ls' := [(0, a), (1, b), (9, 0), (1, c), (9, 0), (1, 0), (9, 0)]) (st' := [(1, c), (1, b)]) (by decide +kernel) rfl ?_
      refine zwW_lb (a := 3) (nx := 125) (z := w64 (b.tdiv c)) (by decide +kernel) (show (if c = 0 then none else some (w64 (b.tdiv c))) = _ by rw [if_neg (by omega)]) ?_
      obtain ⟨v23, ev23⟩ : ∃ z, z = w64 (b.tdiv c) := ⟨_, rfl⟩
      rw [← ev23]
      refine zwW_p [(2, 5, 1), (24, 194, 0), (1, 5, 1), (0, 1000000, 1)] (q := 199) (ls' := [(0, a), (1, b), (9, 0), (1, c), (9, 0), (1, v23), (9, 0)]) (st' := [(1, 1000000), (1, v23)]) (by decide +kernel) rfl ?_
      refine zwW_lmin (nx := 202) (by decide +kernel) rfl ?_
      intro v24 ev24
      refine zwW_p [(0, -1000000, 1)] (q := 205) (ls' := [(0, a), (1, b), (9, 0), (1, c), (9, 0), (1, v23), (9, 0)]) (st' := [(1, -1000000), (1, v24)]) (by decide +kernel) rfl ?_
      refine zwW_lmax (nx := 208) (by decide +kernel) rfl ?_
      intro v25 ev25
      refine zwW_l2i (nx := 209) (by decide +kernel) ⟨by omega, by omega⟩ ?_
      refine zwW_ret (nx := 210) (a := 0) (b := 0) (by decide +kernel) rfl (Or.inl rfl) ?_
      exact ⟨rfl, by omega, by first | (exfalso; omega) | (unfold eJn eBr; (repeat' (first | rw [if_pos (by omega)] | rw [if_neg (by omega)])); all_goals (first | omega | rfl))⟩
    · refine zwW_p [(0, 0, 1), (24, 125, 0), (2, 5, 1), (24, 194, 0), (1, 5, 1), (0, 1000000, 1)] (q := 199) (ls' := [(0, a), (1, b), (9, 0), (1, c), (9, 0), (1, 0), (9, 0)]) (st' := [(1, 1000000), (1, 0)]) (by decide +kernel) rfl ?_
      refine zwW_lmin (nx := 202) (by decide +kernel) rfl ?_
      intro v26 ev26
      refine zwW_p [(0, -1000000, 1)] (q := 205) (ls' := [(0, a), (1, b), (9, 0), (1, c), (9, 0), (1, 0), (9, 0)]) (st' := [(1, -1000000), (1, v26)]) (by decide +kernel) rfl ?_
      refine zwW_lmax (nx := 208) (by decide +kernel) rfl ?_
      intro v27 ev27
      refine zwW_l2i (nx := 209) (by decide +kernel) ⟨by omega, by omega⟩ ?_
      refine zwW_ret (nx := 210) (a := 0) (b := 0) (by decide +kernel) rfl (Or.inl rfl) ?_
      exact ⟨rfl, by omega, by first | (exfalso; omega) | (unfold eJn eBr; (repeat' (first | rw [if_pos (by omega)] | rw [if_neg (by omega)])); all_goals (first | omega | rfl))⟩
  refine ⟨fun c28 => ?_, fun c28 => ?_⟩
  · show zwW _ _ _ 130 _ _ _ _
    refine zwW_p [(1, 1, 1), (1, 3, 1)] (q := 132) (ls' := [(0, a), (1, b), (9, 0), (1, c), (9, 0), (1, 0), (9, 0)]) (st' := [(1, c), (1, b)]) (by decide +kernel) rfl ?_
    refine zwlc_ge (q := 140) (nx := 136) (m := 133) (by decide +kernel) (by decide +kernel) (fun c29 => ?_) (fun c29 => ?_)
    · refine zwW_p [(0, 0, 1), (2, 5, 1), (24, 194, 0), (1, 5, 1), (0, 1000000, 1)] (q := 199) (ls' := [(0, a), (1, b), (9, 0), (1, c), (9, 0), (1, 0), (9, 0)]) (st' := [(1, 1000000), (1, 0)]) (by decide +kernel) rfl ?_
      refine zwW_lmin (nx := 202) (by decide +kernel) rfl ?_
      intro v30 ev30
      refine zwW_p [(0, -1000000, 1)] (q := 205) (ls' := [(0, a), (1, b), (9, 0), (1, c), (9, 0), (1, 0), (9, 0)]) (st' := [(1, -1000000), (1, v30)]) (by decide +kernel) rfl ?_
      refine zwW_lmax (nx := 208) (by decide +kernel) rfl ?_
      intro v31 ev31
      refine zwW_l2i (nx := 209) (by decide +kernel) ⟨by omega, by omega⟩ ?_
      refine zwW_ret (nx := 210) (a := 0) (b := 0) (by decide +kernel) rfl (Or.inl rfl) ?_
      exact ⟨rfl, by omega, by first | (exfalso; omega) | (unfold eJn eBr; (repeat' (first | rw [if_pos (by omega)] | rw [if_neg (by omega)])); all_goals (first | omega | rfl))⟩
    · refine zwW_p [(0, 1, 1), (24, 141, 0), (2, 5, 1), (24, 194, 0), (1, 5, 1), (0, 1000000, 1)] (q := 199) (ls' := [(0, a), (1, b), (9, 0), (1, c), (9, 0), (1, 1), (9, 0)]) (st' := [(1, 1000000), (1, 1)]) (by decide +kernel) rfl ?_
      refine zwW_lmin (nx := 202) (by decide +kernel) rfl ?_
      intro v32 ev32
      refine zwW_p [(0, -1000000, 1)] (q := 205) (ls' := [(0, a), (1, b), (9, 0), (1, c), (9, 0), (1, 1), (9, 0)]) (st' := [(1, -1000000), (1, v32)]) (by decide +kernel) rfl ?_
      refine zwW_lmax (nx := 208) (by decide +kernel) rfl ?_
      intro v33 ev33
      refine zwW_l2i (nx := 209) (by decide +kernel) ⟨by omega, by omega⟩ ?_
      refine zwW_ret (nx := 210) (a := 0) (b := 0) (by decide +kernel) rfl (Or.inl rfl) ?_
      exact ⟨rfl, by omega, by first | (exfalso; omega) | (unfold eJn eBr; (repeat' (first | rw [if_pos (by omega)] | rw [if_neg (by omega)])); all_goals (first | omega | rfl))⟩
  refine ⟨fun c34 => ?_, fun c34 => ?_⟩
  · show zwW _ _ _ 162 _ _ _ _
    refine zwW_p [(1, 1, 1), (1, 3, 1)] (q := 164) (ls' := [(0, a), (1, b), (9, 0), (1, c), (9, 0), (1, 0), (9, 0)]) (st' := [(1, c), (1, b)]) (by decide +kernel) rfl ?_
    refine zwlc_ne (q := 172) (nx := 168) (m := 165) (by decide +kernel) (by decide +kernel) (fun c35 => ?_) (fun c35 => ?_)
    · refine zwW_p [(0, 0, 1), (2, 5, 1), (24, 194, 0), (1, 5, 1), (0, 1000000, 1)] (q := 199) (ls' := [(0, a), (1, b), (9, 0), (1, c), (9, 0), (1, 0), (9, 0)]) (st' := [(1, 1000000), (1, 0)]) (by decide +kernel) rfl ?_
      refine zwW_lmin (nx := 202) (by decide +kernel) rfl ?_
      intro v36 ev36
      refine zwW_p [(0, -1000000, 1)] (q := 205) (ls' := [(0, a), (1, b), (9, 0), (1, c), (9, 0), (1, 0), (9, 0)]) (st' := [(1, -1000000), (1, v36)]) (by decide +kernel) rfl ?_
      refine zwW_lmax (nx := 208) (by decide +kernel) rfl ?_
      intro v37 ev37
      refine zwW_l2i (nx := 209) (by decide +kernel) ⟨by omega, by omega⟩ ?_
      refine zwW_ret (nx := 210) (a := 0) (b := 0) (by decide +kernel) rfl (Or.inl rfl) ?_
      exact ⟨rfl, by omega, by first | (exfalso; omega) | (unfold eJn eBr; (repeat' (first | rw [if_pos (by omega)] | rw [if_neg (by omega)])); all_goals (first | omega | rfl))⟩
    · refine zwW_p [(0, 1, 1), (24, 173, 0), (2, 5, 1), (24, 194, 0), (1, 5, 1), (0, 1000000, 1)] (q := 199) (ls' := [(0, a), (1, b), (9, 0), (1, c), (9, 0), (1, 1), (9, 0)]) (st' := [(1, 1000000), (1, 1)]) (by decide +kernel) rfl ?_
      refine zwW_lmin (nx := 202) (by decide +kernel) rfl ?_
      intro v38 ev38
      refine zwW_p [(0, -1000000, 1)] (q := 205) (ls' := [(0, a), (1, b), (9, 0), (1, c), (9, 0), (1, 1), (9, 0)]) (st' := [(1, -1000000), (1, v38)]) (by decide +kernel) rfl ?_
      refine zwW_lmax (nx := 208) (by decide +kernel) rfl ?_
      intro v39 ev39
      refine zwW_l2i (nx := 209) (by decide +kernel) ⟨by omega, by omega⟩ ?_
      refine zwW_ret (nx := 210) (a := 0) (b := 0) (by decide +kernel) rfl (Or.inl rfl) ?_
      exact ⟨rfl, by omega, by first | (exfalso; omega) | (unfold eJn eBr; (repeat' (first | rw [if_pos (by omega)] | rw [if_neg (by omega)])); all_goals (first | omega | rfl))⟩
  refine ⟨fun c40 => ?_, fun c40 => ?_⟩
  · show zwW _ _ _ 146 _ _ _ _
    refine zwW_p [(1, 1, 1), (1, 3, 1)] (q := 148) (ls' := [(0, a), (1, b), (9, 0), (1, c), (9, 0), (1, 0), (9, 0)]) (st' := [(1, c), (1, b)]) (by decide +kernel) rfl ?_
    refine zwlc_le (q := 156) (nx := 152) (m := 149) (by decide +kernel) (by decide +kernel) (fun c41 => ?_) (fun c41 => ?_)
    · refine zwW_p [(0, 0, 1), (2, 5, 1), (24, 194, 0), (1, 5, 1), (0, 1000000, 1)] (q := 199) (ls' := [(0, a), (1, b), (9, 0), (1, c), (9, 0), (1, 0), (9, 0)]) (st' := [(1, 1000000), (1, 0)]) (by decide +kernel) rfl ?_
      refine zwW_lmin (nx := 202) (by decide +kernel) rfl ?_
      intro v42 ev42
      refine zwW_p [(0, -1000000, 1)] (q := 205) (ls' := [(0, a), (1, b), (9, 0), (1, c), (9, 0), (1, 0), (9, 0)]) (st' := [(1, -1000000), (1, v42)]) (by decide +kernel) rfl ?_
      refine zwW_lmax (nx := 208) (by decide +kernel) rfl ?_
      intro v43 ev43
      refine zwW_l2i (nx := 209) (by decide +kernel) ⟨by omega, by omega⟩ ?_
      refine zwW_ret (nx := 210) (a := 0) (b := 0) (by decide +kernel) rfl (Or.inl rfl) ?_
      exact ⟨rfl, by omega, by first | (exfalso; omega) | (unfold eJn eBr; (repeat' (first | rw [if_pos (by omega)] | rw [if_neg (by omega)])); all_goals (first | omega | rfl))⟩
    · refine zwW_p [(0, 1, 1), (24, 157, 0), (2, 5, 1), (24, 194, 0), (1, 5, 1), (0, 1000000, 1)] (q := 199) (ls' := [(0, a), (1, b), (9, 0), (1, c), (9, 0), (1, 1), (9, 0)]) (st' := [(1, 1000000), (1, 1)]) (by decide +kernel) rfl ?_
      refine zwW_lmin (nx := 202) (by decide +kernel) rfl ?_
      intro v44 ev44
      refine zwW_p [(0, -1000000, 1)] (q := 205) (ls' := [(0, a), (1, b), (9, 0), (1, c), (9, 0), (1, 1), (9, 0)]) (st' := [(1, -1000000), (1, v44)]) (by decide +kernel) rfl ?_
      refine zwW_lmax (nx := 208) (by decide +kernel) rfl ?_
      intro v45 ev45
      refine zwW_l2i (nx := 209) (by decide +kernel) ⟨by omega, by omega⟩ ?_
      refine zwW_ret (nx := 210) (a := 0) (b := 0) (by decide +kernel) rfl (Or.inl rfl) ?_
      exact ⟨rfl, by omega, by first | (exfalso; omega) | (unfold eJn eBr; (repeat' (first | rw [if_pos (by omega)] | rw [if_neg (by omega)])); all_goals (first | omega | rfl))⟩
  show zwW _ _ _ 194 _ _ _ _
  refine zwW_p [(1, 5, 1), (0, 1000000, 1)] (q := 199) (ls' := [(0, a), (1, b), (9, 0), (1, c), (9, 0), (1, 0), (9, 0)]) (st' := [(1, 1000000), (1, 0)]) (by decide +kernel) rfl ?_
  refine zwW_lmin (nx := 202) (by decide +kernel) rfl ?_
  intro v46 ev46
  refine zwW_p [(0, -1000000, 1)] (q := 205) (ls' := [(0, a), (1, b), (9, 0), (1, c), (9, 0), (1, 0), (9, 0)]) (st' := [(1, -1000000), (1, v46)]) (by decide +kernel) rfl ?_
  refine zwW_lmax (nx := 208) (by decide +kernel) rfl ?_
  intro v47 ev47
  refine zwW_l2i (nx := 209) (by decide +kernel) ⟨by omega, by omega⟩ ?_
  refine zwW_ret (nx := 210) (a := 0) (b := 0) (by decide +kernel) rfl (Or.inl rfl) ?_
  exact ⟨rfl, by omega, by first | (exfalso; omega) | (unfold eJn eBr; (repeat' (first | rw [if_pos (by omega)] | rw [if_neg (by omega)])); all_goals (first | omega | rfl))⟩
-- WheelLand$Sheet.stepAt(I)I
theorem x255_e {sc : List Int} (h : Hp) (C : CI h) (r a : Int) (N : Nat) (G_r : gS h r) (q_a : -2147483648 ≤ a ∧ a ≤ 2147483647) (hS : sh h (fld h r 1) = some (20, N)) (hN : 0 ≤ a ∧ a < N) : zwC sc 1 255 [(2, r), (0, a)] h (zwRt 0 (fun x g => h = g ∧ (-2147483648 ≤ x ∧ x ≤ 2147483647) ∧ (x = fld h (fld h r 1) a.toNat))) := by
  refine zwC_of (D := 0) 2 (by decide +kernel) rfl (ls := [(2, r), (0, a)]) rfl ?_
  have lw_r := G_r.1
  refine zwW_p [(1, 1, 0)] (q := 1) (ls' := [(2, r), (0, a)]) (st' := [(0, a)]) (by decide +kernel) rfl ?_
  refine zwif_lt (q := 22) (nx := 4) (by decide +kernel) (fun c1 => ?_) (fun c1 => ?_)
  · refine zwW_p [(0, -21, 0)] (q := 24) (ls' := [(2, r), (0, a)]) (st' := [(0, -21)]) (by decide +kernel) rfl ?_
    refine zwW_ret (nx := 25) (a := 0) (b := 0) (by decide +kernel) rfl (Or.inl rfl) ?_
    exact ⟨rfl, by omega, by first | (exfalso; omega) | (subst_vars; rfl)⟩
  · refine zwW_p [(1, 1, 0), (1, 0, 2)] (q := 6) (ls' := [(2, r), (0, a)]) (st' := [(2, r), (0, a)]) (by decide +kernel) rfl ?_
    refine zwW_get (kd := 10) (bn := 1) (t := 2) (n := 3) (nx := 9) (by decide +kernel) G_r.2.1 rfl ?_
    obtain ⟨v2, ev2⟩ : ∃ z, z = fld h r 1 := ⟨_, rfl⟩
    rw [← ev2]
    obtain ⟨lv2, nv2, sv2⟩ : 365 < v2 ∧ ∃ n, sh h v2 = some (20, n) := by rw [ev2]; exact G_r.2.2.1
    have Gv2 : gA nv2 h v2 := ⟨lv2, sv2⟩
    refine zwW_len (n := nv2) (nx := 10) (by decide +kernel) Gv2.2 rfl ?_
    have NN : nv2 = N := by
      have z := sv2
      rw [ev2, hS] at z
      exact (congrArg Prod.snd (Option.some.inj z)).symm
    refine zwic_ge (q := 22) (nx := 13) (by decide +kernel) (fun c3 => ?_) (fun c3 => ?_)
    · refine zwW_p [(0, -21, 0)] (q := 24) (ls' := [(2, r), (0, a)]) (st' := [(0, -21)]) (by decide +kernel) rfl ?_
      refine zwW_ret (nx := 25) (a := 0) (b := 0) (by decide +kernel) rfl (Or.inl rfl) ?_
      exact ⟨rfl, by omega, by first | (exfalso; omega) | (subst_vars; rfl)⟩
    · refine zwW_p [(1, 0, 2)] (q := 14) (ls' := [(2, r), (0, a)]) (st' := [(2, r)]) (by decide +kernel) rfl ?_
      refine zwW_get (kd := 10) (bn := 1) (t := 2) (n := 3) (nx := 17) (by decide +kernel) G_r.2.1 rfl ?_
      rw [← ev2]
      refine zwW_p [(1, 1, 0)] (q := 18) (ls' := [(2, r), (0, a)]) (st' := [(0, a), (2, v2)]) (by decide +kernel) rfl ?_
      refine zwX_ai C (n := nv2) (nx := 19) (by decide +kernel) Gv2.2 Gv2.1 ⟨by omega, by omega⟩ ?_
      intro v5 ev5 lv5 uv5
      refine zwW_p [(24, 24, 0)] (q := 24) (ls' := [(2, r), (0, a)]) (st' := [(0, v5)]) (by decide +kernel) rfl ?_
      refine zwW_ret (nx := 25) (a := 0) (b := 0) (by decide +kernel) rfl (Or.inl rfl) ?_
      exact ⟨rfl, by omega, by first | (exfalso; omega) | (subst_vars; rfl)⟩
def msx224_e : Zms := [(18, 18, 0, 400)]
-- WheelLand$Rules.run(LWheelLand$Sheet;I)I
theorem x224_e {sc : List Int} (h : Hp) (C : CI h) (r a : Int) (B : Nat) (L : Nat) (N : Nat) (cf : Nat → Int) (P : Int → Prop) (G_r : gS h r) (q_a : -2147483648 ≤ a ∧ a ≤ 2147483647) (p1 : 0 ≤ a ∧ a ≤ 4) (hM : fld h (fld h r 2) a.toNat = (B : Int)) (hS : sh h (fld h r 1) = some (20, N)) (hN : B + L < N ∧ N ≤ 1000 ∧ L < 400) (hW : ∀ k : Nat, k < L → fld h (fld h r 1) (B + k) = cf k) (hE : fld h (fld h r 1) (B + L) = -21) (hG : eSg (fld h 17) cf P 0 L) : zwC sc 2 224 [(2, 13), (2, r), (0, a)] h (zwRt 0 (fun x g => CI g ∧ zXR msx224_e (0) (0) h g ∧ (-2147483648 ≤ x ∧ x ≤ 2147483647) ∧ (x = (eRn (fld h 17) cf 0 L eP0).1 0))) := by
  refine zwC_of (D := 1) 7 (by decide +kernel) rfl (ls := [(2, 13), (2, r), (0, a), (9, 0), (9, 0), (9, 0), (9, 0)]) rfl ?_
  have lw_r := G_r.1
  have X : zXR msx224_e 0 0 h h := zXR.rf _ _
  refine zwW_p [(0, 0, 0), (2, 3, 0), (1, 1, 2), (1, 2, 0)] (q := 4) (ls' := [(2, 13), (2, r), (0, a), (0, 0), (9, 0), (9, 0), (9, 0)]) (st' := [(0, a), (2, r)]) (by decide +kernel) rfl ?_
  refine zwW_cv (op := 60) (k' := 206) (n := 1) (kd := 10) (m := 3) (nx := 7) (r := r) (tl := [(0, a)]) (st' := []) (by decide +kernel) rfl (by decide +kernel) G_r.2.1 (x206_w h C r a G_r (by omega) p1) rfl ?_
  rintro v1 _ ⟨rfl, f2, f3⟩
  have B7 : v1 = (B : Int) := by have z := f3; omega
  have L7 := hG.1
  refine zwW_p [(2, 4, 0), (1, 1, 2), (1, 4, 0)] (q := 12) (ls' := [(2, 13), (2, r), (0, a), (0, 0), (0, v1), (9, 0), (9, 0)]) (st' := [(0, v1), (2, r)]) (by decide +kernel) rfl ?_
  refine zwW_cv (op := 60) (k' := 255) (n := 1) (kd := 10) (m := 3) (nx := 15) (r := r) (tl := [(0, v1)]) (st' := []) (by decide +kernel) rfl (by decide +kernel) G_r.2.1 (x255_e h C r v1 N G_r (by omega) hS ⟨by omega, by omega⟩) rfl ?_
  rintro v4 _ ⟨rfl, f5, f6⟩
  have Q15 : ((0 : Int) < L → v4 = cf ((0 : Int)).toNat) ∧ ((0 : Int) = L → v4 = -21) := by
    have z := f6
    rw [B7, Int.toNat_natCast] at z
    exact ⟨fun w => z.trans (hW 0 (by omega)), fun w => by omega⟩
  refine zwW_p [(2, 5, 0), (0, 0, 0), (2, 6, 0)] (q := 20) (ls' := [(2, 13), (2, r), (0, a), (0, 0), (0, v1), (0, v4), (0, 0)]) (st' := []) (by decide +kernel) rfl ?_
  have L7 : ∀ (n0 : Nat) (tL7 pL7 qL7 kL7 : Int) (hL7 : Hp), n0 = ((1000 - kL7)).toNat → (pL7 = B + kL7 ∧ kL7 ≤ (L : Int)) → ((kL7 < (L : Int) → qL7 = cf (kL7).toNat) ∧ (kL7 = (L : Int) → qL7 = -21)) → (eV hL7 18 (eRn (fld h 17) cf 0 (kL7).toNat eP0) tL7) → (0 ≤ tL7 ∧ tL7 ≤ 400) → (0 ≤ pL7 ∧ pL7 ≤ 1400) → (-2147483648 ≤ qL7 ∧ qL7 ≤ 2147483647) → (0 ≤ kL7 ∧ kL7 ≤ 1000) → (gS hL7 r) → CI hL7 → zXR msx224_e (0) (0) h hL7 → zwW sc (1) 224 20 [(2, 13), (2, r), (0, a), (0, tL7), (0, pL7), (0, qL7), (0, kL7)] [] hL7 (zwRt 0 (fun x g => CI g ∧ zXR msx224_e (0) (0) h g ∧ (-2147483648 ≤ x ∧ x ≤ 2147483647) ∧ (x = (eRn (fld h 17) cf 0 L eP0).1 0))) := by
    intro n0
    induction n0 using Nat.strongRecOn with
    | ind n0 IHL7 =>
      intro tL7 pL7 qL7 kL7 hL7 hnL7 iL7_0 iL7_1 iL7_2 iL7_3 iL7_4 iL7_5 iL7_6 gL7_0 ChL7 XhL7
      have DD := eRn_le (N := fld h 17) (c := cf) (kL7).toNat
      have DE := iL7_2.1
      refine zwW_p [(1, 6, 0), (0, 400, 0)] (q := 25) (ls' := [(2, 13), (2, r), (0, a), (0, tL7), (0, pL7), (0, qL7), (0, kL7)]) (st' := [(0, 400), (0, kL7)]) (by decide +kernel) rfl ?_
      refine zwic_ge (q := 178) (nx := 28) (by decide +kernel) (fun c8 => ?_) (fun c8 => ?_)
      · have K178 : kL7 = (L : Int) := by
          by_cases z : kL7 = (L : Int)
          · exact z
          · exfalso
            have o := hG.ok (m := (kL7).toNat) (by omega)
            rw [← iL7_1.1 (by omega)] at o
            have o := o.nw
            omega
        have V178 := iL7_2
        rw [K178, Int.toNat_natCast] at V178
        have F178 := hG.fin
        have Z178 : fld hL7 18 ((0 : Int)).toNat = _ := V178.2 0 (by omega)
        have T178 := V178.1
        refine zwW_p [(1, 3, 0)] (q := 179) (ls' := [(2, 13), (2, r), (0, a), (0, tL7), (0, pL7), (0, qL7), (0, kL7)]) (st' := [(0, tL7)]) (by decide +kernel) rfl ?_
        refine zwif_le (q := 191) (nx := 182) (by decide +kernel) (fun c9 => ?_) (fun c9 => ?_)
        · refine zwW_p [(0, 0, 0)] (q := 192) (ls' := [(2, 13), (2, r), (0, a), (0, tL7), (0, pL7), (0, qL7), (0, kL7)]) (st' := [(0, 0)]) (by decide +kernel) rfl ?_
          refine zwW_ret (nx := 193) (a := 0) (b := 0) (by decide +kernel) rfl (Or.inl rfl) ?_
          exact ⟨ChL7, XhL7.le (by decide) (by decide), by omega, by first | omega | (exfalso; omega)⟩
        · refine zwW_p [(1, 0, 2)] (q := 183) (ls' := [(2, 13), (2, r), (0, a), (0, tL7), (0, pL7), (0, qL7), (0, kL7)]) (st' := [(2, 13)]) (by decide +kernel) rfl ?_
          refine zwW_gc ChL7.1 (kd := 9) (bn := 5) (n := 6) (c := 18) (nx := 186) (by decide +kernel) ?_
          refine zwW_p [(0, 0, 0)] (q := 187) (ls' := [(2, 13), (2, r), (0, a), (0, tL7), (0, pL7), (0, qL7), (0, kL7)]) (st' := [(0, 0), (2, 18)]) (by decide +kernel) rfl ?_
          refine zwW_al ChL7.1 (a1 := 18) (a2 := 18) (kd := 20) (n := 400) (t := 0) (lo := -2147483648) (hi := 2147483647) (nx := 188) (by decide +kernel) ⟨by decide, by decide⟩ ⟨by decide, by decide⟩ ?_
          intro v10 ev10 lv10 uv10
          refine zwW_p [(24, 192, 0)] (q := 192) (ls' := [(2, 13), (2, r), (0, a), (0, tL7), (0, pL7), (0, qL7), (0, kL7)]) (st' := [(0, v10)]) (by decide +kernel) rfl ?_
          refine zwW_ret (nx := 193) (a := 0) (b := 0) (by decide +kernel) rfl (Or.inl rfl) ?_
          exact ⟨ChL7, XhL7.le (by decide) (by decide), by omega, by first | omega | (exfalso; omega)⟩
      · refine zwW_p [(1, 5, 0), (0, -21, 0)] (q := 32) (ls' := [(2, 13), (2, r), (0, a), (0, tL7), (0, pL7), (0, qL7), (0, kL7)]) (st' := [(0, -21), (0, qL7)]) (by decide +kernel) rfl ?_
        refine zwic_eq (q := 178) (nx := 35) (by decide +kernel) (fun c11 => ?_) (fun c11 => ?_)
        · have K178 : kL7 = (L : Int) := by
            by_cases z : kL7 = (L : Int)
            · exact z
            · exfalso
              have o := hG.ok (m := (kL7).toNat) (by omega)
              rw [← iL7_1.1 (by omega)] at o
              have o := o.nw
              omega
          have V178 := iL7_2
          rw [K178, Int.toNat_natCast] at V178
          have F178 := hG.fin
          have Z178 : fld hL7 18 ((0 : Int)).toNat = _ := V178.2 0 (by omega)
          have T178 := V178.1
          refine zwW_p [(1, 3, 0)] (q := 179) (ls' := [(2, 13), (2, r), (0, a), (0, tL7), (0, pL7), (0, qL7), (0, kL7)]) (st' := [(0, tL7)]) (by decide +kernel) rfl ?_
          refine zwif_le (q := 191) (nx := 182) (by decide +kernel) (fun c12 => ?_) (fun c12 => ?_)
          · refine zwW_p [(0, 0, 0)] (q := 192) (ls' := [(2, 13), (2, r), (0, a), (0, tL7), (0, pL7), (0, qL7), (0, kL7)]) (st' := [(0, 0)]) (by decide +kernel) rfl ?_
            refine zwW_ret (nx := 193) (a := 0) (b := 0) (by decide +kernel) rfl (Or.inl rfl) ?_
            exact ⟨ChL7, XhL7.le (by decide) (by decide), by omega, by first | omega | (exfalso; omega)⟩
          · refine zwW_p [(1, 0, 2)] (q := 183) (ls' := [(2, 13), (2, r), (0, a), (0, tL7), (0, pL7), (0, qL7), (0, kL7)]) (st' := [(2, 13)]) (by decide +kernel) rfl ?_
            refine zwW_gc ChL7.1 (kd := 9) (bn := 5) (n := 6) (c := 18) (nx := 186) (by decide +kernel) ?_
            refine zwW_p [(0, 0, 0)] (q := 187) (ls' := [(2, 13), (2, r), (0, a), (0, tL7), (0, pL7), (0, qL7), (0, kL7)]) (st' := [(0, 0), (2, 18)]) (by decide +kernel) rfl ?_
            refine zwW_al ChL7.1 (a1 := 18) (a2 := 18) (kd := 20) (n := 400) (t := 0) (lo := -2147483648) (hi := 2147483647) (nx := 188) (by decide +kernel) ⟨by decide, by decide⟩ ⟨by decide, by decide⟩ ?_
            intro v13 ev13 lv13 uv13
            refine zwW_p [(24, 192, 0)] (q := 192) (ls' := [(2, 13), (2, r), (0, a), (0, tL7), (0, pL7), (0, qL7), (0, kL7)]) (st' := [(0, v13)]) (by decide +kernel) rfl ?_
            refine zwW_ret (nx := 193) (a := 0) (b := 0) (by decide +kernel) rfl (Or.inl rfl) ?_
            exact ⟨ChL7, XhL7.le (by decide) (by decide), by omega, by first | omega | (exfalso; omega)⟩
        · have K35 : kL7 < (L : Int) := by
            by_cases z : kL7 = (L : Int)
            · exact absurd (iL7_1.2 z) (by omega)
            · omega
          have Q35 := iL7_1.1 K35
          have O35 := hG.ok (m := (kL7).toNat) (by omega)
          rw [← Q35] at O35
          refine zwW_p [(1, 3, 0), (1, 0, 2)] (q := 37) (ls' := [(2, 13), (2, r), (0, a), (0, tL7), (0, pL7), (0, qL7), (0, kL7)]) (st' := [(2, 13), (0, tL7)]) (by decide +kernel) rfl ?_
          refine zwW_gc ChL7.1 (kd := 9) (bn := 5) (n := 6) (c := 18) (nx := 40) (by decide +kernel) ?_
          refine zwW_len (kd := 20) (n := 400) (nx := 41) (by decide +kernel) (ChL7.1.s (a1 := 18) (a2 := 18) (by decide +kernel) (by omega) (by omega)) rfl ?_
          refine zwic_ge (q := 178) (nx := 44) (by decide +kernel) (fun c14 => ?_) (fun c14 => ?_)
          · exfalso; omega
          · refine zwW_p [(1, 5, 0)] (q := 46) (ls' := [(2, 13), (2, r), (0, a), (0, tL7), (0, pL7), (0, qL7), (0, kL7)]) (st' := [(0, qL7)]) (by decide +kernel) rfl ?_
            refine zwif_lt (q := 63) (nx := 49) (by decide +kernel) (fun c15 => ?_) (fun c15 => ?_)
            · refine zwW_p [(1, 5, 0), (0, -13, 0)] (q := 67) (ls' := [(2, 13), (2, r), (0, a), (0, tL7), (0, pL7), (0, qL7), (0, kL7)]) (st' := [(0, -13), (0, qL7)]) (by decide +kernel) rfl ?_
              refine zwic_lt (q := 91) (nx := 70) (by decide +kernel) (fun c16 => ?_) (fun c16 => ?_)
              · refine zwW_p [(1, 5, 0), (0, -20, 0)] (q := 95) (ls' := [(2, 13), (2, r), (0, a), (0, tL7), (0, pL7), (0, qL7), (0, kL7)]) (st' := [(0, -20), (0, qL7)]) (by decide +kernel) rfl ?_
                refine zwic_ne (q := 123) (nx := 98) (by decide +kernel) (fun c17 => ?_) (fun c17 => ?_)
                · have Y123 : qL7 < -13 ∧ qL7 ≠ -20 := by first | exact ⟨by omega, by omega⟩ | (exfalso; have := T98.1; omega)
                  have T123 := O35.bin Y123
                  have D123 := T123.1
                  have A123 := iL7_2.t2 T123.1
                  have C123 := iL7_2.t1 (by omega)
                  refine zwW_p [(1, 3, 0), (0, 1, 0)] (q := 125) (ls' := [(2, 13), (2, r), (0, a), (0, tL7), (0, pL7), (0, qL7), (0, kL7)]) (st' := [(0, 1), (0, tL7)]) (by decide +kernel) rfl ?_
                  refine zwic_le (q := 161) (nx := 128) (by decide +kernel) (fun c18 => ?_) (fun c18 => ?_)
                  · exfalso; omega
                  · refine zwW_inc (i := 3) (c := -1) (x := tL7) (nx := 131) (by decide +kernel) rfl ⟨by omega, by omega⟩ (ls' := [(2, 13), (2, r), (0, a), (0, (tL7 + (-1))), (0, pL7), (0, qL7), (0, kL7)]) rfl ?_
                    refine zwW_p [(1, 0, 2)] (q := 132) (ls' := [(2, 13), (2, r), (0, a), (0, (tL7 + (-1))), (0, pL7), (0, qL7), (0, kL7)]) (st' := [(2, 13)]) (by decide +kernel) rfl ?_
                    refine zwW_gc ChL7.1 (kd := 9) (bn := 5) (n := 6) (c := 18) (nx := 135) (by decide +kernel) ?_
                    refine zwW_p [(1, 3, 0), (0, 1, 0)] (q := 137) (ls' := [(2, 13), (2, r), (0, a), (0, (tL7 + (-1))), (0, pL7), (0, qL7), (0, kL7)]) (st' := [(0, 1), (0, (tL7 + (-1))), (2, 18)]) (by decide +kernel) rfl ?_
                    refine zwW_sub (nx := 138) (by decide +kernel) ⟨by omega, by omega⟩ ?_
                    refine zwW_p [(1, 5, 0)] (q := 140) (ls' := [(2, 13), (2, r), (0, a), (0, (tL7 + (-1))), (0, pL7), (0, qL7), (0, kL7)]) (st' := [(0, qL7), (0, ((tL7 + (-1)) - 1)), (2, 18)]) (by decide +kernel) rfl ?_
                    have IA : fld hL7 18 ((tL7 + (-1)) - 1).toNat = _ := (congrArg (fld hL7 18) (show ((tL7 + (-1)) - 1).toNat = (tL7 - 2).toNat by omega)).trans A123
                    have IC : fld hL7 18 ((tL7 + (-1))).toNat = _ := (congrArg (fld hL7 18) (show ((tL7 + (-1))).toNat = (tL7 - 1).toNat by omega)).trans C123
                    refine zwW_ngw (nx := 141) (by decide +kernel) ?_
                    intro v19 ev19 lv19 uv19
                    have N141 : v19 = -qL7 := by
                      rw [ev19]
                      have o := T123.2.2.2
                      unfold eOp at o
                      unfold w32
                      omega
                    refine zwW_p [(1, 0, 2)] (q := 142) (ls' := [(2, 13), (2, r), (0, a), (0, (tL7 + (-1))), (0, pL7), (0, qL7), (0, kL7)]) (st' := [(2, 13), (0, v19), (0, ((tL7 + (-1)) - 1)), (2, 18)]) (by decide +kernel) rfl ?_
                    refine zwW_gc ChL7.1 (kd := 9) (bn := 5) (n := 6) (c := 18) (nx := 145) (by decide +kernel) ?_
                    refine zwW_p [(1, 3, 0), (0, 1, 0)] (q := 147) (ls' := [(2, 13), (2, r), (0, a), (0, (tL7 + (-1))), (0, pL7), (0, qL7), (0, kL7)]) (st' := [(0, 1), (0, (tL7 + (-1))), (2, 18), (0, v19), (0, ((tL7 + (-1)) - 1)), (2, 18)]) (by decide +kernel) rfl ?_
                    refine zwW_sub (nx := 148) (by decide +kernel) ⟨by omega, by omega⟩ ?_
                    refine zwW_al ChL7.1 (a1 := 18) (a2 := 18) (kd := 20) (n := 400) (t := 0) (lo := -2147483648) (hi := 2147483647) (nx := 149) (by decide +kernel) ⟨by decide, by decide⟩ ⟨by omega, by omega⟩ ?_
                    intro v20 ev20 lv20 uv20
                    refine zwW_p [(7, 0, 0), (1, 0, 2)] (q := 151) (ls' := [(2, 13), (2, r), (0, a), (0, (tL7 + (-1))), (0, pL7), (0, qL7), (0, kL7)]) (st' := [(2, 13), (1, v20), (0, v19), (0, ((tL7 + (-1)) - 1)), (2, 18)]) (by decide +kernel) rfl ?_
                    refine zwW_gc ChL7.1 (kd := 9) (bn := 5) (n := 6) (c := 18) (nx := 154) (by decide +kernel) ?_
                    refine zwW_p [(1, 3, 0)] (q := 155) (ls' := [(2, 13), (2, r), (0, a), (0, (tL7 + (-1))), (0, pL7), (0, qL7), (0, kL7)]) (st' := [(0, (tL7 + (-1))), (2, 18), (1, v20), (0, v19), (0, ((tL7 + (-1)) - 1)), (2, 18)]) (by decide +kernel) rfl ?_
                    refine zwW_al ChL7.1 (a1 := 18) (a2 := 18) (kd := 20) (n := 400) (t := 0) (lo := -2147483648) (hi := 2147483647) (nx := 156) (by decide +kernel) ⟨by decide, by decide⟩ ⟨by omega, by omega⟩ ?_
                    intro v21 ev21 lv21 uv21
                    refine zwW_p [(7, 0, 0)] (q := 157) (ls' := [(2, 13), (2, r), (0, a), (0, (tL7 + (-1))), (0, pL7), (0, qL7), (0, kL7)]) (st' := [(1, v21), (1, v20), (0, v19), (0, ((tL7 + (-1)) - 1)), (2, 18)]) (by decide +kernel) rfl ?_
                    refine zwW_cs (k' := 256) (n := 3) (nx := 160) (as := [(0, v19), (1, v20), (1, v21)]) (st' := [(0, ((tL7 + (-1)) - 1)), (2, 18)]) (by decide +kernel) rfl (x256_e hL7 ChL7 v19 v20 v21 (by omega) (by omega) (by omega) (by rw [N141]; exact T123.2.2.2.neg) ⟨by rw [ev20, IA]; exact T123.2.1.1, by rw [ev21, IC]; exact T123.2.1.2⟩ (fun z => ⟨by rw [ev20, IA]; exact (T123.2.2.1 (by omega)).1, by rw [ev21, IC]; exact (T123.2.2.1 (by omega)).2⟩)) rfl ?_
                    rintro v22 _ ⟨rfl, f23, f24⟩
                    refine zwW_as ChL7.1 (a1 := 18) (a2 := 18) (n := 400) (lo := -2147483648) (hi := 2147483647) (nx := 161) (by decide +kernel) ⟨by decide, by decide⟩ ⟨by omega, by omega⟩ ⟨by omega, by omega⟩ ?_
                    intro h25 eh25 Ih25
                    have Ch25 : CI h25 := ChL7.wc eh25 Ih25 (by decide) (by decide)
                    have Qh25 : zXR [(18, 18, 0, 400)] 0 0 hL7 h25 := zXR.wc eh25 rfl ⟨by decide, by decide, Or.inl (by decide)⟩ ⟨by omega, by omega⟩
                    have VB : eV h25 18 (eRn (fld h 17) cf 0 (kL7 + 1).toNat eP0) (tL7 + (-1)) := by
                      rw [show (kL7 + 1).toNat = (kL7).toNat + 1 by omega, eRn_s, ← Q35]
                      rw [show (tL7 + (-1)) = tL7 - 1 by omega]
                      exact iL7_2.bin eh25 (ChL7.1.s (a1 := 18) (a2 := 18) (k := 20) (n := 400) (by decide +kernel) (by decide) (by decide)) (by omega) (by omega) T123.1 Y123 (by rw [← N141, A123, C123, ← IA, ← IC, ← ev20, ← ev21]; assumption)
                    have Xh25 : zXR msx224_e (0) (0) h h25 := XhL7.tr (c2 := 0) (s2 := 0) Qh25 (by decide +kernel) (by decide) (by decide)
                    have Gh25_0 : gS h25 r := gL7_0.x Qh25
                    have F161 : fld h25 r 1 = fld h r 1 := zS_fin Xh25 G_r.1 G_r.2.1 rfl
                    have H161 : sh h25 (fld h25 r 1) = some (20, N) := by rw [F161]; exact Xh25.1 _ _ hS
                    have D161 : fld h25 (fld h25 r 1) = fld h (fld h r 1) := by rw [F161]; exact Xh25.du (by decide +kernel) G_r.2.2.1.1 hS (by decide)
                    refine zwW_inc (i := 4) (c := 1) (x := pL7) (nx := 164) (by decide +kernel) rfl ⟨by omega, by omega⟩ (ls' := [(2, 13), (2, r), (0, a), (0, (tL7 + (-1))), (0, (pL7 + 1)), (0, qL7), (0, kL7)]) rfl ?_
                    refine zwW_p [(1, 1, 2), (1, 4, 0)] (q := 167) (ls' := [(2, 13), (2, r), (0, a), (0, (tL7 + (-1))), (0, (pL7 + 1)), (0, qL7), (0, kL7)]) (st' := [(0, (pL7 + 1)), (2, r)]) (by decide +kernel) rfl ?_
                    refine zwW_cv (op := 60) (k' := 255) (n := 1) (kd := 10) (m := 3) (nx := 170) (r := r) (tl := [(0, (pL7 + 1))]) (st' := []) (by decide +kernel) rfl (by decide +kernel) Gh25_0.2.1 (x255_e h25 Ch25 r (pL7 + 1) N Gh25_0 (by omega) H161 ⟨by omega, by omega⟩) rfl ?_
                    rintro v26 _ ⟨rfl, f27, f28⟩
                    have QN : (kL7 + 1 < (L : Int) → v26 = cf (kL7 + 1).toNat) ∧ (kL7 + 1 = (L : Int) → v26 = -21) := by
                      have z := f28
                      rw [D161] at z
                      exact ⟨fun w => by rw [z, show ((pL7 + 1)).toNat = B + (kL7 + 1).toNat by omega]; exact hW _ (by omega), fun w => by rw [z, show ((pL7 + 1)).toNat = B + L by omega]; exact hE⟩
                    refine zwW_p [(2, 5, 0)] (q := 172) (ls' := [(2, 13), (2, r), (0, a), (0, (tL7 + (-1))), (0, (pL7 + 1)), (0, v26), (0, kL7)]) (st' := []) (by decide +kernel) rfl ?_
                    refine zwW_inc (i := 6) (c := 1) (x := kL7) (nx := 175) (by decide +kernel) rfl ⟨by omega, by omega⟩ (ls' := [(2, 13), (2, r), (0, a), (0, (tL7 + (-1))), (0, (pL7 + 1)), (0, v26), (0, (kL7 + 1))]) rfl ?_
                    refine zwW_p [(24, 20, 0)] (q := 20) (ls' := [(2, 13), (2, r), (0, a), (0, (tL7 + (-1))), (0, (pL7 + 1)), (0, v26), (0, (kL7 + 1))]) (st' := []) (by decide +kernel) rfl ?_
                    exact IHL7 ((1000 - (kL7 + 1))).toNat (by omega) (tL7 + (-1)) (pL7 + 1) v26 (kL7 + 1) h25 rfl (by omega) (QN) (VB) (by omega) (by omega) (by omega) (by omega) Gh25_0 Ch25 (Xh25.le (by decide) (by decide))
                · have T98 : eOk (-20) (eRn (fld h 17) cf 0 (kL7).toNat eP0) := by have o := O35; rwa [show qL7 = -20 by omega] at o
                  have T98 := T98.not
                  have D98 := T98.1
                  refine zwW_p [(1, 3, 0)] (q := 99) (ls' := [(2, 13), (2, r), (0, a), (0, tL7), (0, pL7), (0, qL7), (0, kL7)]) (st' := [(0, tL7)]) (by decide +kernel) rfl ?_
                  refine zwif_le (q := 123) (nx := 102) (by decide +kernel) (fun c29 => ?_) (fun c29 => ?_)
                  · exfalso; omega
                  · refine zwW_p [(1, 0, 2)] (q := 103) (ls' := [(2, 13), (2, r), (0, a), (0, tL7), (0, pL7), (0, qL7), (0, kL7)]) (st' := [(2, 13)]) (by decide +kernel) rfl ?_
                    refine zwW_gc ChL7.1 (kd := 9) (bn := 5) (n := 6) (c := 18) (nx := 106) (by decide +kernel) ?_
                    refine zwW_p [(1, 3, 0), (0, 1, 0)] (q := 108) (ls' := [(2, 13), (2, r), (0, a), (0, tL7), (0, pL7), (0, qL7), (0, kL7)]) (st' := [(0, 1), (0, tL7), (2, 18)]) (by decide +kernel) rfl ?_
                    refine zwW_sub (nx := 109) (by decide +kernel) ⟨by omega, by omega⟩ ?_
                    refine zwW_p [(0, 1, 0), (1, 0, 2)] (q := 111) (ls' := [(2, 13), (2, r), (0, a), (0, tL7), (0, pL7), (0, qL7), (0, kL7)]) (st' := [(2, 13), (0, 1), (0, (tL7 - 1)), (2, 18)]) (by decide +kernel) rfl ?_
                    refine zwW_gc ChL7.1 (kd := 9) (bn := 5) (n := 6) (c := 18) (nx := 114) (by decide +kernel) ?_
                    refine zwW_p [(1, 3, 0), (0, 1, 0)] (q := 116) (ls' := [(2, 13), (2, r), (0, a), (0, tL7), (0, pL7), (0, qL7), (0, kL7)]) (st' := [(0, 1), (0, tL7), (2, 18), (0, 1), (0, (tL7 - 1)), (2, 18)]) (by decide +kernel) rfl ?_
                    refine zwW_sub (nx := 117) (by decide +kernel) ⟨by omega, by omega⟩ ?_
                    refine zwW_al ChL7.1 (a1 := 18) (a2 := 18) (kd := 20) (n := 400) (t := 0) (lo := -2147483648) (hi := 2147483647) (nx := 118) (by decide +kernel) ⟨by decide, by decide⟩ ⟨by omega, by omega⟩ ?_
                    intro v30 ev30 lv30 uv30
                    refine zwW_sbw (nx := 119) (by decide +kernel) ?_
                    intro v31 ev31 lv31 uv31
                    refine zwW_as ChL7.1 (a1 := 18) (a2 := 18) (n := 400) (lo := -2147483648) (hi := 2147483647) (nx := 120) (by decide +kernel) ⟨by decide, by decide⟩ ⟨by omega, by omega⟩ ⟨by omega, by omega⟩ ?_
                    intro h32 eh32 Ih32
                    have Ch32 : CI h32 := ChL7.wc eh32 Ih32 (by decide) (by decide)
                    have Qh32 : zXR [(18, 18, 0, 400)] 0 0 hL7 h32 := zXR.wc eh32 rfl ⟨by decide, by decide, Or.inl (by decide)⟩ ⟨by omega, by omega⟩
                    have VB : eV h32 18 (eRn (fld h 17) cf 0 (kL7 + 1).toNat eP0) tL7 := by
                      rw [show (kL7 + 1).toNat = (kL7).toNat + 1 by omega, eRn_s, ← Q35]
                      have B119 : fld hL7 18 (tL7 - 1).toNat = 0 ∨ fld hL7 18 (tL7 - 1).toNat = 1 := by rw [iL7_2.t1 T98.1]; exact T98.2
                      exact iL7_2.not eh32 (ChL7.1.s (a1 := 18) (a2 := 18) (k := 20) (n := 400) (by decide +kernel) (by decide) (by decide)) rfl (by omega) T98.1 (by omega) (by first | omega | (rw [ev31]; unfold w32; omega))
                    have Xh32 : zXR msx224_e (0) (0) h h32 := XhL7.tr (c2 := 0) (s2 := 0) Qh32 (by decide +kernel) (by decide) (by decide)
                    have Gh32_0 : gS h32 r := gL7_0.x Qh32
                    refine zwW_p [(24, 161, 0)] (q := 161) (ls' := [(2, 13), (2, r), (0, a), (0, tL7), (0, pL7), (0, qL7), (0, kL7)]) (st' := []) (by decide +kernel) rfl ?_
                    have F161 : fld h32 r 1 = fld h r 1 := zS_fin Xh32 G_r.1 G_r.2.1 rfl
                    have H161 : sh h32 (fld h32 r 1) = some (20, N) := by rw [F161]; exact Xh32.1 _ _ hS
                    have D161 : fld h32 (fld h32 r 1) = fld h (fld h r 1) := by rw [F161]; exact Xh32.du (by decide +kernel) G_r.2.2.1.1 hS (by decide)
                    refine zwW_inc (i := 4) (c := 1) (x := pL7) (nx := 164) (by decide +kernel) rfl ⟨by omega, by omega⟩ (ls' := [(2, 13), (2, r), (0, a), (0, tL7), (0, (pL7 + 1)), (0, qL7), (0, kL7)]) rfl ?_
                    refine zwW_p [(1, 1, 2), (1, 4, 0)] (q := 167) (ls' := [(2, 13), (2, r), (0, a), (0, tL7), (0, (pL7 + 1)), (0, qL7), (0, kL7)]) (st' := [(0, (pL7 + 1)), (2, r)]) (by decide +kernel) rfl ?_
                    refine zwW_cv (op := 60) (k' := 255) (n := 1) (kd := 10) (m := 3) (nx := 170) (r := r) (tl := [(0, (pL7 + 1))]) (st' := []) (by decide +kernel) rfl (by decide +kernel) Gh32_0.2.1 (x255_e h32 Ch32 r (pL7 + 1) N Gh32_0 (by omega) H161 ⟨by omega, by omega⟩) rfl ?_
                    rintro v33 _ ⟨rfl, f34, f35⟩
                    have QN : (kL7 + 1 < (L : Int) → v33 = cf (kL7 + 1).toNat) ∧ (kL7 + 1 = (L : Int) → v33 = -21) := by
                      have z := f35
                      rw [D161] at z
                      exact ⟨fun w => by rw [z, show ((pL7 + 1)).toNat = B + (kL7 + 1).toNat by omega]; exact hW _ (by omega), fun w => by rw [z, show ((pL7 + 1)).toNat = B + L by omega]; exact hE⟩
                    refine zwW_p [(2, 5, 0)] (q := 172) (ls' := [(2, 13), (2, r), (0, a), (0, tL7), (0, (pL7 + 1)), (0, v33), (0, kL7)]) (st' := []) (by decide +kernel) rfl ?_
                    refine zwW_inc (i := 6) (c := 1) (x := kL7) (nx := 175) (by decide +kernel) rfl ⟨by omega, by omega⟩ (ls' := [(2, 13), (2, r), (0, a), (0, tL7), (0, (pL7 + 1)), (0, v33), (0, (kL7 + 1))]) rfl ?_
                    refine zwW_p [(24, 20, 0)] (q := 20) (ls' := [(2, 13), (2, r), (0, a), (0, tL7), (0, (pL7 + 1)), (0, v33), (0, (kL7 + 1))]) (st' := []) (by decide +kernel) rfl ?_
                    exact IHL7 ((1000 - (kL7 + 1))).toNat (by omega) tL7 (pL7 + 1) v33 (kL7 + 1) h32 rfl (by omega) (QN) (VB) (by omega) (by omega) (by omega) (by omega) Gh32_0 Ch32 (Xh32.le (by decide) (by decide))
              · refine zwW_p [(1, 0, 2)] (q := 71) (ls' := [(2, 13), (2, r), (0, a), (0, tL7), (0, pL7), (0, qL7), (0, kL7)]) (st' := [(2, 13)]) (by decide +kernel) rfl ?_
                refine zwW_gc ChL7.1 (kd := 9) (bn := 5) (n := 6) (c := 18) (nx := 74) (by decide +kernel) ?_
                refine zwW_p [(1, 3, 0), (1, 0, 2)] (q := 76) (ls' := [(2, 13), (2, r), (0, a), (0, tL7), (0, pL7), (0, qL7), (0, kL7)]) (st' := [(2, 13), (0, tL7), (2, 18)]) (by decide +kernel) rfl ?_
                refine zwW_gc ChL7.1 (kd := 9) (bn := 4) (n := 6) (c := 17) (nx := 79) (by decide +kernel) ?_
                refine zwW_p [(0, -1, 0), (1, 5, 0)] (q := 82) (ls' := [(2, 13), (2, r), (0, a), (0, tL7), (0, pL7), (0, qL7), (0, kL7)]) (st' := [(0, qL7), (0, -1), (2, 17), (0, tL7), (2, 18)]) (by decide +kernel) rfl ?_
                refine zwW_sub (nx := 83) (by decide +kernel) ⟨by omega, by omega⟩ ?_
                refine zwW_al ChL7.1 (a1 := 17) (a2 := 17) (kd := 20) (n := 13) (t := 0) (lo := -2147483648) (hi := 2147483647) (nx := 84) (by decide +kernel) ⟨by decide, by decide⟩ ⟨by omega, by omega⟩ ?_
                intro v36 ev36 lv36 uv36
                refine zwW_as ChL7.1 (a1 := 18) (a2 := 18) (n := 400) (lo := -2147483648) (hi := 2147483647) (nx := 85) (by decide +kernel) ⟨by decide, by decide⟩ ⟨by omega, by omega⟩ ⟨by omega, by omega⟩ ?_
                intro h37 eh37 Ih37
                have Ch37 : CI h37 := ChL7.wc eh37 Ih37 (by decide) (by decide)
                have Qh37 : zXR [(18, 18, 0, 400)] 0 0 hL7 h37 := zXR.wc eh37 rfl ⟨by decide, by decide, Or.inl (by decide)⟩ ⟨by omega, by omega⟩
                have VB : eV h37 18 (eRn (fld h 17) cf 0 (kL7 + 1).toNat eP0) (tL7 + 1) := by
                  rw [show (kL7 + 1).toNat = (kL7).toNat + 1 by omega, eRn_s, ← Q35]
                  have N84 : fld hL7 17 = fld h 17 := XhL7.fa (a := 17) (by decide +kernel) (by decide)
                  exact iL7_2.nam eh37 (ChL7.1.s (a1 := 18) (a2 := 18) (k := 20) (n := 400) (by decide +kernel) (by decide) (by decide)) rfl (by omega) ⟨by omega, by omega⟩ (by rw [← N84]; exact ev36)
                have Xh37 : zXR msx224_e (0) (0) h h37 := XhL7.tr (c2 := 0) (s2 := 0) Qh37 (by decide +kernel) (by decide) (by decide)
                have Gh37_0 : gS h37 r := gL7_0.x Qh37
                refine zwW_inc (i := 3) (c := 1) (x := tL7) (nx := 88) (by decide +kernel) rfl ⟨by omega, by omega⟩ (ls' := [(2, 13), (2, r), (0, a), (0, (tL7 + 1)), (0, pL7), (0, qL7), (0, kL7)]) rfl ?_
                refine zwW_p [(24, 161, 0)] (q := 161) (ls' := [(2, 13), (2, r), (0, a), (0, (tL7 + 1)), (0, pL7), (0, qL7), (0, kL7)]) (st' := []) (by decide +kernel) rfl ?_
                have F161 : fld h37 r 1 = fld h r 1 := zS_fin Xh37 G_r.1 G_r.2.1 rfl
                have H161 : sh h37 (fld h37 r 1) = some (20, N) := by rw [F161]; exact Xh37.1 _ _ hS
                have D161 : fld h37 (fld h37 r 1) = fld h (fld h r 1) := by rw [F161]; exact Xh37.du (by decide +kernel) G_r.2.2.1.1 hS (by decide)
                refine zwW_inc (i := 4) (c := 1) (x := pL7) (nx := 164) (by decide +kernel) rfl ⟨by omega, by omega⟩ (ls' := [(2, 13), (2, r), (0, a), (0, (tL7 + 1)), (0, (pL7 + 1)), (0, qL7), (0, kL7)]) rfl ?_
                refine zwW_p [(1, 1, 2), (1, 4, 0)] (q := 167) (ls' := [(2, 13), (2, r), (0, a), (0, (tL7 + 1)), (0, (pL7 + 1)), (0, qL7), (0, kL7)]) (st' := [(0, (pL7 + 1)), (2, r)]) (by decide +kernel) rfl ?_
                refine zwW_cv (op := 60) (k' := 255) (n := 1) (kd := 10) (m := 3) (nx := 170) (r := r) (tl := [(0, (pL7 + 1))]) (st' := []) (by decide +kernel) rfl (by decide +kernel) Gh37_0.2.1 (x255_e h37 Ch37 r (pL7 + 1) N Gh37_0 (by omega) H161 ⟨by omega, by omega⟩) rfl ?_
                rintro v38 _ ⟨rfl, f39, f40⟩
                have QN : (kL7 + 1 < (L : Int) → v38 = cf (kL7 + 1).toNat) ∧ (kL7 + 1 = (L : Int) → v38 = -21) := by
                  have z := f40
                  rw [D161] at z
                  exact ⟨fun w => by rw [z, show ((pL7 + 1)).toNat = B + (kL7 + 1).toNat by omega]; exact hW _ (by omega), fun w => by rw [z, show ((pL7 + 1)).toNat = B + L by omega]; exact hE⟩
                refine zwW_p [(2, 5, 0)] (q := 172) (ls' := [(2, 13), (2, r), (0, a), (0, (tL7 + 1)), (0, (pL7 + 1)), (0, v38), (0, kL7)]) (st' := []) (by decide +kernel) rfl ?_
                refine zwW_inc (i := 6) (c := 1) (x := kL7) (nx := 175) (by decide +kernel) rfl ⟨by omega, by omega⟩ (ls' := [(2, 13), (2, r), (0, a), (0, (tL7 + 1)), (0, (pL7 + 1)), (0, v38), (0, (kL7 + 1))]) rfl ?_
                refine zwW_p [(24, 20, 0)] (q := 20) (ls' := [(2, 13), (2, r), (0, a), (0, (tL7 + 1)), (0, (pL7 + 1)), (0, v38), (0, (kL7 + 1))]) (st' := []) (by decide +kernel) rfl ?_
                exact IHL7 ((1000 - (kL7 + 1))).toNat (by omega) (tL7 + 1) (pL7 + 1) v38 (kL7 + 1) h37 rfl (by omega) (QN) (VB) (by omega) (by omega) (by omega) (by omega) Gh37_0 Ch37 (Xh37.le (by decide) (by decide))
            · refine zwW_p [(1, 0, 2)] (q := 50) (ls' := [(2, 13), (2, r), (0, a), (0, tL7), (0, pL7), (0, qL7), (0, kL7)]) (st' := [(2, 13)]) (by decide +kernel) rfl ?_
              refine zwW_gc ChL7.1 (kd := 9) (bn := 5) (n := 6) (c := 18) (nx := 53) (by decide +kernel) ?_
              refine zwW_p [(1, 3, 0), (1, 5, 0)] (q := 56) (ls' := [(2, 13), (2, r), (0, a), (0, tL7), (0, pL7), (0, qL7), (0, kL7)]) (st' := [(0, qL7), (0, tL7), (2, 18)]) (by decide +kernel) rfl ?_
              refine zwW_as ChL7.1 (a1 := 18) (a2 := 18) (n := 400) (lo := -2147483648) (hi := 2147483647) (nx := 57) (by decide +kernel) ⟨by decide, by decide⟩ ⟨by omega, by omega⟩ ⟨by omega, by omega⟩ ?_
              intro h41 eh41 Ih41
              have Ch41 : CI h41 := ChL7.wc eh41 Ih41 (by decide) (by decide)
              have Qh41 : zXR [(18, 18, 0, 400)] 0 0 hL7 h41 := zXR.wc eh41 rfl ⟨by decide, by decide, Or.inl (by decide)⟩ ⟨by omega, by omega⟩
              have VB : eV h41 18 (eRn (fld h 17) cf 0 (kL7 + 1).toNat eP0) (tL7 + 1) := by
                rw [show (kL7 + 1).toNat = (kL7).toNat + 1 by omega, eRn_s, ← Q35]
                exact iL7_2.num eh41 (ChL7.1.s (a1 := 18) (a2 := 18) (k := 20) (n := 400) (by decide +kernel) (by decide) (by decide)) rfl (by omega) (by omega) rfl
              have Xh41 : zXR msx224_e (0) (0) h h41 := XhL7.tr (c2 := 0) (s2 := 0) Qh41 (by decide +kernel) (by decide) (by decide)
              have Gh41_0 : gS h41 r := gL7_0.x Qh41
              refine zwW_inc (i := 3) (c := 1) (x := tL7) (nx := 60) (by decide +kernel) rfl ⟨by omega, by omega⟩ (ls' := [(2, 13), (2, r), (0, a), (0, (tL7 + 1)), (0, pL7), (0, qL7), (0, kL7)]) rfl ?_
              refine zwW_p [(24, 161, 0)] (q := 161) (ls' := [(2, 13), (2, r), (0, a), (0, (tL7 + 1)), (0, pL7), (0, qL7), (0, kL7)]) (st' := []) (by decide +kernel) rfl ?_
              have F161 : fld h41 r 1 = fld h r 1 := zS_fin Xh41 G_r.1 G_r.2.1 rfl
              have H161 : sh h41 (fld h41 r 1) = some (20, N) := by rw [F161]; exact Xh41.1 _ _ hS
              have D161 : fld h41 (fld h41 r 1) = fld h (fld h r 1) := by rw [F161]; exact Xh41.du (by decide +kernel) G_r.2.2.1.1 hS (by decide)
              refine zwW_inc (i := 4) (c := 1) (x := pL7) (nx := 164) (by decide +kernel) rfl ⟨by omega, by omega⟩ (ls' := [(2, 13), (2, r), (0, a), (0, (tL7 + 1)), (0, (pL7 + 1)), (0, qL7), (0, kL7)]) rfl ?_
              refine zwW_p [(1, 1, 2), (1, 4, 0)] (q := 167) (ls' := [(2, 13), (2, r), (0, a), (0, (tL7 + 1)), (0, (pL7 + 1)), (0, qL7), (0, kL7)]) (st' := [(0, (pL7 + 1)), (2, r)]) (by decide +kernel) rfl ?_
              refine zwW_cv (op := 60) (k' := 255) (n := 1) (kd := 10) (m := 3) (nx := 170) (r := r) (tl := [(0, (pL7 + 1))]) (st' := []) (by decide +kernel) rfl (by decide +kernel) Gh41_0.2.1 (x255_e h41 Ch41 r (pL7 + 1) N Gh41_0 (by omega) H161 ⟨by omega, by omega⟩) rfl ?_
              rintro v42 _ ⟨rfl, f43, f44⟩
              have QN : (kL7 + 1 < (L : Int) → v42 = cf (kL7 + 1).toNat) ∧ (kL7 + 1 = (L : Int) → v42 = -21) := by
                have z := f44
                rw [D161] at z
                exact ⟨fun w => by rw [z, show ((pL7 + 1)).toNat = B + (kL7 + 1).toNat by omega]; exact hW _ (by omega), fun w => by rw [z, show ((pL7 + 1)).toNat = B + L by omega]; exact hE⟩
              refine zwW_p [(2, 5, 0)] (q := 172) (ls' := [(2, 13), (2, r), (0, a), (0, (tL7 + 1)), (0, (pL7 + 1)), (0, v42), (0, kL7)]) (st' := []) (by decide +kernel) rfl ?_
              refine zwW_inc (i := 6) (c := 1) (x := kL7) (nx := 175) (by decide +kernel) rfl ⟨by omega, by omega⟩ (ls' := [(2, 13), (2, r), (0, a), (0, (tL7 + 1)), (0, (pL7 + 1)), (0, v42), (0, (kL7 + 1))]) rfl ?_
              refine zwW_p [(24, 20, 0)] (q := 20) (ls' := [(2, 13), (2, r), (0, a), (0, (tL7 + 1)), (0, (pL7 + 1)), (0, v42), (0, (kL7 + 1))]) (st' := []) (by decide +kernel) rfl ?_
              exact IHL7 ((1000 - (kL7 + 1))).toNat (by omega) (tL7 + 1) (pL7 + 1) v42 (kL7 + 1) h41 rfl (by omega) (QN) (VB) (by omega) (by omega) (by omega) (by omega) Gh41_0 Ch41 (Xh41.le (by decide) (by decide))
  exact L7 _ 0 v1 v4 0 h rfl (by omega) (Q15) (eV_0) (by omega) (by omega) (by omega) (by omega) G_r C (X.le (by decide) (by decide))
def msx172_e : Zms := [(18, 18, 0, 400)]
-- WheelLand$Rules.answer(II)I
theorem x172_e {sc : List Int} (h : Hp) (C : CI h) (a b : Int) (q_a : -2147483648 ≤ a ∧ a ≤ 2147483647) (q_b : -2147483648 ≤ b ∧ b ≤ 2147483647) (p1 : 0 ≤ a ∧ a ≤ 4) (hs : zShe h) (hf : zFo h) (hk : zCk h) (hN : eNs (fld h 17)) (n1 : fld h 13 1 = fld h 37 53) (n2 : fld h 14 2 = fld h 37 52) : zwC sc 3 172 [(2, 13), (0, a), (0, b)] h (zwRt 0 (fun x g => CI g ∧ zXR msx172_e (0) (0) h g ∧ (-2147483648 ≤ x ∧ x ≤ 2147483647) ∧ (x = zTl h a b (fld h 17)))) := by
  refine zwC_of (D := 2) 4 (by decide +kernel) rfl (ls := [(2, 13), (0, a), (0, b), (9, 0)]) rfl ?_
  have X : zXR msx172_e 0 0 h h := zXR.rf _ _
  refine zwW_p [(1, 0, 2), (1, 1, 0), (1, 2, 0)] (q := 3) (ls' := [(2, 13), (0, a), (0, b), (9, 0)]) (st' := [(0, b), (0, a), (2, 13)]) (by decide +kernel) rfl ?_
  refine zwW_cm C.1 (op := 60) (k' := 125) (n := 2) (kd := 9) (m := 6) (nx := 6) (r := 13) (tl := [(0, a), (0, b)]) (st' := []) (by decide +kernel) rfl (by decide +kernel) rfl (x125_w h C a b (by omega) (by omega) p1 (zFrn_of C hs hf p1).1) ?_
  rintro v2 _ ⟨rfl, ⟨rfl, c1⟩ | ⟨Gv2, c1⟩⟩
  · refine zwW_p [(2, 3, 2), (1, 3, 2)] (q := 8) (ls' := [(2, 13), (0, a), (0, b), (2, 0)]) (st' := [(2, 0)]) (by decide +kernel) rfl ?_
    refine zwnu_ne (q := 26) (nx := 11) (by decide +kernel) (by decide) (fun c3 => ?_) (fun c3 => ?_)
    · exfalso; omega
    · have N11 : zWn h a b = -1 := zWn_n n1 (by assumption)
      refine zwW_p [(1, 1, 0)] (q := 12) (ls' := [(2, 13), (0, a), (0, b), (2, 0)]) (st' := [(0, a)]) (by decide +kernel) rfl ?_
      refine zwif_eq (q := 20) (nx := 15) (by decide +kernel) (fun c4 => ?_) (fun c4 => ?_)
      · refine zwW_p [(0, 0, 0), (24, 25, 0)] (q := 25) (ls' := [(2, 13), (0, a), (0, b), (2, 0)]) (st' := [(0, 0)]) (by decide +kernel) rfl ?_
        refine zwW_ret (nx := 26) (a := 0) (b := 0) (by decide +kernel) rfl (Or.inl rfl) ?_
        exact ⟨C, X.le (by decide) (by decide), by omega, by first | (rw [zTl_n N11]; first | rw [if_pos (by omega)] | rw [if_neg (by omega)]) | (rw [zTl_y W26, ← m7]; exact rfl)⟩
      · refine zwW_p [(1, 1, 0), (0, 2, 0)] (q := 17) (ls' := [(2, 13), (0, a), (0, b), (2, 0)]) (st' := [(0, 2), (0, a)]) (by decide +kernel) rfl ?_
        refine zwic_ne (q := 24) (nx := 20) (by decide +kernel) (fun c5 => ?_) (fun c5 => ?_)
        · refine zwW_p [(0, 1, 0)] (q := 25) (ls' := [(2, 13), (0, a), (0, b), (2, 0)]) (st' := [(0, 1)]) (by decide +kernel) rfl ?_
          refine zwW_ret (nx := 26) (a := 0) (b := 0) (by decide +kernel) rfl (Or.inl rfl) ?_
          exact ⟨C, X.le (by decide) (by decide), by omega, by first | (rw [zTl_n N11]; first | rw [if_pos (by omega)] | rw [if_neg (by omega)]) | (rw [zTl_y W26, ← m7]; exact rfl)⟩
        · refine zwW_p [(0, 0, 0), (24, 25, 0)] (q := 25) (ls' := [(2, 13), (0, a), (0, b), (2, 0)]) (st' := [(0, 0)]) (by decide +kernel) rfl ?_
          refine zwW_ret (nx := 26) (a := 0) (b := 0) (by decide +kernel) rfl (Or.inl rfl) ?_
          exact ⟨C, X.le (by decide) (by decide), by omega, by first | (rw [zTl_n N11]; first | rw [if_pos (by omega)] | rw [if_neg (by omega)]) | (rw [zTl_y W26, ← m7]; exact rfl)⟩
  · have lv2 := Gv2.1
    refine zwW_p [(2, 3, 2), (1, 3, 2)] (q := 8) (ls' := [(2, 13), (0, a), (0, b), (2, v2)]) (st' := [(2, v2)]) (by decide +kernel) rfl ?_
    refine zwnu_ne (q := 26) (nx := 11) (by decide +kernel) (by omega) (fun c6 => ?_) (fun c6 => ?_)
    · obtain ⟨W26, B26, L26, N26, m1, m2, m3, m4, m5, m6, m7⟩ := zShe.run (r := v2) C hs hf hk hN p1 n1 n2 (by assumption)
      refine zwW_p [(1, 0, 2), (1, 3, 2), (1, 1, 0)] (q := 29) (ls' := [(2, 13), (0, a), (0, b), (2, v2)]) (st' := [(0, a), (2, v2), (2, 13)]) (by decide +kernel) rfl ?_
      refine zwW_cm C.1 (op := 60) (k' := 224) (n := 2) (kd := 9) (m := 6) (nx := 32) (r := 13) (tl := [(2, v2), (0, a)]) (st' := []) (by decide +kernel) rfl (by decide +kernel) rfl (x224_e h C v2 a B26 L26 N26 (mCc h (zWn h a b) a) (if a < 3 then eNum else eBit) Gv2 (by omega) p1 m1 m2 m3 m4 m5 m6) ?_
      rintro v9 h10 ⟨Ch10, Qh10, f7, f8⟩
      have Xh10 : zXR msx172_e (0) (0) h h10 := X.tr (c2 := 0) (s2 := 0) Qh10 (by decide +kernel) (by decide) (by decide)
      have Gh10_0 : gS h10 v2 := Gv2.x Qh10
      refine zwW_ret (nx := 33) (a := 0) (b := 0) (by decide +kernel) rfl (Or.inl rfl) ?_
      exact ⟨Ch10, Xh10.le (by decide) (by decide), by omega, by first | (rw [zTl_n N11]; first | rw [if_pos (by omega)] | rw [if_neg (by omega)]) | (rw [zTl_y W26, ← m7]; exact f8)⟩
    · exfalso; omega
