/-! contracts of methods -/
-- WheelLandModel.done(III)I
theorem m209_e {sc : List Int} (h : Hp) (a b c : Int) (q_b : -2147483648 ≤ b ∧ b ≤ 2147483647) (q_c : -2147483648 ≤ c ∧ c ≤ 2147483647) (pa : a = 38 ∨ a = 124 ∨ a = 43 ∨ a = 45 ∨ a = 42 ∨ a = 47 ∨ a = 60 ∨ a = 62 ∨ a = 61) (pb : eNum b) (pc : eNum c) : zwC sc 2 209 [(0, a), (0, b), (0, c)] h (zwRt 0 (fun x g => h = g ∧ (-2147483648 ≤ x ∧ x ≤ 2147483647) ∧ (x = eJn (eMs a) b c))) := by
  refine zwC_of (D := 1) 3 (by decide +kernel) rfl (ls := [(0, a), (0, b), (0, c)]) rfl ?_
  have W1 := w64_mul pb pc
  have W2 := tdiv_n (b := c) pb
  have W3 : w32 (b.tdiv c) = b.tdiv c := by unfold eNum at W2; unfold w32; omega
  have W5 : -2147483648 ≤ i_and b c ∧ i_and b c ≤ 2147483647 := by unfold i_and w32; omega
  have W6 : -2147483648 ≤ i_or b c ∧ i_or b c ≤ 2147483647 := by unfold i_or w32; omega
  unfold eNum at pb pc W2
  refine zwW_p [(1, 0, 0)] (q := 1) (ls' := [(0, a), (0, b), (0, c)]) (st' := [(0, a)]) (by decide +kernel) rfl ?_
  refine zwW_sw (d := 192) (os := [38, 188, 39, 192, 40, 192, 41, 192, 42, 134, 43, 116, 44, 192, 45, 125, 46, 192, 47, 143, 48, 192, 49, 192, 50, 192, 51, 192, 52, 192, 53, 192, 54, 192, 55, 192, 56, 192, 57, 192, 58, 192, 59, 192, 60, 155, 61, 177, 62, 166]) (by decide +kernel) ?_
  refine ⟨fun c1 => ?_, fun c1 => ?_⟩
  · show zwW _ _ _ 188 _ _ _ _
    refine zwW_p [(1, 1, 0), (1, 2, 0)] (q := 190) (ls' := [(0, a), (0, b), (0, c)]) (st' := [(0, c), (0, b)]) (by decide +kernel) rfl ?_
    refine zwW_ib (a := 5) (nx := 191) (by decide +kernel) rfl ?_
    refine zwW_ret (nx := 192) (a := 0) (b := 0) (by decide +kernel) rfl (Or.inl rfl) ?_
    exact ⟨rfl, by omega, by first | (exfalso; omega) | (unfold eMs; (repeat' (first | rw [if_pos (by omega)] | rw [if_neg (by omega)])); unfold eJn eBr; (repeat' (first | rw [if_pos (by omega)] | rw [if_neg (by omega)])); all_goals (first | rfl | omega))⟩
  refine ⟨fun c2 => ?_, fun c2 => ?_⟩
  · show zwW _ _ _ 192 _ _ _ _
    refine zwW_p [(1, 1, 0), (1, 2, 0)] (q := 194) (ls' := [(0, a), (0, b), (0, c)]) (st' := [(0, c), (0, b)]) (by decide +kernel) rfl ?_
    refine zwW_ib (a := 6) (nx := 195) (by decide +kernel) rfl ?_
    refine zwW_ret (nx := 196) (a := 0) (b := 0) (by decide +kernel) rfl (Or.inl rfl) ?_
    exact ⟨rfl, by omega, by first | (exfalso; omega) | (unfold eMs; (repeat' (first | rw [if_pos (by omega)] | rw [if_neg (by omega)])); unfold eJn eBr; (repeat' (first | rw [if_pos (by omega)] | rw [if_neg (by omega)])); all_goals (first | rfl | omega))⟩
  refine ⟨fun c3 => ?_, fun c3 => ?_⟩
  · show zwW _ _ _ 192 _ _ _ _
    refine zwW_p [(1, 1, 0), (1, 2, 0)] (q := 194) (ls' := [(0, a), (0, b), (0, c)]) (st' := [(0, c), (0, b)]) (by decide +kernel) rfl ?_
    refine zwW_ib (a := 6) (nx := 195) (by decide +kernel) rfl ?_
    refine zwW_ret (nx := 196) (a := 0) (b := 0) (by decide +kernel) rfl (Or.inl rfl) ?_
    exact ⟨rfl, by omega, by first | (exfalso; omega) | (unfold eMs; (repeat' (first | rw [if_pos (by omega)] | rw [if_neg (by omega)])); unfold eJn eBr; (repeat' (first | rw [if_pos (by omega)] | rw [if_neg (by omega)])); all_goals (first | rfl | omega))⟩
  refine ⟨fun c4 => ?_, fun c4 => ?_⟩
  · show zwW _ _ _ 192 _ _ _ _
    refine zwW_p [(1, 1, 0), (1, 2, 0)] (q := 194) (ls' := [(0, a), (0, b), (0, c)]) (st' := [(0, c), (0, b)]) (by decide +kernel) rfl ?_
    refine zwW_ib (a := 6) (nx := 195) (by decide +kernel) rfl ?_
    refine zwW_ret (nx := 196) (a := 0) (b := 0) (by decide +kernel) rfl (Or.inl rfl) ?_
    exact ⟨rfl, by omega, by first | (exfalso; omega) | (unfold eMs; (repeat' (first | rw [if_pos (by omega)] | rw [if_neg (by omega)])); unfold eJn eBr; (repeat' (first | rw [if_pos (by omega)] | rw [if_neg (by omega)])); all_goals (first | rfl | omega))⟩
  refine ⟨fun c5 => ?_, fun c5 => ?_⟩
  · show zwW _ _ _ 134 _ _ _ _
    refine zwW_p [(1, 1, 0), (7, 0, 0), (1, 2, 0), (7, 0, 0)] (q := 138) (ls' := [(0, a), (0, b), (0, c)]) (st' := [(1, c), (1, b)]) (by decide +kernel) rfl ?_
    refine zwW_lmw (nx := 139) (by decide +kernel) ?_
    intro v6 ev6 lv6 uv6
    refine zwW_cs (k' := 252) (n := 1) (nx := 142) (as := [(1, v6)]) (st' := []) (by decide +kernel) rfl (m252 h v6) rfl ?_
    rintro v7 _ ⟨rfl, f8, f9, f10, f11⟩
    refine zwW_ret (nx := 143) (a := 0) (b := 0) (by decide +kernel) rfl (Or.inl rfl) ?_
    exact ⟨rfl, by omega, by first | (exfalso; omega) | (unfold eMs; (repeat' (first | rw [if_pos (by omega)] | rw [if_neg (by omega)])); unfold eJn eBr; (repeat' (first | rw [if_pos (by omega)] | rw [if_neg (by omega)])); all_goals (first | rfl | omega))⟩
  refine ⟨fun c12 => ?_, fun c12 => ?_⟩
  · show zwW _ _ _ 116 _ _ _ _
    refine zwW_p [(1, 1, 0), (7, 0, 0), (1, 2, 0), (7, 0, 0)] (q := 120) (ls' := [(0, a), (0, b), (0, c)]) (st' := [(1, c), (1, b)]) (by decide +kernel) rfl ?_
    refine zwW_ladd (nx := 121) (by decide +kernel) ⟨by omega, by omega⟩ ?_
    refine zwW_cs (k' := 252) (n := 1) (nx := 124) (as := [(1, (b + c))]) (st' := []) (by decide +kernel) rfl (m252 h (b + c)) rfl ?_
    rintro v13 _ ⟨rfl, f14, f15, f16, f17⟩
    refine zwW_ret (nx := 125) (a := 0) (b := 0) (by decide +kernel) rfl (Or.inl rfl) ?_
    exact ⟨rfl, by omega, by first | (exfalso; omega) | (unfold eMs; (repeat' (first | rw [if_pos (by omega)] | rw [if_neg (by omega)])); unfold eJn eBr; (repeat' (first | rw [if_pos (by omega)] | rw [if_neg (by omega)])); all_goals (first | rfl | omega))⟩
  refine ⟨fun c18 => ?_, fun c18 => ?_⟩
  · show zwW _ _ _ 192 _ _ _ _
    refine zwW_p [(1, 1, 0), (1, 2, 0)] (q := 194) (ls' := [(0, a), (0, b), (0, c)]) (st' := [(0, c), (0, b)]) (by decide +kernel) rfl ?_
    refine zwW_ib (a := 6) (nx := 195) (by decide +kernel) rfl ?_
    refine zwW_ret (nx := 196) (a := 0) (b := 0) (by decide +kernel) rfl (Or.inl rfl) ?_
    exact ⟨rfl, by omega, by first | (exfalso; omega) | (unfold eMs; (repeat' (first | rw [if_pos (by omega)] | rw [if_neg (by omega)])); unfold eJn eBr; (repeat' (first | rw [if_pos (by omega)] | rw [if_neg (by omega)])); all_goals (first | rfl | omega))⟩
  refine ⟨fun c19 => ?_, fun c19 => ?_⟩
  · show zwW _ _ _ 125 _ _ _ _
    refine zwW_p [(1, 1, 0), (7, 0, 0), (1, 2, 0), (7, 0, 0)] (q := 129) (ls' := [(0, a), (0, b), (0, c)]) (st' := [(1, c), (1, b)]) (by decide +kernel) rfl ?_
    refine zwW_lsub (nx := 130) (by decide +kernel) ⟨by omega, by omega⟩ ?_
    refine zwW_cs (k' := 252) (n := 1) (nx := 133) (as := [(1, (b - c))]) (st' := []) (by decide +kernel) rfl (m252 h (b - c)) rfl ?_
    rintro v20 _ ⟨rfl, f21, f22, f23, f24⟩
    refine zwW_ret (nx := 134) (a := 0) (b := 0) (by decide +kernel) rfl (Or.inl rfl) ?_
    exact ⟨rfl, by omega, by first | (exfalso; omega) | (unfold eMs; (repeat' (first | rw [if_pos (by omega)] | rw [if_neg (by omega)])); unfold eJn eBr; (repeat' (first | rw [if_pos (by omega)] | rw [if_neg (by omega)])); all_goals (first | rfl | omega))⟩
  refine ⟨fun c25 => ?_, fun c25 => ?_⟩
  · show zwW _ _ _ 192 _ _ _ _
    refine zwW_p [(1, 1, 0), (1, 2, 0)] (q := 194) (ls' := [(0, a), (0, b), (0, c)]) (st' := [(0, c), (0, b)]) (by decide +kernel) rfl ?_
    refine zwW_ib (a := 6) (nx := 195) (by decide +kernel) rfl ?_
    refine zwW_ret (nx := 196) (a := 0) (b := 0) (by decide +kernel) rfl (Or.inl rfl) ?_
    exact ⟨rfl, by omega, by first | (exfalso; omega) | (unfold eMs; (repeat' (first | rw [if_pos (by omega)] | rw [if_neg (by omega)])); unfold eJn eBr; (repeat' (first | rw [if_pos (by omega)] | rw [if_neg (by omega)])); all_goals (first | rfl | omega))⟩
  refine ⟨fun c26 => ?_, fun c26 => ?_⟩
  · show zwW _ _ _ 143 _ _ _ _
    refine zwW_p [(1, 2, 0)] (q := 144) (ls' := [(0, a), (0, b), (0, c)]) (st' := [(0, c)]) (by decide +kernel) rfl ?_
    refine zwif_ne (q := 151) (nx := 147) (by decide +kernel) (fun c27 => ?_) (fun c27 => ?_)
    · refine zwW_p [(1, 1, 0), (1, 2, 0)] (q := 153) (ls' := [(0, a), (0, b), (0, c)]) (st' := [(0, c), (0, b)]) (by decide +kernel) rfl ?_
      refine zwW_tdw (nx := 154) (by decide +kernel) (by omega) ?_
      intro v28 ev28 lv28 uv28
      refine zwW_ret (nx := 155) (a := 0) (b := 0) (by decide +kernel) rfl (Or.inl rfl) ?_
      exact ⟨rfl, by omega, by first | (exfalso; omega) | (unfold eMs; (repeat' (first | rw [if_pos (by omega)] | rw [if_neg (by omega)])); unfold eJn eBr; (repeat' (first | rw [if_pos (by omega)] | rw [if_neg (by omega)])); all_goals (first | rfl | omega))⟩
    · refine zwW_p [(0, 0, 0), (24, 154, 0)] (q := 154) (ls' := [(0, a), (0, b), (0, c)]) (st' := [(0, 0)]) (by decide +kernel) rfl ?_
      refine zwW_ret (nx := 155) (a := 0) (b := 0) (by decide +kernel) rfl (Or.inl rfl) ?_
      exact ⟨rfl, by omega, by first | (exfalso; omega) | (unfold eMs; (repeat' (first | rw [if_pos (by omega)] | rw [if_neg (by omega)])); unfold eJn eBr; (repeat' (first | rw [if_pos (by omega)] | rw [if_neg (by omega)])); all_goals (first | rfl | omega))⟩
  refine ⟨fun c29 => ?_, fun c29 => ?_⟩
  · show zwW _ _ _ 192 _ _ _ _
    refine zwW_p [(1, 1, 0), (1, 2, 0)] (q := 194) (ls' := [(0, a), (0, b), (0, c)]) (st' := [(0, c), (0, b)]) (by decide +kernel) rfl ?_
    refine zwW_ib (a := 6) (nx := 195) (by decide +kernel) rfl ?_
    refine zwW_ret (nx := 196) (a := 0) (b := 0) (by decide +kernel) rfl (Or.inl rfl) ?_
    exact ⟨rfl, by omega, by first | (exfalso; omega) | (unfold eMs; (repeat' (first | rw [if_pos (by omega)] | rw [if_neg (by omega)])); unfold eJn eBr; (repeat' (first | rw [if_pos (by omega)] | rw [if_neg (by omega)])); all_goals (first | rfl | omega))⟩
  refine ⟨fun c30 => ?_, fun c30 => ?_⟩
  · show zwW _ _ _ 192 _ _ _ _
    refine zwW_p [(1, 1, 0), (1, 2, 0)] (q := 194) (ls' := [(0, a), (0, b), (0, c)]) (st' := [(0, c), (0, b)]) (by decide +kernel) rfl ?_
    refine zwW_ib (a := 6) (nx := 195) (by decide +kernel) rfl ?_
    refine zwW_ret (nx := 196) (a := 0) (b := 0) (by decide +kernel) rfl (Or.inl rfl) ?_
    exact ⟨rfl, by omega, by first | (exfalso; omega) | (unfold eMs; (repeat' (first | rw [if_pos (by omega)] | rw [if_neg (by omega)])); unfold eJn eBr; (repeat' (first | rw [if_pos (by omega)] | rw [if_neg (by omega)])); all_goals (first | rfl | omega))⟩
  refine ⟨fun c31 => ?_, fun c31 => ?_⟩
  · show zwW _ _ _ 192 _ _ _ _
    refine zwW_p [(1, 1, 0), (1, 2, 0)] (q := 194) (ls' := [(0, a), (0, b), (0, c)]) (st' := [(0, c), (0, b)]) (by decide +kernel) rfl ?_
    refine zwW_ib (a := 6) (nx := 195) (by decide +kernel) rfl ?_
    refine zwW_ret (nx := 196) (a := 0) (b := 0) (by decide +kernel) rfl (Or.inl rfl) ?_
    exact ⟨rfl, by omega, by first | (exfalso; omega) | (unfold eMs; (repeat' (first | rw [if_pos (by omega)] | rw [if_neg (by omega)])); unfold eJn eBr; (repeat' (first | rw [if_pos (by omega)] | rw [if_neg (by omega)])); all_goals (first | rfl | omega))⟩
  refine ⟨fun c32 => ?_, fun c32 => ?_⟩
  · show zwW _ _ _ 192 _ _ _ _
    refine zwW_p [(1, 1, 0), (1, 2, 0)] (q := 194) (ls' := [(0, a), (0, b), (0, c)]) (st' := [(0, c), (0, b)]) (by decide +kernel) rfl ?_
    refine zwW_ib (a := 6) (nx := 195) (by decide +kernel) rfl ?_
    refine zwW_ret (nx := 196) (a := 0) (b := 0) (by decide +kernel) rfl (Or.inl rfl) ?_
    exact ⟨rfl, by omega, by first | (exfalso; omega) | (unfold eMs; (repeat' (first | rw [if_pos (by omega)] | rw [if_neg (by omega)])); unfold eJn eBr; (repeat' (first | rw [if_pos (by omega)] | rw [if_neg (by omega)])); all_goals (first | rfl | omega))⟩
  refine ⟨fun c33 => ?_, fun c33 => ?_⟩
  · show zwW _ _ _ 192 _ _ _ _
    refine zwW_p [(1, 1, 0), (1, 2, 0)] (q := 194) (ls' := [(0, a), (0, b), (0, c)]) (st' := [(0, c), (0, b)]) (by decide +kernel) rfl ?_
    refine zwW_ib (a := 6) (nx := 195) (by decide +kernel) rfl ?_
    refine zwW_ret (nx := 196) (a := 0) (b := 0) (by decide +kernel) rfl (Or.inl rfl) ?_
    exact ⟨rfl, by omega, by first | (exfalso; omega) | (unfold eMs; (repeat' (first | rw [if_pos (by omega)] | rw [if_neg (by omega)])); unfold eJn eBr; (repeat' (first | rw [if_pos (by omega)] | rw [if_neg (by omega)])); all_goals (first | rfl | omega))⟩
  refine ⟨fun c34 => ?_, fun c34 => ?_⟩
  · show zwW _ _ _ 192 _ _ _ _
    refine zwW_p [(1, 1, 0), (1, 2, 0)] (q := 194) (ls' := [(0, a), (0, b), (0, c)]) (st' := [(0, c), (0, b)]) (by decide +kernel) rfl ?_
    refine zwW_ib (a := 6) (nx := 195) (by decide +kernel) rfl ?_
    refine zwW_ret (nx := 196) (a := 0) (b := 0) (by decide +kernel) rfl (Or.inl rfl) ?_
    exact ⟨rfl, by omega, by first | (exfalso; omega) | (unfold eMs; (repeat' (first | rw [if_pos (by omega)] | rw [if_neg (by omega)])); unfold eJn eBr; (repeat' (first | rw [if_pos (by omega)] | rw [if_neg (by omega)])); all_goals (first | rfl | omega))⟩
  refine ⟨fun c35 => ?_, fun c35 => ?_⟩
  · show zwW _ _ _ 192 _ _ _ _
    refine zwW_p [(1, 1, 0), (1, 2, 0)] (q := 194) (ls' := [(0, a), (0, b), (0, c)]) (st' := [(0, c), (0, b)]) (by decide +kernel) rfl ?_
    refine zwW_ib (a := 6) (nx := 195) (by decide +kernel) rfl ?_
    refine zwW_ret (nx := 196) (a := 0) (b := 0) (by decide +kernel) rfl (Or.inl rfl) ?_
    exact ⟨rfl, by omega, by first | (exfalso; omega) | (unfold eMs; (repeat' (first | rw [if_pos (by omega)] | rw [if_neg (by omega)])); unfold eJn eBr; (repeat' (first | rw [if_pos (by omega)] | rw [if_neg (by omega)])); all_goals (first | rfl | omega))⟩
  refine ⟨fun c36 => ?_, fun c36 => ?_⟩
  · show zwW _ _ _ 192 _ _ _ _
    refine zwW_p [(1, 1, 0), (1, 2, 0)] (q := 194) (ls' := [(0, a), (0, b), (0, c)]) (st' := [(0, c), (0, b)]) (by decide +kernel) rfl ?_
    refine zwW_ib (a := 6) (nx := 195) (by decide +kernel) rfl ?_
    refine zwW_ret (nx := 196) (a := 0) (b := 0) (by decide +kernel) rfl (Or.inl rfl) ?_
    exact ⟨rfl, by omega, by first | (exfalso; omega) | (unfold eMs; (repeat' (first | rw [if_pos (by omega)] | rw [if_neg (by omega)])); unfold eJn eBr; (repeat' (first | rw [if_pos (by omega)] | rw [if_neg (by omega)])); all_goals (first | rfl | omega))⟩
  refine ⟨fun c37 => ?_, fun c37 => ?_⟩
  · show zwW _ _ _ 192 _ _ _ _
    refine zwW_p [(1, 1, 0), (1, 2, 0)] (q := 194) (ls' := [(0, a), (0, b), (0, c)]) (st' := [(0, c), (0, b)]) (by decide +kernel) rfl ?_
    refine zwW_ib (a := 6) (nx := 195) (by decide +kernel) rfl ?_
    refine zwW_ret (nx := 196) (a := 0) (b := 0) (by decide +kernel) rfl (Or.inl rfl) ?_
    exact ⟨rfl, by omega, by first | (exfalso; omega) | (unfold eMs; (repeat' (first | rw [if_pos (by omega)] | rw [if_neg (by omega)])); unfold eJn eBr; (repeat' (first | rw [if_pos (by omega)] | rw [if_neg (by omega)])); all_goals (first | rfl | omega))⟩
  refine ⟨fun c38 => ?_, fun c38 => ?_⟩
  · show zwW _ _ _ 192 _ _ _ _
    refine zwW_p [(1, 1, 0), (1, 2, 0)] (q := 194) (ls' := [(0, a), (0, b), (0, c)]) (st' := [(0, c), (0, b)]) (by decide +kernel) rfl ?_
    refine zwW_ib (a := 6) (nx := 195) (by decide +kernel) rfl ?_
    refine zwW_ret (nx := 196) (a := 0) (b := 0) (by decide +kernel) rfl (Or.inl rfl) ?_
    exact ⟨rfl, by omega, by first | (exfalso; omega) | (unfold eMs; (repeat' (first | rw [if_pos (by omega)] | rw [if_neg (by omega)])); unfold eJn eBr; (repeat' (first | rw [if_pos (by omega)] | rw [if_neg (by omega)])); all_goals (first | rfl | omega))⟩
  refine ⟨fun c39 => ?_, fun c39 => ?_⟩
  · show zwW _ _ _ 192 _ _ _ _
    refine zwW_p [(1, 1, 0), (1, 2, 0)] (q := 194) (ls' := [(0, a), (0, b), (0, c)]) (st' := [(0, c), (0, b)]) (by decide +kernel) rfl ?_
    refine zwW_ib (a := 6) (nx := 195) (by decide +kernel) rfl ?_
    refine zwW_ret (nx := 196) (a := 0) (b := 0) (by decide +kernel) rfl (Or.inl rfl) ?_
    exact ⟨rfl, by omega, by first | (exfalso; omega) | (unfold eMs; (repeat' (first | rw [if_pos (by omega)] | rw [if_neg (by omega)])); unfold eJn eBr; (repeat' (first | rw [if_pos (by omega)] | rw [if_neg (by omega)])); all_goals (first | rfl | omega))⟩
  refine ⟨fun c40 => ?_, fun c40 => ?_⟩
  · show zwW _ _ _ 192 _ _ _ _
    refine zwW_p [(1, 1, 0), (1, 2, 0)] (q := 194) (ls' := [(0, a), (0, b), (0, c)]) (st' := [(0, c), (0, b)]) (by decide +kernel) rfl ?_
    refine zwW_ib (a := 6) (nx := 195) (by decide +kernel) rfl ?_
    refine zwW_ret (nx := 196) (a := 0) (b := 0) (by decide +kernel) rfl (Or.inl rfl) ?_
    exact ⟨rfl, by omega, by first | (exfalso; omega) | (unfold eMs; (repeat' (first | rw [if_pos (by omega)] | rw [if_neg (by omega)])); unfold eJn eBr; (repeat' (first | rw [if_pos (by omega)] | rw [if_neg (by omega)])); all_goals (first | rfl | omega))⟩
  refine ⟨fun c41 => ?_, fun c41 => ?_⟩
  · show zwW _ _ _ 155 _ _ _ _
    refine zwW_p [(1, 1, 0), (1, 2, 0)] (q := 157) (ls' := [(0, a), (0, b), (0, c)]) (st' := [(0, c), (0, b)]) (by decide +kernel) rfl ?_
    refine zwic_ge (q := 164) (nx := 160) (by decide +kernel) (fun c42 => ?_) (fun c42 => ?_)
    · refine zwW_p [(0, 0, 0)] (q := 165) (ls' := [(0, a), (0, b), (0, c)]) (st' := [(0, 0)]) (by decide +kernel) rfl ?_
      refine zwW_ret (nx := 166) (a := 0) (b := 0) (by decide +kernel) rfl (Or.inl rfl) ?_
      exact ⟨rfl, by omega, by first | (exfalso; omega) | (unfold eMs; (repeat' (first | rw [if_pos (by omega)] | rw [if_neg (by omega)])); unfold eJn eBr; (repeat' (first | rw [if_pos (by omega)] | rw [if_neg (by omega)])); all_goals (first | rfl | omega))⟩
    · refine zwW_p [(0, 1, 0), (24, 165, 0)] (q := 165) (ls' := [(0, a), (0, b), (0, c)]) (st' := [(0, 1)]) (by decide +kernel) rfl ?_
      refine zwW_ret (nx := 166) (a := 0) (b := 0) (by decide +kernel) rfl (Or.inl rfl) ?_
      exact ⟨rfl, by omega, by first | (exfalso; omega) | (unfold eMs; (repeat' (first | rw [if_pos (by omega)] | rw [if_neg (by omega)])); unfold eJn eBr; (repeat' (first | rw [if_pos (by omega)] | rw [if_neg (by omega)])); all_goals (first | rfl | omega))⟩
  refine ⟨fun c43 => ?_, fun c43 => ?_⟩
  · show zwW _ _ _ 177 _ _ _ _
    refine zwW_p [(1, 1, 0), (1, 2, 0)] (q := 179) (ls' := [(0, a), (0, b), (0, c)]) (st' := [(0, c), (0, b)]) (by decide +kernel) rfl ?_
    refine zwic_ne (q := 186) (nx := 182) (by decide +kernel) (fun c44 => ?_) (fun c44 => ?_)
    · refine zwW_p [(0, 0, 0)] (q := 187) (ls' := [(0, a), (0, b), (0, c)]) (st' := [(0, 0)]) (by decide +kernel) rfl ?_
      refine zwW_ret (nx := 188) (a := 0) (b := 0) (by decide +kernel) rfl (Or.inl rfl) ?_
      exact ⟨rfl, by omega, by first | (exfalso; omega) | (unfold eMs; (repeat' (first | rw [if_pos (by omega)] | rw [if_neg (by omega)])); unfold eJn eBr; (repeat' (first | rw [if_pos (by omega)] | rw [if_neg (by omega)])); all_goals (first | rfl | omega))⟩
    · refine zwW_p [(0, 1, 0), (24, 187, 0)] (q := 187) (ls' := [(0, a), (0, b), (0, c)]) (st' := [(0, 1)]) (by decide +kernel) rfl ?_
      refine zwW_ret (nx := 188) (a := 0) (b := 0) (by decide +kernel) rfl (Or.inl rfl) ?_
      exact ⟨rfl, by omega, by first | (exfalso; omega) | (unfold eMs; (repeat' (first | rw [if_pos (by omega)] | rw [if_neg (by omega)])); unfold eJn eBr; (repeat' (first | rw [if_pos (by omega)] | rw [if_neg (by omega)])); all_goals (first | rfl | omega))⟩
  refine ⟨fun c45 => ?_, fun c45 => ?_⟩
  · show zwW _ _ _ 166 _ _ _ _
    refine zwW_p [(1, 1, 0), (1, 2, 0)] (q := 168) (ls' := [(0, a), (0, b), (0, c)]) (st' := [(0, c), (0, b)]) (by decide +kernel) rfl ?_
    refine zwic_le (q := 175) (nx := 171) (by decide +kernel) (fun c46 => ?_) (fun c46 => ?_)
    · refine zwW_p [(0, 0, 0)] (q := 176) (ls' := [(0, a), (0, b), (0, c)]) (st' := [(0, 0)]) (by decide +kernel) rfl ?_
      refine zwW_ret (nx := 177) (a := 0) (b := 0) (by decide +kernel) rfl (Or.inl rfl) ?_
      exact ⟨rfl, by omega, by first | (exfalso; omega) | (unfold eMs; (repeat' (first | rw [if_pos (by omega)] | rw [if_neg (by omega)])); unfold eJn eBr; (repeat' (first | rw [if_pos (by omega)] | rw [if_neg (by omega)])); all_goals (first | rfl | omega))⟩
    · refine zwW_p [(0, 1, 0), (24, 176, 0)] (q := 176) (ls' := [(0, a), (0, b), (0, c)]) (st' := [(0, 1)]) (by decide +kernel) rfl ?_
      refine zwW_ret (nx := 177) (a := 0) (b := 0) (by decide +kernel) rfl (Or.inl rfl) ?_
      exact ⟨rfl, by omega, by first | (exfalso; omega) | (unfold eMs; (repeat' (first | rw [if_pos (by omega)] | rw [if_neg (by omega)])); unfold eJn eBr; (repeat' (first | rw [if_pos (by omega)] | rw [if_neg (by omega)])); all_goals (first | rfl | omega))⟩
  show zwW _ _ _ 192 _ _ _ _
  refine zwW_p [(1, 1, 0), (1, 2, 0)] (q := 194) (ls' := [(0, a), (0, b), (0, c)]) (st' := [(0, c), (0, b)]) (by decide +kernel) rfl ?_
  refine zwW_ib (a := 6) (nx := 195) (by decide +kernel) rfl ?_
  refine zwW_ret (nx := 196) (a := 0) (b := 0) (by decide +kernel) rfl (Or.inl rfl) ?_
  exact ⟨rfl, by omega, by first | (exfalso; omega) | (unfold eMs; (repeat' (first | rw [if_pos (by omega)] | rw [if_neg (by omega)])); unfold eJn eBr; (repeat' (first | rw [if_pos (by omega)] | rw [if_neg (by omega)])); all_goals (first | rfl | omega))⟩
def ms137_e : Zms := [(169, 169, 0, 420)]
-- WheelLandModel.tells(I)I
theorem m137_e {sc : List Int} (h : Hp) (I : zI h) (a : Int) (p1 : 0 ≤ a) (p2 : a ≤ 4) (hF : ∀ k : Nat, (k : Int) < fld h 37 53 → 0 ≤ fld h 164 k ∧ fld h 164 k < fld h 37 52) (hK : zCk h) (hN : eNs (fld h 168)) : zwC sc 3 137 [(2, 37), (0, a)] h (zwRt 0 (fun x g => zI g ∧ zMR ms137_e h g ∧ (-2147483648 ≤ x ∧ x ≤ 2147483647) ∧ (x = zTl h a (fld h 37 0) (fld h 168)))) := by
  refine zwC_of (D := 2) 7 (by decide +kernel) rfl (ls := [(2, 37), (0, a), (9, 0), (9, 0), (9, 0), (9, 0), (9, 0)]) rfl ?_
  have R : zMR ms137_e h h := zMR.rf _ _
  refine zwW_p [(1, 0, 2), (1, 1, 0), (1, 0, 2)] (q := 3) (ls' := [(2, 37), (0, a), (9, 0), (9, 0), (9, 0), (9, 0), (9, 0)]) (st' := [(2, 37), (0, a), (2, 37)]) (by decide +kernel) rfl ?_
  refine zwW_gs I (kd := 13) (bn := 0) (n := 97) (t := 0) (lo := 0) (hi := 156) (nx := 6) (by decide +kernel) ?_
  intro v1 ev1 lv1 uv1
  refine zwW_cm I (op := 60) (k' := 126) (n := 2) (kd := 13) (m := 97) (nx := 9) (r := 37) (tl := [(0, a), (0, v1)]) (st' := []) (by decide +kernel) rfl (by decide +kernel) rfl (m126_w h I a v1 (by omega) (by omega) (fun k hk => (hF k hk).2)) ?_
  rintro v2 _ ⟨rfl, f3, f4⟩
  refine zwW_p [(2, 2, 0), (1, 2, 0), (0, -1, 0)] (q := 12) (ls' := [(2, 37), (0, a), (0, v2), (9, 0), (9, 0), (9, 0), (9, 0)]) (st' := [(0, -1), (0, v2)]) (by decide +kernel) rfl ?_
  have S12 : v2 = zWn h a (fld h 37 0) := by have z := f4; rw [ev1] at z; exact z
  refine zwic_ne (q := 30) (nx := 15) (by decide +kernel) (fun c5 => ?_) (fun c5 => ?_)
  · have B30 : zWn h a (fld h 37 0) ≠ -1 := by omega
    have S30 := zWn_l hF B30
    have B52 := (I.b (a1 := 37) (a2 := 37) (j1 := 52) (j2 := 53) (lo := 0) (hi := 8) (by decide +kernel) (r := 37) (j := 52) (by decide) (by decide) (by decide) (by decide)).2
    rw [← S12] at S30
    obtain ⟨⟨L30, W30⟩, K30⟩ := hK v2 a S30.1 S30.2.1 (by omega) (by omega) S30.2.2
    have W30 := W30 _ hN
    refine zwW_p [(0, 0, 0), (2, 3, 0), (0, 0, 0), (2, 4, 0)] (q := 35) (ls' := [(2, 37), (0, a), (0, v2), (0, 0), (0, 0), (9, 0), (9, 0)]) (st' := []) (by decide +kernel) rfl ?_
    have L6 : ∀ (n0 : Nat) (dL6 kL6 : Int) (w5L6 w6L6 : Vl) (hL6 : Hp), n0 = ((1000 - kL6)).toNat → (0 ≤ kL6 ∧ kL6 ≤ fld h (155 + v2) a.toNat) → (eV hL6 169 (eRn (fld h 168) (mCc h v2 a) 0 (kL6).toNat eP0) dL6) → zI hL6 → zMR ms137_e h hL6 → zwW sc (2) 137 35 [(2, 37), (0, a), (0, v2), (0, dL6), (0, kL6), w5L6, w6L6] [] hL6 (zwRt 0 (fun x g => zI g ∧ zMR ms137_e h g ∧ (-2147483648 ≤ x ∧ x ≤ 2147483647) ∧ (x = zTl h a (fld h 37 0) (fld h 168)))) := by
      intro n0
      induction n0 using Nat.strongRecOn with
      | ind n0 IHL6 =>
        intro dL6 kL6 w5L6 w6L6 hL6 hnL6 iL6_0 iL6_1 IhL6 RhL6
        have DD := eRn_le (N := fld h 168) (c := mCc h v2 a) (kL6).toNat
        have DE := iL6_1.1
        refine zwW_p [(1, 4, 0), (1, 0, 2)] (q := 38) (ls' := [(2, 37), (0, a), (0, v2), (0, dL6), (0, kL6), w5L6, w6L6]) (st' := [(2, 37), (0, kL6)]) (by decide +kernel) rfl ?_
        refine zwW_gc IhL6 (kd := 13) (bn := 49) (n := 97) (c := 154) (nx := 41) (by decide +kernel) ?_
        refine zwW_p [(1, 2, 0)] (q := 42) (ls' := [(2, 37), (0, a), (0, v2), (0, dL6), (0, kL6), w5L6, w6L6]) (st' := [(0, v2), (2, 154), (0, kL6)]) (by decide +kernel) rfl ?_
        refine zwW_ro IhL6 (a := 154) (n := 9) (kd := 26) (base := 155) (step := 1) (nx := 43) (by decide +kernel) rfl ⟨by omega, by omega⟩ ?_
        rw [show ((155 : Nat) : Int) + ((1 : Nat) : Int) * v2 = (155 + v2) by omega]
        refine zwW_p [(1, 1, 0)] (q := 44) (ls' := [(2, 37), (0, a), (0, v2), (0, dL6), (0, kL6), w5L6, w6L6]) (st' := [(0, a), (2, (155 + v2)), (0, kL6)]) (by decide +kernel) rfl ?_
        refine zwW_al IhL6 (a1 := 155) (a2 := 163) (kd := 20) (n := 5) (t := 0) (lo := 0) (hi := 400) (nx := 45) (by decide +kernel) ⟨by omega, by omega⟩ ⟨by omega, by omega⟩ ?_
        intro v7 ev7 lv7 uv7
        refine zwic_ge (q := 191) (nx := 48) (by decide +kernel) (fun c8 => ?_) (fun c8 => ?_)
        · have V191 := iL6_1
          have P191 : (kL6).toNat = (fld h (155 + v2) a.toNat).toNat := by have C191 := RhL6.f (a1 := 155) (a2 := 163) (j1 := 0) (j2 := 5) (by decide +kernel) (r := 155 + v2) (j := a.toNat) ⟨by omega, by omega⟩ ⟨by omega, by omega⟩; omega
          rw [P191] at V191
          have Q191 := W30.fin
          have Z191 : fld hL6 169 ((0 : Int)).toNat = _ := V191.2 0 (by omega)
          refine zwW_p [(1, 0, 2)] (q := 192) (ls' := [(2, 37), (0, a), (0, v2), (0, dL6), (0, kL6), w5L6, w6L6]) (st' := [(2, 37)]) (by decide +kernel) rfl ?_
          refine zwW_gc IhL6 (kd := 13) (bn := 57) (n := 97) (c := 169) (nx := 195) (by decide +kernel) ?_
          refine zwW_p [(0, 0, 0)] (q := 196) (ls' := [(2, 37), (0, a), (0, v2), (0, dL6), (0, kL6), w5L6, w6L6]) (st' := [(0, 0), (2, 169)]) (by decide +kernel) rfl ?_
          refine zwW_al IhL6 (a1 := 169) (a2 := 169) (kd := 20) (n := 420) (t := 0) (lo := -2147483648) (hi := 2147483647) (nx := 197) (by decide +kernel) ⟨by decide, by decide⟩ ⟨by decide, by decide⟩ ?_
          intro v9 ev9 lv9 uv9
          refine zwW_ret (nx := 198) (a := 0) (b := 0) (by decide +kernel) rfl (Or.inl rfl) ?_
          exact ⟨IhL6, RhL6, by omega, by first | (rw [zTl_n (by omega)]; first | rw [if_pos (by omega)] | rw [if_neg (by omega)]) | (rw [zTl_y B30, ← S12]; omega)⟩
        · have C48 := RhL6.f (a1 := 155) (a2 := 163) (j1 := 0) (j2 := 5) (by decide +kernel) (r := 155 + v2) (j := a.toNat) ⟨by omega, by omega⟩ ⟨by omega, by omega⟩
          refine zwW_p [(1, 0, 2)] (q := 49) (ls' := [(2, 37), (0, a), (0, v2), (0, dL6), (0, kL6), w5L6, w6L6]) (st' := [(2, 37)]) (by decide +kernel) rfl ?_
          refine zwW_gc IhL6 (kd := 13) (bn := 48) (n := 97) (c := 99) (nx := 52) (by decide +kernel) ?_
          refine zwW_p [(1, 2, 0)] (q := 53) (ls' := [(2, 37), (0, a), (0, v2), (0, dL6), (0, kL6), w5L6, w6L6]) (st' := [(0, v2), (2, 99)]) (by decide +kernel) rfl ?_
          refine zwW_ro IhL6 (a := 99) (n := 9) (kd := 27) (base := 100) (step := 6) (nx := 54) (by decide +kernel) rfl ⟨by omega, by omega⟩ ?_
          rw [show ((100 : Nat) : Int) + ((6 : Nat) : Int) * v2 = (100 + 6 * v2) by omega]
          refine zwW_p [(1, 1, 0)] (q := 55) (ls' := [(2, 37), (0, a), (0, v2), (0, dL6), (0, kL6), w5L6, w6L6]) (st' := [(0, a), (2, (100 + 6 * v2))]) (by decide +kernel) rfl ?_
          refine zwW_ro2 IhL6 (s := v2) (nx := 56) (by decide +kernel) (by omega) ⟨by omega, by omega⟩ ⟨by omega, by omega⟩ ?_
          refine zwW_p [(0, 2, 0), (1, 4, 0)] (q := 59) (ls' := [(2, 37), (0, a), (0, v2), (0, dL6), (0, kL6), w5L6, w6L6]) (st' := [(0, kL6), (0, 2), (2, (101 + 6 * v2 + a))]) (by decide +kernel) rfl ?_
          refine zwW_mul (nx := 60) (by decide +kernel) ⟨by omega, by omega⟩ ?_
          refine zwW_al3 IhL6 (s := v2) (c := a) (nx := 61) (by decide +kernel) rfl ⟨by omega, by omega⟩ ⟨by omega, by omega⟩ ⟨by omega, by omega⟩ ?_
          intro v10 ev10 lv10 uv10
          refine zwW_p [(2, 5, 0), (1, 0, 2)] (q := 64) (ls' := [(2, 37), (0, a), (0, v2), (0, dL6), (0, kL6), (0, v10), w6L6]) (st' := [(2, 37)]) (by decide +kernel) rfl ?_
          refine zwW_gc IhL6 (kd := 13) (bn := 48) (n := 97) (c := 99) (nx := 67) (by decide +kernel) ?_
          refine zwW_p [(1, 2, 0)] (q := 68) (ls' := [(2, 37), (0, a), (0, v2), (0, dL6), (0, kL6), (0, v10), w6L6]) (st' := [(0, v2), (2, 99)]) (by decide +kernel) rfl ?_
          refine zwW_ro IhL6 (a := 99) (n := 9) (kd := 27) (base := 100) (step := 6) (nx := 69) (by decide +kernel) rfl ⟨by omega, by omega⟩ ?_
          rw [show ((100 : Nat) : Int) + ((6 : Nat) : Int) * v2 = (100 + 6 * v2) by omega]
          refine zwW_p [(1, 1, 0)] (q := 70) (ls' := [(2, 37), (0, a), (0, v2), (0, dL6), (0, kL6), (0, v10), w6L6]) (st' := [(0, a), (2, (100 + 6 * v2))]) (by decide +kernel) rfl ?_
          refine zwW_ro2 IhL6 (s := v2) (nx := 71) (by decide +kernel) (by omega) ⟨by omega, by omega⟩ ⟨by omega, by omega⟩ ?_
          refine zwW_p [(0, 2, 0), (1, 4, 0)] (q := 74) (ls' := [(2, 37), (0, a), (0, v2), (0, dL6), (0, kL6), (0, v10), w6L6]) (st' := [(0, kL6), (0, 2), (2, (101 + 6 * v2 + a))]) (by decide +kernel) rfl ?_
          refine zwW_mul (nx := 75) (by decide +kernel) ⟨by omega, by omega⟩ ?_
          refine zwW_p [(0, 1, 0)] (q := 76) (ls' := [(2, 37), (0, a), (0, v2), (0, dL6), (0, kL6), (0, v10), w6L6]) (st' := [(0, 1), (0, (2 * kL6)), (2, (101 + 6 * v2 + a))]) (by decide +kernel) rfl ?_
          refine zwW_add (nx := 77) (by decide +kernel) ⟨by omega, by omega⟩ ?_
          refine zwW_al3 IhL6 (s := v2) (c := a) (nx := 78) (by decide +kernel) rfl ⟨by omega, by omega⟩ ⟨by omega, by omega⟩ ⟨by omega, by omega⟩ ?_
          intro v11 ev11 lv11 uv11
          refine zwW_p [(2, 6, 0)] (q := 80) (ls' := [(2, 37), (0, a), (0, v2), (0, dL6), (0, kL6), (0, v10), (0, v11)]) (st' := []) (by decide +kernel) rfl ?_
          have F80 : ∀ j : Nat, j < 840 → fld hL6 (101 + 6 * v2 + a) j = fld h (101 + 6 * v2 + a) j := fun j hj => RhL6.f (a1 := 101) (a2 := 153) (j1 := 0) (j2 := 840) (by decide +kernel) ⟨by omega, by omega⟩ ⟨by omega, by omega⟩
          have N80 : ∀ j : Nat, j < 13 → fld hL6 168 j = fld h 168 j := fun j hj => RhL6.f (a1 := 168) (a2 := 168) (j1 := 0) (j2 := 13) (by decide +kernel) ⟨by omega, by omega⟩ ⟨by omega, by omega⟩
          have G1 : fld h (101 + 6 * v2 + a) (2 * (kL6).toNat) = v10 := by rw [← F80 _ (by omega), show 2 * (kL6).toNat = (2 * kL6).toNat by omega]; omega
          have G2 : fld h (101 + 6 * v2 + a) (2 * (kL6).toNat + 1) = v11 := by rw [← F80 _ (by omega), show 2 * (kL6).toNat + 1 = (2 * kL6 + 1).toNat by omega]; omega
          have O80 := W30.ok (m := (kL6).toNat) (by omega)
          have M80 := (K30 (kL6).toNat (by omega)).op
          rw [G1, G2] at M80
          have E80 : mCc h v2 a (kL6).toNat = eEn v10 v11 := by unfold mCc; rw [G1, G2]
          rw [E80] at O80
          refine zwW_p [(1, 5, 0), (0, 110, 0)] (q := 84) (ls' := [(2, 37), (0, a), (0, v2), (0, dL6), (0, kL6), (0, v10), (0, v11)]) (st' := [(0, 110), (0, v10)]) (by decide +kernel) rfl ?_
          refine zwic_eq (q := 94) (nx := 87) (by decide +kernel) (fun c12 => ?_) (fun c12 => ?_)
          · refine zwW_p [(1, 0, 2)] (q := 95) (ls' := [(2, 37), (0, a), (0, v2), (0, dL6), (0, kL6), (0, v10), (0, v11)]) (st' := [(2, 37)]) (by decide +kernel) rfl ?_
            refine zwW_gc IhL6 (kd := 13) (bn := 57) (n := 97) (c := 169) (nx := 98) (by decide +kernel) ?_
            refine zwW_p [(1, 3, 0), (1, 5, 0), (0, 110, 0)] (q := 103) (ls' := [(2, 37), (0, a), (0, v2), (0, dL6), (0, kL6), (0, v10), (0, v11)]) (st' := [(0, 110), (0, v10), (0, dL6), (2, 169)]) (by decide +kernel) rfl ?_
            refine zwic_ne (q := 111) (nx := 106) (by decide +kernel) (fun c13 => ?_) (fun c13 => ?_)
            · exfalso; omega
            · refine zwW_p [(1, 6, 0), (24, 118, 0)] (q := 118) (ls' := [(2, 37), (0, a), (0, v2), (0, dL6), (0, kL6), (0, v10), (0, v11)]) (st' := [(0, v11), (0, dL6), (2, 169)]) (by decide +kernel) rfl ?_
              refine zwW_as IhL6 (a1 := 169) (a2 := 169) (n := 420) (lo := -2147483648) (hi := 2147483647) (nx := 119) (by decide +kernel) ⟨by decide, by decide⟩ ⟨by omega, by omega⟩ ⟨by omega, by omega⟩ ?_
              intro h14 eh14 Ih14
              have VB : eV h14 169 (eRn (fld h 168) (mCc h v2 a) 0 (kL6 + 1).toNat eP0) (dL6 + 1) := by
                rw [show (kL6 + 1).toNat = (kL6).toNat + 1 by omega, eRn_s, E80]
                first
                | exact iL6_1.num eh14 (IhL6.s (a1 := 169) (a2 := 169) (k := 20) (n := 420) (by decide +kernel) (by decide) (by decide)) rfl (by omega) (by rw [eEq_n (by omega)]; exact M80.nn (by omega)) (by rw [eEq_n (by omega)])
                | exact iL6_1.nam eh14 (IhL6.s (a1 := 169) (a2 := 169) (k := 20) (n := 420) (by decide +kernel) (by decide) (by decide)) rfl (by omega) (by rw [eEq_v (by omega)]; have := M80.v (by omega); omega) (by rw [eEq_v (by omega), show (-1 - (-1 - v11)).toNat = (v11).toNat by omega, ← N80 _ (by have := M80.v (by omega); omega)]; assumption)
              have Rh14 : zMR ms137_e h h14 := RhL6.w (a1 := 169) (a2 := 169) (j1 := 0) (j2 := 420) (by decide +kernel) ⟨by decide, by decide⟩ ⟨by omega, by omega⟩ eh14
              refine zwW_inc (i := 3) (c := 1) (x := dL6) (nx := 122) (by decide +kernel) rfl ⟨by omega, by omega⟩ (ls' := [(2, 37), (0, a), (0, v2), (0, (dL6 + 1)), (0, kL6), (0, v10), (0, v11)]) rfl ?_
              refine zwW_p [(24, 185, 0)] (q := 185) (ls' := [(2, 37), (0, a), (0, v2), (0, (dL6 + 1)), (0, kL6), (0, v10), (0, v11)]) (st' := []) (by decide +kernel) rfl ?_
              refine zwW_inc (i := 4) (c := 1) (x := kL6) (nx := 188) (by decide +kernel) rfl ⟨by omega, by omega⟩ (ls' := [(2, 37), (0, a), (0, v2), (0, (dL6 + 1)), (0, (kL6 + 1)), (0, v10), (0, v11)]) rfl ?_
              refine zwW_p [(24, 35, 0)] (q := 35) (ls' := [(2, 37), (0, a), (0, v2), (0, (dL6 + 1)), (0, (kL6 + 1)), (0, v10), (0, v11)]) (st' := []) (by decide +kernel) rfl ?_
              exact IHL6 ((1000 - (kL6 + 1))).toNat (by omega) (dL6 + 1) (kL6 + 1) (0, v10) (0, v11) h14 rfl (by omega) (VB) Ih14 Rh14
          · refine zwW_p [(1, 5, 0), (0, 118, 0)] (q := 91) (ls' := [(2, 37), (0, a), (0, v2), (0, dL6), (0, kL6), (0, v10), (0, v11)]) (st' := [(0, 118), (0, v10)]) (by decide +kernel) rfl ?_
            refine zwic_ne (q := 125) (nx := 94) (by decide +kernel) (fun c15 => ?_) (fun c15 => ?_)
            · refine zwW_p [(1, 5, 0), (0, 33, 0)] (q := 129) (ls' := [(2, 37), (0, a), (0, v2), (0, dL6), (0, kL6), (0, v10), (0, v11)]) (st' := [(0, 33), (0, v10)]) (by decide +kernel) rfl ?_
              refine zwic_ne (q := 153) (nx := 132) (by decide +kernel) (fun c16 => ?_) (fun c16 => ?_)
              · have B153 := M80.b (by omega) (by omega) (by omega)
                have Y153 := eEn_m (v := v11) B153
                clear B153
                have T153 := O80
                rw [Y153.1] at T153
                have T153 := T153.bin ⟨by omega, by omega⟩
                have D153 := T153.1
                have A153 := iL6_1.t2 T153.1
                have C153 := iL6_1.t1 (by omega)
                refine zwW_p [(1, 0, 2)] (q := 154) (ls' := [(2, 37), (0, a), (0, v2), (0, dL6), (0, kL6), (0, v10), (0, v11)]) (st' := [(2, 37)]) (by decide +kernel) rfl ?_
                refine zwW_gc IhL6 (kd := 13) (bn := 57) (n := 97) (c := 169) (nx := 157) (by decide +kernel) ?_
                refine zwW_p [(1, 3, 0), (0, 2, 0)] (q := 159) (ls' := [(2, 37), (0, a), (0, v2), (0, dL6), (0, kL6), (0, v10), (0, v11)]) (st' := [(0, 2), (0, dL6), (2, 169)]) (by decide +kernel) rfl ?_
                refine zwW_sub (nx := 160) (by decide +kernel) ⟨by omega, by omega⟩ ?_
                refine zwW_p [(1, 5, 0), (1, 0, 2)] (q := 163) (ls' := [(2, 37), (0, a), (0, v2), (0, dL6), (0, kL6), (0, v10), (0, v11)]) (st' := [(2, 37), (0, v10), (0, (dL6 - 2)), (2, 169)]) (by decide +kernel) rfl ?_
                refine zwW_gc IhL6 (kd := 13) (bn := 57) (n := 97) (c := 169) (nx := 166) (by decide +kernel) ?_
                refine zwW_p [(1, 3, 0), (0, 2, 0)] (q := 168) (ls' := [(2, 37), (0, a), (0, v2), (0, dL6), (0, kL6), (0, v10), (0, v11)]) (st' := [(0, 2), (0, dL6), (2, 169), (0, v10), (0, (dL6 - 2)), (2, 169)]) (by decide +kernel) rfl ?_
                refine zwW_sub (nx := 169) (by decide +kernel) ⟨by omega, by omega⟩ ?_
                refine zwW_al IhL6 (a1 := 169) (a2 := 169) (kd := 20) (n := 420) (t := 0) (lo := -2147483648) (hi := 2147483647) (nx := 170) (by decide +kernel) ⟨by decide, by decide⟩ ⟨by omega, by omega⟩ ?_
                intro v17 ev17 lv17 uv17
                refine zwW_p [(1, 0, 2)] (q := 171) (ls' := [(2, 37), (0, a), (0, v2), (0, dL6), (0, kL6), (0, v10), (0, v11)]) (st' := [(2, 37), (0, v17), (0, v10), (0, (dL6 - 2)), (2, 169)]) (by decide +kernel) rfl ?_
                refine zwW_gc IhL6 (kd := 13) (bn := 57) (n := 97) (c := 169) (nx := 174) (by decide +kernel) ?_
                refine zwW_p [(1, 3, 0), (0, 1, 0)] (q := 176) (ls' := [(2, 37), (0, a), (0, v2), (0, dL6), (0, kL6), (0, v10), (0, v11)]) (st' := [(0, 1), (0, dL6), (2, 169), (0, v17), (0, v10), (0, (dL6 - 2)), (2, 169)]) (by decide +kernel) rfl ?_
                refine zwW_sub (nx := 177) (by decide +kernel) ⟨by omega, by omega⟩ ?_
                refine zwW_al IhL6 (a1 := 169) (a2 := 169) (kd := 20) (n := 420) (t := 0) (lo := -2147483648) (hi := 2147483647) (nx := 178) (by decide +kernel) ⟨by decide, by decide⟩ ⟨by omega, by omega⟩ ?_
                intro v18 ev18 lv18 uv18
                refine zwW_cs (k' := 209) (n := 3) (nx := 181) (as := [(0, v10), (0, v17), (0, v18)]) (st' := [(0, (dL6 - 2)), (2, 169)]) (by decide +kernel) rfl (m209_e hL6 v10 v17 v18 (by omega) (by omega) (M80.b (by omega) (by omega) (by omega)) (by rw [ev17, A153]; exact T153.2.1.1) (by rw [ev18, C153]; exact T153.2.1.2)) rfl ?_
                rintro v19 _ ⟨rfl, f20, f21⟩
                refine zwW_as IhL6 (a1 := 169) (a2 := 169) (n := 420) (lo := -2147483648) (hi := 2147483647) (nx := 182) (by decide +kernel) ⟨by decide, by decide⟩ ⟨by omega, by omega⟩ ⟨by omega, by omega⟩ ?_
                intro h22 eh22 Ih22
                have VB : eV h22 169 (eRn (fld h 168) (mCc h v2 a) 0 (kL6 + 1).toNat eP0) (dL6 + (-1)) := by
                  rw [show (kL6 + 1).toNat = (kL6).toNat + 1 by omega, eRn_s, E80]
                  rw [Y153.1, show dL6 + (-1) = dL6 - 1 by omega]
                  exact iL6_1.bin eh22 (IhL6.s (a1 := 169) (a2 := 169) (k := 20) (n := 420) (by decide +kernel) (by decide) (by decide)) rfl (by omega) T153.1 ⟨by omega, by omega⟩ (by rw [Int.neg_neg, ← ev17, ← ev18]; assumption)
                have Rh22 : zMR ms137_e h h22 := RhL6.w (a1 := 169) (a2 := 169) (j1 := 0) (j2 := 420) (by decide +kernel) ⟨by decide, by decide⟩ ⟨by omega, by omega⟩ eh22
                refine zwW_inc (i := 3) (c := -1) (x := dL6) (nx := 185) (by decide +kernel) rfl ⟨by omega, by omega⟩ (ls' := [(2, 37), (0, a), (0, v2), (0, (dL6 + (-1))), (0, kL6), (0, v10), (0, v11)]) rfl ?_
                refine zwW_inc (i := 4) (c := 1) (x := kL6) (nx := 188) (by decide +kernel) rfl ⟨by omega, by omega⟩ (ls' := [(2, 37), (0, a), (0, v2), (0, (dL6 + (-1))), (0, (kL6 + 1)), (0, v10), (0, v11)]) rfl ?_
                refine zwW_p [(24, 35, 0)] (q := 35) (ls' := [(2, 37), (0, a), (0, v2), (0, (dL6 + (-1))), (0, (kL6 + 1)), (0, v10), (0, v11)]) (st' := []) (by decide +kernel) rfl ?_
                exact IHL6 ((1000 - (kL6 + 1))).toNat (by omega) (dL6 + (-1)) (kL6 + 1) (0, v10) (0, v11) h22 rfl (by omega) (VB) Ih22 Rh22
              · have T132 := O80
                rw [eEq_x (by omega)] at T132
                have T132 := T132.not
                have D132 := T132.1
                refine zwW_p [(1, 0, 2)] (q := 133) (ls' := [(2, 37), (0, a), (0, v2), (0, dL6), (0, kL6), (0, v10), (0, v11)]) (st' := [(2, 37)]) (by decide +kernel) rfl ?_
                refine zwW_gc IhL6 (kd := 13) (bn := 57) (n := 97) (c := 169) (nx := 136) (by decide +kernel) ?_
                refine zwW_p [(1, 3, 0), (0, 1, 0)] (q := 138) (ls' := [(2, 37), (0, a), (0, v2), (0, dL6), (0, kL6), (0, v10), (0, v11)]) (st' := [(0, 1), (0, dL6), (2, 169)]) (by decide +kernel) rfl ?_
                refine zwW_sub (nx := 139) (by decide +kernel) ⟨by omega, by omega⟩ ?_
                refine zwW_p [(0, 1, 0), (1, 0, 2)] (q := 141) (ls' := [(2, 37), (0, a), (0, v2), (0, dL6), (0, kL6), (0, v10), (0, v11)]) (st' := [(2, 37), (0, 1), (0, (dL6 - 1)), (2, 169)]) (by decide +kernel) rfl ?_
                refine zwW_gc IhL6 (kd := 13) (bn := 57) (n := 97) (c := 169) (nx := 144) (by decide +kernel) ?_
                refine zwW_p [(1, 3, 0), (0, 1, 0)] (q := 146) (ls' := [(2, 37), (0, a), (0, v2), (0, dL6), (0, kL6), (0, v10), (0, v11)]) (st' := [(0, 1), (0, dL6), (2, 169), (0, 1), (0, (dL6 - 1)), (2, 169)]) (by decide +kernel) rfl ?_
                refine zwW_sub (nx := 147) (by decide +kernel) ⟨by omega, by omega⟩ ?_
                refine zwW_al IhL6 (a1 := 169) (a2 := 169) (kd := 20) (n := 420) (t := 0) (lo := -2147483648) (hi := 2147483647) (nx := 148) (by decide +kernel) ⟨by decide, by decide⟩ ⟨by omega, by omega⟩ ?_
                intro v23 ev23 lv23 uv23
                refine zwW_sbw (nx := 149) (by decide +kernel) ?_
                intro v24 ev24 lv24 uv24
                refine zwW_as IhL6 (a1 := 169) (a2 := 169) (n := 420) (lo := -2147483648) (hi := 2147483647) (nx := 150) (by decide +kernel) ⟨by decide, by decide⟩ ⟨by omega, by omega⟩ ⟨by omega, by omega⟩ ?_
                intro h25 eh25 Ih25
                have VB : eV h25 169 (eRn (fld h 168) (mCc h v2 a) 0 (kL6 + 1).toNat eP0) dL6 := by
                  rw [show (kL6 + 1).toNat = (kL6).toNat + 1 by omega, eRn_s, E80]
                  have B149 : fld hL6 169 (dL6 - 1).toNat = 0 ∨ fld hL6 169 (dL6 - 1).toNat = 1 := by rw [iL6_1.t1 T132.1]; exact T132.2
                  exact iL6_1.not eh25 (IhL6.s (a1 := 169) (a2 := 169) (k := 20) (n := 420) (by decide +kernel) (by decide) (by decide)) rfl (by omega) T132.1 (eEq_x (by omega)) (by rw [ev24]; unfold w32; omega)
                have Rh25 : zMR ms137_e h h25 := RhL6.w (a1 := 169) (a2 := 169) (j1 := 0) (j2 := 420) (by decide +kernel) ⟨by decide, by decide⟩ ⟨by omega, by omega⟩ eh25
                refine zwW_p [(24, 185, 0)] (q := 185) (ls' := [(2, 37), (0, a), (0, v2), (0, dL6), (0, kL6), (0, v10), (0, v11)]) (st' := []) (by decide +kernel) rfl ?_
                refine zwW_inc (i := 4) (c := 1) (x := kL6) (nx := 188) (by decide +kernel) rfl ⟨by omega, by omega⟩ (ls' := [(2, 37), (0, a), (0, v2), (0, dL6), (0, (kL6 + 1)), (0, v10), (0, v11)]) rfl ?_
                refine zwW_p [(24, 35, 0)] (q := 35) (ls' := [(2, 37), (0, a), (0, v2), (0, dL6), (0, (kL6 + 1)), (0, v10), (0, v11)]) (st' := []) (by decide +kernel) rfl ?_
                exact IHL6 ((1000 - (kL6 + 1))).toNat (by omega) dL6 (kL6 + 1) (0, v10) (0, v11) h25 rfl (by omega) (VB) Ih25 Rh25
            · refine zwW_p [(1, 0, 2)] (q := 95) (ls' := [(2, 37), (0, a), (0, v2), (0, dL6), (0, kL6), (0, v10), (0, v11)]) (st' := [(2, 37)]) (by decide +kernel) rfl ?_
              refine zwW_gc IhL6 (kd := 13) (bn := 57) (n := 97) (c := 169) (nx := 98) (by decide +kernel) ?_
              refine zwW_p [(1, 3, 0), (1, 5, 0), (0, 110, 0)] (q := 103) (ls' := [(2, 37), (0, a), (0, v2), (0, dL6), (0, kL6), (0, v10), (0, v11)]) (st' := [(0, 110), (0, v10), (0, dL6), (2, 169)]) (by decide +kernel) rfl ?_
              refine zwic_ne (q := 111) (nx := 106) (by decide +kernel) (fun c26 => ?_) (fun c26 => ?_)
              · have V111 := M80.v (by omega)
                refine zwW_p [(1, 0, 2)] (q := 112) (ls' := [(2, 37), (0, a), (0, v2), (0, dL6), (0, kL6), (0, v10), (0, v11)]) (st' := [(2, 37), (0, dL6), (2, 169)]) (by decide +kernel) rfl ?_
                refine zwW_gc IhL6 (kd := 13) (bn := 56) (n := 97) (c := 168) (nx := 115) (by decide +kernel) ?_
                refine zwW_p [(1, 6, 0)] (q := 117) (ls' := [(2, 37), (0, a), (0, v2), (0, dL6), (0, kL6), (0, v10), (0, v11)]) (st' := [(0, v11), (2, 168), (0, dL6), (2, 169)]) (by decide +kernel) rfl ?_
                refine zwW_al IhL6 (a1 := 168) (a2 := 168) (kd := 20) (n := 13) (t := 0) (lo := -2147483648) (hi := 2147483647) (nx := 118) (by decide +kernel) ⟨by decide, by decide⟩ ⟨by omega, by omega⟩ ?_
                intro v27 ev27 lv27 uv27
                refine zwW_as IhL6 (a1 := 169) (a2 := 169) (n := 420) (lo := -2147483648) (hi := 2147483647) (nx := 119) (by decide +kernel) ⟨by decide, by decide⟩ ⟨by omega, by omega⟩ ⟨by omega, by omega⟩ ?_
                intro h28 eh28 Ih28
                have VB : eV h28 169 (eRn (fld h 168) (mCc h v2 a) 0 (kL6 + 1).toNat eP0) (dL6 + 1) := by
                  rw [show (kL6 + 1).toNat = (kL6).toNat + 1 by omega, eRn_s, E80]
                  first
                  | exact iL6_1.num eh28 (IhL6.s (a1 := 169) (a2 := 169) (k := 20) (n := 420) (by decide +kernel) (by decide) (by decide)) rfl (by omega) (by rw [eEq_n (by omega)]; exact M80.nn (by omega)) (by rw [eEq_n (by omega)])
                  | exact iL6_1.nam eh28 (IhL6.s (a1 := 169) (a2 := 169) (k := 20) (n := 420) (by decide +kernel) (by decide) (by decide)) rfl (by omega) (by rw [eEq_v (by omega)]; have := M80.v (by omega); omega) (by rw [eEq_v (by omega), show (-1 - (-1 - v11)).toNat = (v11).toNat by omega, ← N80 _ (by have := M80.v (by omega); omega)]; assumption)
                have Rh28 : zMR ms137_e h h28 := RhL6.w (a1 := 169) (a2 := 169) (j1 := 0) (j2 := 420) (by decide +kernel) ⟨by decide, by decide⟩ ⟨by omega, by omega⟩ eh28
                refine zwW_inc (i := 3) (c := 1) (x := dL6) (nx := 122) (by decide +kernel) rfl ⟨by omega, by omega⟩ (ls' := [(2, 37), (0, a), (0, v2), (0, (dL6 + 1)), (0, kL6), (0, v10), (0, v11)]) rfl ?_
                refine zwW_p [(24, 185, 0)] (q := 185) (ls' := [(2, 37), (0, a), (0, v2), (0, (dL6 + 1)), (0, kL6), (0, v10), (0, v11)]) (st' := []) (by decide +kernel) rfl ?_
                refine zwW_inc (i := 4) (c := 1) (x := kL6) (nx := 188) (by decide +kernel) rfl ⟨by omega, by omega⟩ (ls' := [(2, 37), (0, a), (0, v2), (0, (dL6 + 1)), (0, (kL6 + 1)), (0, v10), (0, v11)]) rfl ?_
                refine zwW_p [(24, 35, 0)] (q := 35) (ls' := [(2, 37), (0, a), (0, v2), (0, (dL6 + 1)), (0, (kL6 + 1)), (0, v10), (0, v11)]) (st' := []) (by decide +kernel) rfl ?_
                exact IHL6 ((1000 - (kL6 + 1))).toNat (by omega) (dL6 + 1) (kL6 + 1) (0, v10) (0, v11) h28 rfl (by omega) (VB) Ih28 Rh28
              · exfalso; omega
    exact L6 _ 0 0 (9, 0) (9, 0) h rfl (by omega) (eV_0) I R
  · refine zwW_p [(1, 1, 0)] (q := 16) (ls' := [(2, 37), (0, a), (0, v2), (9, 0), (9, 0), (9, 0), (9, 0)]) (st' := [(0, a)]) (by decide +kernel) rfl ?_
    refine zwif_eq (q := 24) (nx := 19) (by decide +kernel) (fun c29 => ?_) (fun c29 => ?_)
    · refine zwW_p [(0, 0, 0), (24, 29, 0)] (q := 29) (ls' := [(2, 37), (0, a), (0, v2), (9, 0), (9, 0), (9, 0), (9, 0)]) (st' := [(0, 0)]) (by decide +kernel) rfl ?_
      refine zwW_ret (nx := 30) (a := 0) (b := 0) (by decide +kernel) rfl (Or.inl rfl) ?_
      exact ⟨I, R, by omega, by first | (rw [zTl_n (by omega)]; first | rw [if_pos (by omega)] | rw [if_neg (by omega)]) | (rw [zTl_y B30, ← S12]; omega)⟩
    · refine zwW_p [(1, 1, 0), (0, 2, 0)] (q := 21) (ls' := [(2, 37), (0, a), (0, v2), (9, 0), (9, 0), (9, 0), (9, 0)]) (st' := [(0, 2), (0, a)]) (by decide +kernel) rfl ?_
      refine zwic_ne (q := 28) (nx := 24) (by decide +kernel) (fun c30 => ?_) (fun c30 => ?_)
      · refine zwW_p [(0, 1, 0)] (q := 29) (ls' := [(2, 37), (0, a), (0, v2), (9, 0), (9, 0), (9, 0), (9, 0)]) (st' := [(0, 1)]) (by decide +kernel) rfl ?_
        refine zwW_ret (nx := 30) (a := 0) (b := 0) (by decide +kernel) rfl (Or.inl rfl) ?_
        exact ⟨I, R, by omega, by first | (rw [zTl_n (by omega)]; first | rw [if_pos (by omega)] | rw [if_neg (by omega)]) | (rw [zTl_y B30, ← S12]; omega)⟩
      · refine zwW_p [(0, 0, 0), (24, 29, 0)] (q := 29) (ls' := [(2, 37), (0, a), (0, v2), (9, 0), (9, 0), (9, 0), (9, 0)]) (st' := [(0, 0)]) (by decide +kernel) rfl ?_
        refine zwW_ret (nx := 30) (a := 0) (b := 0) (by decide +kernel) rfl (Or.inl rfl) ?_
        exact ⟨I, R, by omega, by first | (rw [zTl_n (by omega)]; first | rw [if_pos (by omega)] | rw [if_neg (by omega)]) | (rw [zTl_y B30, ← S12]; omega)⟩
