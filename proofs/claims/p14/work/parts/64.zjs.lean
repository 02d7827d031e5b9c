/-! contracts of methods -/
-- java/lang/StringLatin1.canEncode(I)Z
theorem m289 {sc : List Int} (h : Hp) (a : Int) (q_a : -2147483648 ≤ a ∧ a ≤ 2147483647) : zwC sc 1 289 [(0, a)] h (zwRt 0 (fun x g => h = g ∧ ((x = 1 ∧ (0 ≤ a ∧ a ≤ 255)) ∨ (x = 0 ∧ (a < 0 ∨ 255 < a))))) := by
  refine zwC_of (D := 0) 1 (by decide +kernel) rfl (ls := [(0, a)]) rfl ?_
  refine zwW_p [(1, 0, 0)] (q := 1) (ls' := [(0, a)]) (st' := [(0, a)]) (by decide +kernel) rfl ?_
  refine zwif_lt (q := 15) (nx := 4) (by decide +kernel) (fun c1 => ?_) (fun c1 => ?_)
  · refine zwW_p [(0, 0, 0)] (q := 16) (ls' := [(0, a)]) (st' := [(0, 0)]) (by decide +kernel) rfl ?_
    refine zwW_ret (nx := 17) (a := 1) (b := 0) (by decide +kernel) rfl (Or.inr (Or.inl ⟨rfl, by omega⟩)) ?_
    exact ⟨rfl, Or.inr ⟨rfl, by omega⟩⟩
  · refine zwW_p [(1, 0, 0), (0, 255, 0)] (q := 8) (ls' := [(0, a)]) (st' := [(0, 255), (0, a)]) (by decide +kernel) rfl ?_
    refine zwic_gt (q := 15) (nx := 11) (by decide +kernel) (fun c2 => ?_) (fun c2 => ?_)
    · refine zwW_p [(0, 0, 0)] (q := 16) (ls' := [(0, a)]) (st' := [(0, 0)]) (by decide +kernel) rfl ?_
      refine zwW_ret (nx := 17) (a := 1) (b := 0) (by decide +kernel) rfl (Or.inr (Or.inl ⟨rfl, by omega⟩)) ?_
      exact ⟨rfl, Or.inr ⟨rfl, by omega⟩⟩
    · refine zwW_p [(0, 1, 0), (24, 16, 0)] (q := 16) (ls' := [(0, a)]) (st' := [(0, 1)]) (by decide +kernel) rfl ?_
      refine zwW_ret (nx := 17) (a := 1) (b := 0) (by decide +kernel) rfl (Or.inr (Or.inl ⟨rfl, by omega⟩)) ?_
      exact ⟨rfl, Or.inl ⟨rfl, by omega⟩⟩
-- java/lang/StringLatin1.indexOfChar([BIII)I
theorem m290 {sc : List Int} (h : Hp) (w a b c : Int) (q_a : -2147483648 ≤ a ∧ a ≤ 2147483647) (hw : -33 < w ∧ w ≤ -10) (p1 : 0 ≤ b ∧ b ≤ 200) (p2 : c ≤ (zby w).length ∧ -1 ≤ c ∧ c ≤ 200) : zwC sc 1 290 [(2, (w - 90)), (0, a), (0, b), (0, c)] h (zwRt 0 (fun x g => h = g ∧ (-2147483648 ≤ x ∧ x ≤ 2147483647) ∧ (-1 ≤ x ∧ x ≤ 200))) := by
  refine zwC_of (D := 0) 6 (by decide +kernel) rfl (ls := [(2, (w - 90)), (0, a), (0, b), (0, c), (9, 0), (9, 0)]) rfl ?_
  refine zwW_p [(1, 1, 0)] (q := 1) (ls' := [(2, (w - 90)), (0, a), (0, b), (0, c), (9, 0), (9, 0)]) (st' := [(0, a)]) (by decide +kernel) rfl ?_
  refine zwW_i2b (nx := 2) (by decide +kernel) ?_
  refine zwW_p [(2, 4, 0), (1, 2, 0), (2, 5, 0)] (q := 7) (ls' := [(2, (w - 90)), (0, a), (0, b), (0, c), (0, (i_byt a)), (0, b)]) (st' := []) (by decide +kernel) rfl ?_
  have L1 : ∀ (n : Nat) (iL1 : Int), n = ((1000 - iL1)).toNat → (0 ≤ iL1 ∧ iL1 ≤ 200) → zwW sc (0) 290 7 [(2, (w - 90)), (0, a), (0, b), (0, c), (0, (i_byt a)), (0, iL1)] [] h (zwRt 0 (fun x g => h = g ∧ (-2147483648 ≤ x ∧ x ≤ 2147483647) ∧ (-1 ≤ x ∧ x ≤ 200))) := by
    intro n
    induction n using Nat.strongRecOn with
    | ind n IHL1 =>
      intro iL1 hnL1 iL1_0
      refine zwW_p [(1, 5, 0), (1, 3, 0)] (q := 10) (ls' := [(2, (w - 90)), (0, a), (0, b), (0, c), (0, (i_byt a)), (0, iL1)]) (st' := [(0, c), (0, iL1)]) (by decide +kernel) rfl ?_
      refine zwic_ge (q := 31) (nx := 13) (by decide +kernel) (fun c2 => ?_) (fun c2 => ?_)
      · refine zwW_p [(0, -1, 0)] (q := 32) (ls' := [(2, (w - 90)), (0, a), (0, b), (0, c), (0, (i_byt a)), (0, iL1)]) (st' := [(0, -1)]) (by decide +kernel) rfl ?_
        refine zwW_ret (nx := 33) (a := 0) (b := 0) (by decide +kernel) rfl (Or.inl rfl) ?_
        exact ⟨rfl, by omega, by omega⟩
      · refine zwW_p [(1, 0, 2), (1, 5, 0)] (q := 16) (ls' := [(2, (w - 90)), (0, a), (0, b), (0, c), (0, (i_byt a)), (0, iL1)]) (st' := [(0, iL1), (2, (w - 90))]) (by decide +kernel) rfl ?_
        refine zwW_tld (w := w) (nx := 17) (by decide +kernel) rfl ⟨by omega, by omega⟩ ⟨by omega, by omega⟩ ?_
        have B16 := zby_at (w := w) ⟨by omega, by omega⟩ (i := iL1.toNat) (by omega)
        refine zwW_p [(1, 4, 0)] (q := 19) (ls' := [(2, (w - 90)), (0, a), (0, b), (0, c), (0, (i_byt a)), (0, iL1)]) (st' := [(0, (i_byt a)), (0, ((zby w).getD iL1.toNat 0))]) (by decide +kernel) rfl ?_
        refine zwic_ne (q := 25) (nx := 22) (by decide +kernel) (fun c3 => ?_) (fun c3 => ?_)
        · refine zwW_inc (i := 5) (c := 1) (x := iL1) (nx := 28) (by decide +kernel) rfl ⟨by omega, by omega⟩ (ls' := [(2, (w - 90)), (0, a), (0, b), (0, c), (0, (i_byt a)), (0, (iL1 + 1))]) rfl ?_
          refine zwW_p [(24, 7, 0)] (q := 7) (ls' := [(2, (w - 90)), (0, a), (0, b), (0, c), (0, (i_byt a)), (0, (iL1 + 1))]) (st' := []) (by decide +kernel) rfl ?_
          exact IHL1 ((1000 - (iL1 + 1))).toNat (by omega) (iL1 + 1) rfl (by omega)
        · refine zwW_p [(1, 5, 0)] (q := 24) (ls' := [(2, (w - 90)), (0, a), (0, b), (0, c), (0, (i_byt a)), (0, iL1)]) (st' := [(0, iL1)]) (by decide +kernel) rfl ?_
          refine zwW_ret (nx := 25) (a := 0) (b := 0) (by decide +kernel) rfl (Or.inl rfl) ?_
          exact ⟨rfl, by omega, by omega⟩
  exact L1 _ b rfl (by omega)
-- java/lang/StringLatin1.indexOf([BIII)I
theorem m278 {sc : List Int} (h : Hp) (w a b c : Int) (q_a : -2147483648 ≤ a ∧ a ≤ 2147483647) (hw : -33 < w ∧ w ≤ -10) (p1 : 0 ≤ b ∧ b ≤ 200) (p2 : c = (zby w).length ∧ c ≤ 200) : zwC sc 2 278 [(2, (w - 90)), (0, a), (0, b), (0, c)] h (zwRt 0 (fun x g => h = g ∧ (-2147483648 ≤ x ∧ x ≤ 2147483647) ∧ (-1 ≤ x ∧ x ≤ 200))) := by
  refine zwC_of (D := 1) 4 (by decide +kernel) rfl (ls := [(2, (w - 90)), (0, a), (0, b), (0, c)]) rfl ?_
  refine zwW_p [(1, 1, 0)] (q := 1) (ls' := [(2, (w - 90)), (0, a), (0, b), (0, c)]) (st' := [(0, a)]) (by decide +kernel) rfl ?_
  refine zwW_cs (k' := 289) (n := 1) (nx := 4) (as := [(0, a)]) (st' := []) (by decide +kernel) rfl (m289 h a (by omega)) rfl ?_
  rintro x _ ⟨rfl, ⟨rfl, c1⟩ | ⟨rfl, c1⟩⟩
  · refine zwif_ne (q := 9) (nx := 7) (by decide +kernel) (fun c2 => ?_) (fun c2 => ?_)
    · refine zwW_p [(1, 2, 0), (0, 0, 0)] (q := 11) (ls' := [(2, (w - 90)), (0, a), (0, b), (0, c)]) (st' := [(0, 0), (0, b)]) (by decide +kernel) rfl ?_
      refine zwW_max (nx := 14) (by decide +kernel) rfl ?_
      intro v3 ev3
      refine zwW_p [(2, 2, 0), (1, 3, 0), (1, 0, 2)] (q := 17) (ls' := [(2, (w - 90)), (0, a), (0, v3), (0, c)]) (st' := [(2, (w - 90)), (0, c)]) (by decide +kernel) rfl ?_
      refine zwW_tlen (w := w) (nx := 18) (by decide +kernel) rfl ⟨by omega, by omega⟩ ?_
      have B17 := zby_le (w := w) ⟨by omega, by omega⟩
      refine zwW_min (nx := 21) (by decide +kernel) rfl ?_
      intro v4 ev4
      refine zwW_p [(2, 3, 0), (1, 2, 0), (1, 3, 0)] (q := 24) (ls' := [(2, (w - 90)), (0, a), (0, v3), (0, v4)]) (st' := [(0, v4), (0, v3)]) (by decide +kernel) rfl ?_
      refine zwic_lt (q := 29) (nx := 27) (by decide +kernel) (fun c5 => ?_) (fun c5 => ?_)
      · refine zwW_p [(1, 0, 2), (1, 1, 0), (1, 2, 0), (1, 3, 0)] (q := 33) (ls' := [(2, (w - 90)), (0, a), (0, v3), (0, v4)]) (st' := [(0, v4), (0, v3), (0, a), (2, (w - 90))]) (by decide +kernel) rfl ?_
        refine zwW_cs (k' := 290) (n := 4) (nx := 36) (as := [(2, (w - 90)), (0, a), (0, v3), (0, v4)]) (st' := []) (by decide +kernel) rfl (m290 h w a v3 v4 (by omega) (by omega) (by omega) (by omega)) rfl ?_
        rintro v6 _ ⟨rfl, f7, f8⟩
        refine zwW_ret (nx := 37) (a := 0) (b := 0) (by decide +kernel) rfl (Or.inl rfl) ?_
        exact ⟨rfl, by omega, by omega⟩
      · refine zwW_p [(0, -1, 0)] (q := 28) (ls' := [(2, (w - 90)), (0, a), (0, v3), (0, v4)]) (st' := [(0, -1)]) (by decide +kernel) rfl ?_
        refine zwW_ret (nx := 29) (a := 0) (b := 0) (by decide +kernel) rfl (Or.inl rfl) ?_
        exact ⟨rfl, by omega, by omega⟩
    · exfalso; omega
  · refine zwif_ne (q := 9) (nx := 7) (by decide +kernel) (fun c9 => ?_) (fun c9 => ?_)
    · exfalso; omega
    · refine zwW_p [(0, -1, 0)] (q := 8) (ls' := [(2, (w - 90)), (0, a), (0, b), (0, c)]) (st' := [(0, -1)]) (by decide +kernel) rfl ?_
      refine zwW_ret (nx := 9) (a := 0) (b := 0) (by decide +kernel) rfl (Or.inl rfl) ?_
      exact ⟨rfl, by omega, by omega⟩
-- java/lang/String.indexOf(II)I
theorem m261 {sc : List Int} (h : Hp) (w a b : Int) (q_a : -2147483648 ≤ a ∧ a ≤ 2147483647) (hw : -33 < w ∧ w ≤ -10) (p1 : 0 ≤ b ∧ b ≤ 200) : zwC sc 3 261 [(2, w), (0, a), (0, b)] h (zwRt 0 (fun x g => h = g ∧ (-2147483648 ≤ x ∧ x ≤ 2147483647) ∧ (-1 ≤ x ∧ x ≤ 200))) := by
  refine zwC_of (D := 2) 3 (by decide +kernel) rfl (ls := [(2, w), (0, a), (0, b)]) rfl ?_
  refine zwW_p [(1, 0, 2)] (q := 1) (ls' := [(2, w), (0, a), (0, b)]) (st' := [(2, w)]) (by decide +kernel) rfl ?_
  refine zwW_cst (op := 60) (k' := 277) (n := 0) (nx := 4) (w := w) (tl := []) (st' := []) (by decide +kernel) rfl (by decide +kernel) ⟨by omega, by omega⟩ rfl (m277 h w (by omega)) ?_
  rintro x _ ⟨rfl, rfl⟩
  refine zwif_eq (q := 23) (nx := 7) (by decide +kernel) (fun c1 => ?_) (fun c1 => ?_)
  · exfalso; omega
  · refine zwW_p [(1, 0, 2)] (q := 8) (ls' := [(2, w), (0, a), (0, b)]) (st' := [(2, w)]) (by decide +kernel) rfl ?_
    refine zwW_sval (nx := 11) (by decide +kernel) ⟨by omega, by omega⟩ ?_
    refine zwW_p [(1, 1, 0), (1, 2, 0), (1, 0, 2)] (q := 14) (ls' := [(2, w), (0, a), (0, b)]) (st' := [(2, w), (0, b), (0, a), (2, (w - 90))]) (by decide +kernel) rfl ?_
    refine zwW_cst (op := 60) (k' := 265) (n := 0) (nx := 17) (w := w) (tl := []) (st' := [(0, b), (0, a), (2, (w - 90))]) (by decide +kernel) rfl (by decide +kernel) ⟨by omega, by omega⟩ rfl (m265 h w (by omega)) ?_
    rintro v2 _ ⟨rfl, f3, f4, f5⟩
    refine zwW_cs (k' := 278) (n := 4) (nx := 20) (as := [(2, (w - 90)), (0, a), (0, b), (0, v2)]) (st' := []) (by decide +kernel) rfl (m278 h w a b v2 (by omega) (by omega) (by omega) (by omega)) rfl ?_
    rintro v6 _ ⟨rfl, f7, f8⟩
    refine zwW_p [(24, 36, 0)] (q := 36) (ls' := [(2, w), (0, a), (0, b)]) (st' := [(0, v6)]) (by decide +kernel) rfl ?_
    refine zwW_ret (nx := 37) (a := 0) (b := 0) (by decide +kernel) rfl (Or.inl rfl) ?_
    exact ⟨rfl, by omega, by omega⟩
-- java/lang/String.indexOf(I)I
theorem m240 {sc : List Int} (h : Hp) (w a : Int) (q_a : -2147483648 ≤ a ∧ a ≤ 2147483647) (hw : -33 < w ∧ w ≤ -10) : zwC sc 4 240 [(2, w), (0, a)] h (zwRt 0 (fun x g => h = g ∧ (-2147483648 ≤ x ∧ x ≤ 2147483647) ∧ (-1 ≤ x ∧ x ≤ 200))) := by
  refine zwC_of (D := 3) 2 (by decide +kernel) rfl (ls := [(2, w), (0, a)]) rfl ?_
  refine zwW_p [(1, 0, 2), (1, 1, 0), (0, 0, 0)] (q := 3) (ls' := [(2, w), (0, a)]) (st' := [(0, 0), (0, a), (2, w)]) (by decide +kernel) rfl ?_
  refine zwW_cst (op := 60) (k' := 261) (n := 2) (nx := 6) (w := w) (tl := [(0, a), (0, 0)]) (st' := []) (by decide +kernel) rfl (by decide +kernel) ⟨by omega, by omega⟩ rfl (m261 h w a 0 (by omega) (by omega) (by omega)) ?_
  rintro v1 _ ⟨rfl, f2, f3⟩
  refine zwW_ret (nx := 7) (a := 0) (b := 0) (by decide +kernel) rfl (Or.inl rfl) ?_
  exact ⟨rfl, by omega, by omega⟩
-- java/lang/Integer.bitCount(I)I
theorem m210 {sc : List Int} (h : Hp) (a : Int) (q_a : -2147483648 ≤ a ∧ a ≤ 2147483647) : zwC sc 1 210 [(0, a)] h (zwRt 0 (fun x g => h = g ∧ (-2147483648 ≤ x ∧ x ≤ 2147483647))) := by
  refine zwC_of (D := 0) 1 (by decide +kernel) rfl (ls := [(0, a)]) rfl ?_
  refine zwW_p [(1, 0, 0), (1, 0, 0), (0, 1, 0)] (q := 3) (ls' := [(0, a)]) (st' := [(0, 1), (0, a), (0, a)]) (by decide +kernel) rfl ?_
  refine zwW_any2 (a := 10) (nx := 4) (by decide +kernel) rfl ⟨by omega, by omega⟩ (Or.inr ⟨by decide, by decide⟩) ?_
  intro v1 lv1 uv1
  refine zwW_p [(0, 1431655765, 0)] (q := 7) (ls' := [(0, a)]) (st' := [(0, 1431655765), (0, v1), (0, a)]) (by decide +kernel) rfl ?_
  refine zwW_any2 (a := 5) (nx := 8) (by decide +kernel) rfl ⟨by omega, by omega⟩ (Or.inr ⟨by decide, by decide⟩) ?_
  intro v2 lv2 uv2
  refine zwW_sbw (nx := 9) (by decide +kernel) ?_
  intro v3 ev3 lv3 uv3
  refine zwW_p [(2, 0, 0), (1, 0, 0), (0, 858993459, 0)] (q := 14) (ls' := [(0, v3)]) (st' := [(0, 858993459), (0, v3)]) (by decide +kernel) rfl ?_
  refine zwW_any2 (a := 5) (nx := 15) (by decide +kernel) rfl ⟨by omega, by omega⟩ (Or.inr ⟨by decide, by decide⟩) ?_
  intro v4 lv4 uv4
  refine zwW_p [(1, 0, 0), (0, 2, 0)] (q := 17) (ls' := [(0, v3)]) (st' := [(0, 2), (0, v3), (0, v4)]) (by decide +kernel) rfl ?_
  refine zwW_any2 (a := 10) (nx := 18) (by decide +kernel) rfl ⟨by omega, by omega⟩ (Or.inr ⟨by decide, by decide⟩) ?_
  intro v5 lv5 uv5
  refine zwW_p [(0, 858993459, 0)] (q := 21) (ls' := [(0, v3)]) (st' := [(0, 858993459), (0, v5), (0, v4)]) (by decide +kernel) rfl ?_
  refine zwW_any2 (a := 5) (nx := 22) (by decide +kernel) rfl ⟨by omega, by omega⟩ (Or.inr ⟨by decide, by decide⟩) ?_
  intro v6 lv6 uv6
  refine zwW_adw (nx := 23) (by decide +kernel) ?_
  intro v7 ev7 lv7 uv7
  refine zwW_p [(2, 0, 0), (1, 0, 0), (1, 0, 0), (0, 4, 0)] (q := 27) (ls' := [(0, v7)]) (st' := [(0, 4), (0, v7), (0, v7)]) (by decide +kernel) rfl ?_
  refine zwW_any2 (a := 10) (nx := 28) (by decide +kernel) rfl ⟨by omega, by omega⟩ (Or.inr ⟨by decide, by decide⟩) ?_
  intro v8 lv8 uv8
  refine zwW_adw (nx := 29) (by decide +kernel) ?_
  intro v9 ev9 lv9 uv9
  refine zwW_p [(0, 252645135, 0)] (q := 32) (ls' := [(0, v7)]) (st' := [(0, 252645135), (0, v9)]) (by decide +kernel) rfl ?_
  refine zwW_any2 (a := 5) (nx := 33) (by decide +kernel) rfl ⟨by omega, by omega⟩ (Or.inr ⟨by decide, by decide⟩) ?_
  intro v10 lv10 uv10
  refine zwW_p [(2, 0, 0), (1, 0, 0), (1, 0, 0), (0, 8, 0)] (q := 38) (ls' := [(0, v10)]) (st' := [(0, 8), (0, v10), (0, v10)]) (by decide +kernel) rfl ?_
  refine zwW_any2 (a := 10) (nx := 39) (by decide +kernel) rfl ⟨by omega, by omega⟩ (Or.inr ⟨by decide, by decide⟩) ?_
  intro v11 lv11 uv11
  refine zwW_adw (nx := 40) (by decide +kernel) ?_
  intro v12 ev12 lv12 uv12
  refine zwW_p [(2, 0, 0), (1, 0, 0), (1, 0, 0), (0, 16, 0)] (q := 45) (ls' := [(0, v12)]) (st' := [(0, 16), (0, v12), (0, v12)]) (by decide +kernel) rfl ?_
  refine zwW_any2 (a := 10) (nx := 46) (by decide +kernel) rfl ⟨by omega, by omega⟩ (Or.inr ⟨by decide, by decide⟩) ?_
  intro v13 lv13 uv13
  refine zwW_adw (nx := 47) (by decide +kernel) ?_
  intro v14 ev14 lv14 uv14
  refine zwW_p [(2, 0, 0), (1, 0, 0), (0, 63, 0)] (q := 51) (ls' := [(0, v14)]) (st' := [(0, 63), (0, v14)]) (by decide +kernel) rfl ?_
  refine zwW_any2 (a := 5) (nx := 52) (by decide +kernel) rfl ⟨by omega, by omega⟩ (Or.inr ⟨by decide, by decide⟩) ?_
  intro v15 lv15 uv15
  refine zwW_ret (nx := 53) (a := 0) (b := 0) (by decide +kernel) rfl (Or.inl rfl) ?_
  exact ⟨rfl, by omega⟩
