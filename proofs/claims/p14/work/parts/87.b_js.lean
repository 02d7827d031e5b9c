/-! contracts of methods -/
-- java/lang/StringLatin1.indexOfChar([BIII)I
theorem m290_p {sc : List Int} (h : Hp) (w a b c : Int) (q_a : -2147483648 ≤ a ∧ a ≤ 2147483647) (hw : -33 < w ∧ w ≤ -10) (p1 : 0 ≤ b ∧ b ≤ 200) (p2 : c ≤ (zby w).length ∧ -1 ≤ c ∧ c ≤ 200) : zwC sc 1 290 [(2, (w - 90)), (0, a), (0, b), (0, c)] h (zwRt 0 (fun x g => h = g ∧ (-2147483648 ≤ x ∧ x ≤ 2147483647) ∧ (-1 ≤ x ∧ x ≤ 200) ∧ ((x = -1 ∧ ∀ j : Nat, b ≤ (j : Int) → (j : Int) < c → (zby w).getD j 0 ≠ i_byt a) ∨ (0 ≤ x ∧ x < c ∧ (zby w).getD x.toNat 0 = i_byt a)))) := by
  refine zwC_of (D := 0) 6 (by decide +kernel) rfl (ls := [(2, (w - 90)), (0, a), (0, b), (0, c), (9, 0), (9, 0)]) rfl ?_
  refine zwW_p [(1, 1, 0)] (q := 1) (ls' := [(2, (w - 90)), (0, a), (0, b), (0, c), (9, 0), (9, 0)]) (st' := [(0, a)]) (by decide +kernel) rfl ?_
  refine zwW_i2b (nx := 2) (by decide +kernel) ?_
  refine zwW_p [(2, 4, 0), (1, 2, 0), (2, 5, 0)] (q := 7) (ls' := [(2, (w - 90)), (0, a), (0, b), (0, c), (0, (i_byt a)), (0, b)]) (st' := []) (by decide +kernel) rfl ?_
  have L1 : ∀ (n0 : Nat) (iL1 : Int), n0 = ((1000 - iL1)).toNat → (0 ≤ iL1 ∧ iL1 ≤ 200) → (∀ j : Nat, b ≤ (j : Int) → (j : Int) < iL1 → (zby w).getD j 0 ≠ i_byt a) → zwW sc (0) 290 7 [(2, (w - 90)), (0, a), (0, b), (0, c), (0, (i_byt a)), (0, iL1)] [] h (zwRt 0 (fun x g => h = g ∧ (-2147483648 ≤ x ∧ x ≤ 2147483647) ∧ (-1 ≤ x ∧ x ≤ 200) ∧ ((x = -1 ∧ ∀ j : Nat, b ≤ (j : Int) → (j : Int) < c → (zby w).getD j 0 ≠ i_byt a) ∨ (0 ≤ x ∧ x < c ∧ (zby w).getD x.toNat 0 = i_byt a)))) := by
    intro n0
    induction n0 using Nat.strongRecOn with
    | ind n0 IHL1 =>
      intro iL1 hnL1 iL1_0 iL1_1
      refine zwW_p [(1, 5, 0), (1, 3, 0)] (q := 10) (ls' := [(2, (w - 90)), (0, a), (0, b), (0, c), (0, (i_byt a)), (0, iL1)]) (st' := [(0, c), (0, iL1)]) (by decide +kernel) rfl ?_
      refine zwic_ge (q := 31) (nx := 13) (by decide +kernel) (fun c2 => ?_) (fun c2 => ?_)
      · refine zwW_p [(0, -1, 0)] (q := 32) (ls' := [(2, (w - 90)), (0, a), (0, b), (0, c), (0, (i_byt a)), (0, iL1)]) (st' := [(0, -1)]) (by decide +kernel) rfl ?_
        refine zwW_ret (nx := 33) (a := 0) (b := 0) (by decide +kernel) rfl (Or.inl rfl) ?_
        exact ⟨rfl, by omega, by omega, by first | exact Or.inr ⟨by omega, by omega, by omega⟩ | exact Or.inl ⟨rfl, fun j j1 j2 => iL1_1 j j1 (by omega)⟩⟩
      · refine zwW_p [(1, 0, 2), (1, 5, 0)] (q := 16) (ls' := [(2, (w - 90)), (0, a), (0, b), (0, c), (0, (i_byt a)), (0, iL1)]) (st' := [(0, iL1), (2, (w - 90))]) (by decide +kernel) rfl ?_
        refine zwW_tld (w := w) (nx := 17) (by decide +kernel) rfl ⟨by omega, by omega⟩ ⟨by omega, by omega⟩ ?_
        have B16 := zby_at (w := w) ⟨by omega, by omega⟩ (i := iL1.toNat) (by omega)
        refine zwW_p [(1, 4, 0)] (q := 19) (ls' := [(2, (w - 90)), (0, a), (0, b), (0, c), (0, (i_byt a)), (0, iL1)]) (st' := [(0, (i_byt a)), (0, ((zby w).getD iL1.toNat 0))]) (by decide +kernel) rfl ?_
        refine zwic_ne (q := 25) (nx := 22) (by decide +kernel) (fun c3 => ?_) (fun c3 => ?_)
        · refine zwW_inc (i := 5) (c := 1) (x := iL1) (nx := 28) (by decide +kernel) rfl ⟨by omega, by omega⟩ (ls' := [(2, (w - 90)), (0, a), (0, b), (0, c), (0, (i_byt a)), (0, (iL1 + 1))]) rfl ?_
          refine zwW_p [(24, 7, 0)] (q := 7) (ls' := [(2, (w - 90)), (0, a), (0, b), (0, c), (0, (i_byt a)), (0, (iL1 + 1))]) (st' := []) (by decide +kernel) rfl ?_
          exact IHL1 ((1000 - (iL1 + 1))).toNat (by omega) (iL1 + 1) rfl (by omega) (fun j j1 j2 => by by_cases z : (j : Int) < iL1; exact iL1_1 j j1 z; (rw [show j = (iL1).toNat by omega]; omega))
        · refine zwW_p [(1, 5, 0)] (q := 24) (ls' := [(2, (w - 90)), (0, a), (0, b), (0, c), (0, (i_byt a)), (0, iL1)]) (st' := [(0, iL1)]) (by decide +kernel) rfl ?_
          refine zwW_ret (nx := 25) (a := 0) (b := 0) (by decide +kernel) rfl (Or.inl rfl) ?_
          exact ⟨rfl, by omega, by omega, by first | exact Or.inr ⟨by omega, by omega, by omega⟩ | exact Or.inl ⟨rfl, fun j j1 j2 => iL1_1 j j1 (by omega)⟩⟩
  exact L1 _ b rfl (by omega) (fun j j1 j2 => by omega)
-- java/lang/StringLatin1.indexOf([BIII)I
theorem m278_p {sc : List Int} (h : Hp) (w a b c : Int) (q_a : -2147483648 ≤ a ∧ a ≤ 2147483647) (hw : -33 < w ∧ w ≤ -10) (p1 : 0 ≤ b ∧ b ≤ 200) (p2 : c = (zby w).length ∧ c ≤ 200) (p3 : b = 0) (p4 : 0 ≤ a ∧ a ≤ 255) : zwC sc 2 278 [(2, (w - 90)), (0, a), (0, b), (0, c)] h (zwRt 0 (fun x g => h = g ∧ (-2147483648 ≤ x ∧ x ≤ 2147483647) ∧ (-1 ≤ x ∧ x ≤ 200) ∧ ((x = -1 ∧ ∀ j : Nat, (j : Int) < ((zby w).length : Int) → (zby w).getD j 0 ≠ i_byt a) ∨ (0 ≤ x ∧ x < ((zby w).length : Int) ∧ (zby w).getD x.toNat 0 = i_byt a)))) := by
  refine zwC_of (D := 1) 4 (by decide +kernel) rfl (ls := [(2, (w - 90)), (0, a), (0, b), (0, c)]) rfl ?_
  refine zwW_p [(1, 1, 0)] (q := 1) (ls' := [(2, (w - 90)), (0, a), (0, b), (0, c)]) (st' := [(0, a)]) (by decide +kernel) rfl ?_
  refine zwW_cs (k' := 289) (n := 1) (nx := 4) (as := [(0, a)]) (st' := []) (by decide +kernel) rfl (m289 h a (by omega)) rfl ?_
  rintro x _ ⟨rfl, ⟨rfl, c1⟩ | ⟨rfl, c1⟩⟩
  · refine zwif_ne (q := 9) (nx := 7) (by decide +kernel) (fun c2 => ?_) (fun c2 => ?_)
    · refine zwW_p [(1, 2, 0), (0, 0, 0)] (q := 11) (ls' := [(2, (w - 90)), (0, a), (0, b), (0, c)]) (st' := [(0, 0), (0, b)]) (by decide +kernel) rfl ?_
      refine zwW_max (nx := 14) (by decide +kernel) rfl ?_
      intro v3 ev3
      refine zwW_p [(2, 2, 0), (1, 3, 0), (1, 0, 2)] (q := 17) (ls' := [(2, (w - 90)), (0, a), (0, v3), (0, c)]) (st' := [(2, (w - 90)), (0, c)]) (by decide +kernel) rfl ?_
      refine zwW_tlen (w := w) (nx := 18) (by decide +kernel) rfl ⟨by omega, by omega⟩ ?_
      have B17 := zby_le (w := w) ⟨by omega, by omega⟩
      refine zwW_min (nx := 21) (by decide +kernel) rfl ?_
      intro v4 ev4
      refine zwW_p [(2, 3, 0), (1, 2, 0), (1, 3, 0)] (q := 24) (ls' := [(2, (w - 90)), (0, a), (0, v3), (0, v4)]) (st' := [(0, v4), (0, v3)]) (by decide +kernel) rfl ?_
      refine zwic_lt (q := 29) (nx := 27) (by decide +kernel) (fun c5 => ?_) (fun c5 => ?_)
      · refine zwW_p [(1, 0, 2), (1, 1, 0), (1, 2, 0), (1, 3, 0)] (q := 33) (ls' := [(2, (w - 90)), (0, a), (0, v3), (0, v4)]) (st' := [(0, v4), (0, v3), (0, a), (2, (w - 90))]) (by decide +kernel) rfl ?_
        refine zwW_cs (k' := 290) (n := 4) (nx := 36) (as := [(2, (w - 90)), (0, a), (0, v3), (0, v4)]) (st' := []) (by decide +kernel) rfl (m290_p h w a v3 v4 (by omega) (by omega) (by omega) (by omega)) rfl ?_
        rintro v6 _ ⟨rfl, f7, f8, f9⟩
        refine zwW_ret (nx := 37) (a := 0) (b := 0) (by decide +kernel) rfl (Or.inl rfl) ?_
        exact ⟨rfl, by omega, by omega, by first | omega | exact Or.inl ⟨by omega, fun j hj => by omega⟩ | (rcases f9 with ⟨f1, f2⟩ | ⟨f1, f2, f3⟩ <;> first | exact Or.inl ⟨by omega, fun j hj => f2 j (by omega) (by omega)⟩ | exact Or.inr ⟨by omega, by omega, f3⟩)⟩
      · refine zwW_p [(0, -1, 0)] (q := 28) (ls' := [(2, (w - 90)), (0, a), (0, v3), (0, v4)]) (st' := [(0, -1)]) (by decide +kernel) rfl ?_
        refine zwW_ret (nx := 29) (a := 0) (b := 0) (by decide +kernel) rfl (Or.inl rfl) ?_
        exact ⟨rfl, by omega, by omega, by first | omega | exact Or.inl ⟨by omega, fun j hj => by omega⟩ | (rcases {F2} with ⟨f1, f2⟩ | ⟨f1, f2, f3⟩ <;> first | exact Or.inl ⟨by omega, fun j hj => f2 j (by omega) (by omega)⟩ | exact Or.inr ⟨by omega, by omega, f3⟩)⟩
    · exfalso; omega
  · refine zwif_ne (q := 9) (nx := 7) (by decide +kernel) (fun c10 => ?_) (fun c10 => ?_)
    · exfalso; omega
    · refine zwW_p [(0, -1, 0)] (q := 8) (ls' := [(2, (w - 90)), (0, a), (0, b), (0, c)]) (st' := [(0, -1)]) (by decide +kernel) rfl ?_
      refine zwW_ret (nx := 9) (a := 0) (b := 0) (by decide +kernel) rfl (Or.inl rfl) ?_
      exact ⟨rfl, by omega, by omega, by first | omega | exact Or.inl ⟨by omega, fun j hj => by omega⟩ | (rcases {F2} with ⟨f1, f2⟩ | ⟨f1, f2, f3⟩ <;> first | exact Or.inl ⟨by omega, fun j hj => f2 j (by omega) (by omega)⟩ | exact Or.inr ⟨by omega, by omega, f3⟩)⟩
-- java/lang/String.indexOf(II)I
theorem m261_p {sc : List Int} (h : Hp) (w a b : Int) (q_a : -2147483648 ≤ a ∧ a ≤ 2147483647) (hw : -33 < w ∧ w ≤ -10) (p1 : 0 ≤ b ∧ b ≤ 200) (p3 : b = 0) (p4 : 0 ≤ a ∧ a ≤ 255) : zwC sc 3 261 [(2, w), (0, a), (0, b)] h (zwRt 0 (fun x g => h = g ∧ (-2147483648 ≤ x ∧ x ≤ 2147483647) ∧ (-1 ≤ x ∧ x ≤ 200) ∧ ((x = -1 ∧ ∀ j : Nat, (j : Int) < ((zby w).length : Int) → (zby w).getD j 0 ≠ i_byt a) ∨ (0 ≤ x ∧ x < ((zby w).length : Int) ∧ (zby w).getD x.toNat 0 = i_byt a)))) := by
  refine zwC_of (D := 2) 3 (by decide +kernel) rfl (ls := [(2, w), (0, a), (0, b)]) rfl ?_
  refine zwW_p [(1, 0, 2)] (q := 1) (ls' := [(2, w), (0, a), (0, b)]) (st' := [(2, w)]) (by decide +kernel) rfl ?_
  refine zwW_cst (op := 60) (k' := 277) (n := 0) (nx := 4) (w := w) (tl := []) (st' := []) (by decide +kernel) rfl (by decide +kernel) ⟨by omega, by omega⟩ rfl (m277 h w (by omega)) ?_
  rintro x _ ⟨rfl, rfl⟩
  refine zwif_eq (q := 23) (nx := 7) (by decide +kernel) (fun c1 => ?_) (fun c1 => ?_)
  · exfalso; omega
  · refine zwW_p [(1, 0, 2)] (q := 8) (ls' := [(2, w), (0, a), (0, b)]) (st' := [(2, w)]) (by decide +kernel) rfl ?_
    refine zwW_sval (nx := 11) (by decide +kernel) ⟨by omega, by omega⟩ ?_
    refine zwW_p [(1, 1, 0), (1, 2, 0), (1, 0, 2)] (q := 14) (ls' := [(2, w), (0, a), (0, b)]) (st' := [(2, w), (0, b), (0, a), (2, (w - 90))]) (by decide +kernel) rfl ?_
    refine zwW_cst (op := 60) (k' := 265) (n := 0) (nx := 17) (w := w) (tl := []) (st' := [(0, b), (0, a), (2, (w - 90))]) (by decide +kernel) rfl (by decide +kernel) ⟨by omega, by omega⟩ rfl (m265 h w (by omega)) ?_
    rintro v2 _ ⟨rfl, f3, f4, f5⟩
    refine zwW_cs (k' := 278) (n := 4) (nx := 20) (as := [(2, (w - 90)), (0, a), (0, b), (0, v2)]) (st' := []) (by decide +kernel) rfl (m278_p h w a b v2 (by omega) (by omega) (by omega) (by omega) (by omega) (by omega)) rfl ?_
    rintro v6 _ ⟨rfl, f7, f8, f9⟩
    refine zwW_p [(24, 36, 0)] (q := 36) (ls' := [(2, w), (0, a), (0, b)]) (st' := [(0, v6)]) (by decide +kernel) rfl ?_
    refine zwW_ret (nx := 37) (a := 0) (b := 0) (by decide +kernel) rfl (Or.inl rfl) ?_
    exact ⟨rfl, by omega, by omega, by exact f9⟩
-- java/lang/String.indexOf(I)I
theorem m240_p {sc : List Int} (h : Hp) (w a : Int) (q_a : -2147483648 ≤ a ∧ a ≤ 2147483647) (hw : -33 < w ∧ w ≤ -10) (p4 : 0 ≤ a ∧ a ≤ 255) : zwC sc 4 240 [(2, w), (0, a)] h (zwRt 0 (fun x g => h = g ∧ (-2147483648 ≤ x ∧ x ≤ 2147483647) ∧ (-1 ≤ x ∧ x ≤ 200) ∧ ((x = -1 ∧ ∀ j : Nat, (j : Int) < ((zby w).length : Int) → (zby w).getD j 0 ≠ i_byt a) ∨ (0 ≤ x ∧ x < ((zby w).length : Int) ∧ (zby w).getD x.toNat 0 = i_byt a)))) := by
  refine zwC_of (D := 3) 2 (by decide +kernel) rfl (ls := [(2, w), (0, a)]) rfl ?_
  refine zwW_p [(1, 0, 2), (1, 1, 0), (0, 0, 0)] (q := 3) (ls' := [(2, w), (0, a)]) (st' := [(0, 0), (0, a), (2, w)]) (by decide +kernel) rfl ?_
  refine zwW_cst (op := 60) (k' := 261) (n := 2) (nx := 6) (w := w) (tl := [(0, a), (0, 0)]) (st' := []) (by decide +kernel) rfl (by decide +kernel) ⟨by omega, by omega⟩ rfl (m261_p h w a 0 (by omega) (by omega) (by omega) (by omega) (by omega)) ?_
  rintro v1 _ ⟨rfl, f2, f3, f4⟩
  refine zwW_ret (nx := 7) (a := 0) (b := 0) (by decide +kernel) rfl (Or.inl rfl) ?_
  exact ⟨rfl, by omega, by omega, by exact f4⟩
