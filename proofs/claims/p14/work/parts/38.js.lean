/-! contracts of methods -/
-- jdk/internal/util/Preconditions.checkIndex(IILjava/util/function/BiFunction;)I
theorem m251 {sc : List Int} (h : Hp) (a b c : Int) (q_a : -2147483648 ≤ a ∧ a ≤ 2147483647) (p1 : 0 ≤ a) (p2 : a < b) : zwC sc 1 251 [(0, a), (0, b), (2, c)] h (zwRt 0 (fun x g => h = g ∧ (-2147483648 ≤ x ∧ x ≤ 2147483647) ∧ (x = a))) := by
  refine zwC_of (D := 0) 3 (by decide +kernel) rfl (ls := [(0, a), (0, b), (2, c)]) rfl ?_
  refine zwW_p [(1, 0, 0)] (q := 1) (ls' := [(0, a), (0, b), (2, c)]) (st' := [(0, a)]) (by decide +kernel) rfl ?_
  refine zwif_lt (q := 9) (nx := 4) (by decide +kernel) (fun c1 => ?_) (fun c1 => ?_)
  · exfalso; omega
  · refine zwW_p [(1, 0, 0), (1, 1, 0)] (q := 6) (ls' := [(0, a), (0, b), (2, c)]) (st' := [(0, b), (0, a)]) (by decide +kernel) rfl ?_
    refine zwic_lt (q := 16) (nx := 9) (by decide +kernel) (fun c2 => ?_) (fun c2 => ?_)
    · refine zwW_p [(1, 0, 0)] (q := 17) (ls' := [(0, a), (0, b), (2, c)]) (st' := [(0, a)]) (by decide +kernel) rfl ?_
      refine zwW_ret (nx := 18) (a := 0) (b := 0) (by decide +kernel) rfl (Or.inl rfl) ?_
      exact ⟨rfl, by omega, by omega⟩
    · exfalso; omega
-- java/lang/String.checkIndex(II)V
theorem m293 {sc : List Int} (h : Hp) (a b : Int) (q_a : -2147483648 ≤ a ∧ a ≤ 2147483647) (p1 : 0 ≤ a) (p2 : a < b) : zwC sc 2 293 [(0, a), (0, b)] h (zwRv (fun g => h = g)) := by
  refine zwC_of (D := 1) 2 (by decide +kernel) rfl (ls := [(0, a), (0, b)]) rfl ?_
  refine zwW_p [(1, 0, 0), (1, 1, 0)] (q := 2) (ls' := [(0, a), (0, b)]) (st' := [(0, b), (0, a)]) (by decide +kernel) rfl ?_
  refine zwW_gs1 (nx := 5) (by decide +kernel) ?_
  refine zwW_cs (k' := 251) (n := 3) (nx := 8) (as := [(0, a), (0, b), (2, -3)]) (st' := []) (by decide +kernel) rfl (m251 h a b (-3) (by omega) (by omega) (by omega)) rfl ?_
  rintro v1 _ ⟨rfl, f2, f3⟩
  refine zwW_p [(15, 0, 0)] (q := 9) (ls' := [(0, a), (0, b)]) (st' := []) (by decide +kernel) rfl ?_
  refine zwW_retv (nx := 10) (a := 0) (b := 0) (by decide +kernel) ?_
  exact rfl
-- java/lang/String.isLatin1()Z
theorem m277 {sc : List Int} (h : Hp) (w : Int) (hw : -33 < w ∧ w ≤ -10) : zwC sc 1 277 [(2, w)] h (zwRt 0 (fun x g => h = g ∧ x = 1)) := by
  refine zwC_of (D := 0) 1 (by decide +kernel) rfl (ls := [(2, w)]) rfl ?_
  refine zwW_gs0 (nx := 3) (by decide +kernel) ?_
  refine zwif_eq (q := 17) (nx := 6) (by decide +kernel) (fun c1 => ?_) (fun c1 => ?_)
  · exfalso; omega
  · refine zwW_p [(1, 0, 2)] (q := 7) (ls' := [(2, w)]) (st' := [(2, w)]) (by decide +kernel) rfl ?_
    refine zwW_scod (nx := 10) (by decide +kernel) ⟨by omega, by omega⟩ ?_
    refine zwif_ne (q := 17) (nx := 13) (by decide +kernel) (fun c2 => ?_) (fun c2 => ?_)
    · exfalso; omega
    · refine zwW_p [(0, 1, 0), (24, 18, 0)] (q := 18) (ls' := [(2, w)]) (st' := [(0, 1)]) (by decide +kernel) rfl ?_
      refine zwW_ret (nx := 19) (a := 1) (b := 0) (by decide +kernel) rfl (Or.inr (Or.inl ⟨rfl, by omega⟩)) ?_
      exact ⟨rfl, by omega⟩
-- java/lang/String.coder()B
theorem m282 {sc : List Int} (h : Hp) (w : Int) (hw : -33 < w ∧ w ≤ -10) : zwC sc 1 282 [(2, w)] h (zwRt 0 (fun x g => h = g ∧ x = 0)) := by
  refine zwC_of (D := 0) 1 (by decide +kernel) rfl (ls := [(2, w)]) rfl ?_
  refine zwW_gs0 (nx := 3) (by decide +kernel) ?_
  refine zwif_eq (q := 13) (nx := 6) (by decide +kernel) (fun c1 => ?_) (fun c1 => ?_)
  · exfalso; omega
  · refine zwW_p [(1, 0, 2)] (q := 7) (ls' := [(2, w)]) (st' := [(2, w)]) (by decide +kernel) rfl ?_
    refine zwW_scod (nx := 10) (by decide +kernel) ⟨by omega, by omega⟩ ?_
    refine zwW_p [(24, 14, 0)] (q := 14) (ls' := [(2, w)]) (st' := [(0, 0)]) (by decide +kernel) rfl ?_
    refine zwW_ret (nx := 15) (a := 3) (b := 0) (by decide +kernel) rfl (Or.inr (Or.inr (Or.inr ⟨rfl, by omega, by omega⟩))) ?_
    exact ⟨rfl, by omega⟩
-- java/lang/String.length()I
theorem m265 {sc : List Int} (h : Hp) (w : Int) (hw : -33 < w ∧ w ≤ -10) : zwC sc 2 265 [(2, w)] h (zwRt 0 (fun x g => h = g ∧ (-2147483648 ≤ x ∧ x ≤ 2147483647) ∧ (x = ((zby w).length : Int)) ∧ (0 ≤ x ∧ x ≤ 200))) := by
  refine zwC_of (D := 1) 1 (by decide +kernel) rfl (ls := [(2, w)]) rfl ?_
  refine zwW_p [(1, 0, 2)] (q := 1) (ls' := [(2, w)]) (st' := [(2, w)]) (by decide +kernel) rfl ?_
  refine zwW_sval (nx := 4) (by decide +kernel) ⟨by omega, by omega⟩ ?_
  refine zwW_tlen (w := w) (nx := 5) (by decide +kernel) rfl ⟨by omega, by omega⟩ ?_
  have B4 := zby_le (w := w) ⟨by omega, by omega⟩
  refine zwW_p [(1, 0, 2)] (q := 6) (ls' := [(2, w)]) (st' := [(2, w), (0, ((zby w).length : Int))]) (by decide +kernel) rfl ?_
  refine zwW_cst (op := 60) (k' := 282) (n := 0) (nx := 9) (w := w) (tl := []) (st' := [(0, ((zby w).length : Int))]) (by decide +kernel) rfl (by decide +kernel) ⟨by omega, by omega⟩ rfl (m282 h w (by omega)) ?_
  rintro x _ ⟨rfl, rfl⟩
  refine zwW_ib (a := 9) (nx := 10) (z := ((zby w).length : Int)) (by decide +kernel) (show some (i_shr _ 0) = some _ by unfold i_shr; simp) ?_
  refine zwW_ret (nx := 11) (a := 0) (b := 0) (by decide +kernel) rfl (Or.inl rfl) ?_
  exact ⟨rfl, by omega, by omega, by omega⟩
-- java/lang/StringLatin1.charAt([BI)C
theorem m283 {sc : List Int} (h : Hp) (w a : Int) (q_a : -2147483648 ≤ a ∧ a ≤ 2147483647) (hw : -33 < w ∧ w ≤ -10) (p1 : 0 ≤ a) (p2 : a < (zby w).length) : zwC sc 3 283 [(2, (w - 90)), (0, a)] h (zwRt 0 (fun x g => h = g ∧ (-2147483648 ≤ x ∧ x ≤ 2147483647) ∧ (x = (zby w).getD a.toNat 0) ∧ (0 ≤ x ∧ x ≤ 127))) := by
  refine zwC_of (D := 2) 2 (by decide +kernel) rfl (ls := [(2, (w - 90)), (0, a)]) rfl ?_
  have B0 := zby_at hw (i := a.toNat) (by omega)
  refine zwW_p [(1, 1, 0), (1, 0, 2)] (q := 2) (ls' := [(2, (w - 90)), (0, a)]) (st' := [(2, (w - 90)), (0, a)]) (by decide +kernel) rfl ?_
  refine zwW_tlen (w := w) (nx := 3) (by decide +kernel) rfl ⟨by omega, by omega⟩ ?_
  have B2 := zby_le (w := w) ⟨by omega, by omega⟩
  refine zwW_csv (k' := 293) (n := 2) (nx := 6) (as := [(0, a), (0, ((zby w).length : Int))]) (st' := []) (by decide +kernel) rfl (m293 h a ((zby w).length : Int) (by omega) (by omega) (by omega)) rfl ?_
  rintro _ rfl
  refine zwW_p [(1, 0, 2), (1, 1, 0)] (q := 8) (ls' := [(2, (w - 90)), (0, a)]) (st' := [(0, a), (2, (w - 90))]) (by decide +kernel) rfl ?_
  refine zwW_tld (w := w) (nx := 9) (by decide +kernel) rfl ⟨by omega, by omega⟩ ⟨by omega, by omega⟩ ?_
  have B8 := zby_at (w := w) ⟨by omega, by omega⟩ (i := a.toNat) (by omega)
  refine zwW_p [(0, 255, 0)] (q := 12) (ls' := [(2, (w - 90)), (0, a)]) (st' := [(0, 255), (0, ((zby w).getD a.toNat 0))]) (by decide +kernel) rfl ?_
  refine zwW_ib (a := 5) (nx := 13) (by decide +kernel) rfl ?_
  refine zwW_i2c (nx := 14) (by decide +kernel) ?_
  refine zwW_ret (nx := 15) (a := 2) (b := 0) (by decide +kernel) rfl (Or.inr (Or.inr (Or.inl ⟨rfl, by omega, by omega⟩))) ?_
  exact ⟨rfl, by omega, by omega, by omega⟩
-- java/lang/String.charAt(I)C
theorem m266 {sc : List Int} (h : Hp) (w a : Int) (q_a : -2147483648 ≤ a ∧ a ≤ 2147483647) (hw : -33 < w ∧ w ≤ -10) (p1 : 0 ≤ a) (p2 : a < (zby w).length) : zwC sc 4 266 [(2, w), (0, a)] h (zwRt 0 (fun x g => h = g ∧ (-2147483648 ≤ x ∧ x ≤ 2147483647) ∧ (x = (zby w).getD a.toNat 0) ∧ (0 ≤ x ∧ x ≤ 127))) := by
  refine zwC_of (D := 3) 2 (by decide +kernel) rfl (ls := [(2, w), (0, a)]) rfl ?_
  refine zwW_p [(1, 0, 2)] (q := 1) (ls' := [(2, w), (0, a)]) (st' := [(2, w)]) (by decide +kernel) rfl ?_
  refine zwW_cst (op := 60) (k' := 277) (n := 0) (nx := 4) (w := w) (tl := []) (st' := []) (by decide +kernel) rfl (by decide +kernel) ⟨by omega, by omega⟩ rfl (m277 h w (by omega)) ?_
  rintro x _ ⟨rfl, rfl⟩
  refine zwif_eq (q := 16) (nx := 7) (by decide +kernel) (fun c1 => ?_) (fun c1 => ?_)
  · exfalso; omega
  · refine zwW_p [(1, 0, 2)] (q := 8) (ls' := [(2, w), (0, a)]) (st' := [(2, w)]) (by decide +kernel) rfl ?_
    refine zwW_sval (nx := 11) (by decide +kernel) ⟨by omega, by omega⟩ ?_
    refine zwW_p [(1, 1, 0)] (q := 12) (ls' := [(2, w), (0, a)]) (st' := [(0, a), (2, (w - 90))]) (by decide +kernel) rfl ?_
    refine zwW_cs (k' := 283) (n := 2) (nx := 15) (as := [(2, (w - 90)), (0, a)]) (st' := []) (by decide +kernel) rfl (m283 h w a (by omega) (by omega) (by omega) (by omega)) rfl ?_
    rintro v2 _ ⟨rfl, f3, f4, f5⟩
    refine zwW_ret (nx := 16) (a := 2) (b := 0) (by decide +kernel) rfl (Or.inr (Or.inr (Or.inl ⟨rfl, by omega, by omega⟩))) ?_
    exact ⟨rfl, by omega, by omega, by omega⟩
-- java/util/Objects.checkIndex(II)I
theorem m204 {sc : List Int} (h : Hp) (a b : Int) (q_a : -2147483648 ≤ a ∧ a ≤ 2147483647) (p1 : 0 ≤ a) (p2 : a < b) : zwC sc 2 204 [(0, a), (0, b)] h (zwRt 0 (fun x g => h = g ∧ (-2147483648 ≤ x ∧ x ≤ 2147483647) ∧ (x = a))) := by
  refine zwC_of (D := 1) 2 (by decide +kernel) rfl (ls := [(0, a), (0, b)]) rfl ?_
  refine zwW_p [(1, 0, 0), (1, 1, 0), (0, 0, 2)] (q := 3) (ls' := [(0, a), (0, b)]) (st' := [(2, 0), (0, b), (0, a)]) (by decide +kernel) rfl ?_
  refine zwW_cs (k' := 251) (n := 3) (nx := 6) (as := [(0, a), (0, b), (2, 0)]) (st' := []) (by decide +kernel) rfl (m251 h a b 0 (by omega) (by omega) (by omega)) rfl ?_
  rintro v1 _ ⟨rfl, f2, f3⟩
  refine zwW_ret (nx := 7) (a := 0) (b := 0) (by decide +kernel) rfl (Or.inl rfl) ?_
  exact ⟨rfl, by omega, by omega⟩
-- jdk/internal/util/ArraysSupport.newLength(III)I
theorem m274 {sc : List Int} (h : Hp) (a b c : Int) (p1 : 0 ≤ a ∧ a ≤ 1000) (p2 : 1 ≤ b ∧ b ≤ 1000) (p3 : 0 ≤ c ∧ c ≤ 1000) : zwC sc 1 274 [(0, a), (0, b), (0, c)] h (zwRt 0 (fun x g => h = g ∧ (-2147483648 ≤ x ∧ x ≤ 2147483647) ∧ (x = a + max b c))) := by
  refine zwC_of (D := 0) 4 (by decide +kernel) rfl (ls := [(0, a), (0, b), (0, c), (9, 0)]) rfl ?_
  refine zwW_p [(1, 0, 0), (1, 1, 0), (1, 2, 0)] (q := 3) (ls' := [(0, a), (0, b), (0, c), (9, 0)]) (st' := [(0, c), (0, b), (0, a)]) (by decide +kernel) rfl ?_
  refine zwW_max (nx := 6) (by decide +kernel) rfl ?_
  intro v1 ev1
  refine zwW_add (nx := 7) (by decide +kernel) ⟨by omega, by omega⟩ ?_
  refine zwW_p [(2, 3, 0), (0, 0, 0), (1, 3, 0)] (q := 10) (ls' := [(0, a), (0, b), (0, c), (0, (a + v1))]) (st' := [(0, (a + v1)), (0, 0)]) (by decide +kernel) rfl ?_
  refine zwic_ge (q := 21) (nx := 13) (by decide +kernel) (fun c2 => ?_) (fun c2 => ?_)
  · exfalso; omega
  · refine zwW_p [(1, 3, 0), (0, 2147483639, 0)] (q := 16) (ls' := [(0, a), (0, b), (0, c), (0, (a + v1))]) (st' := [(0, 2147483639), (0, (a + v1))]) (by decide +kernel) rfl ?_
    refine zwic_gt (q := 21) (nx := 19) (by decide +kernel) (fun c3 => ?_) (fun c3 => ?_)
    · exfalso; omega
    · refine zwW_p [(1, 3, 0)] (q := 20) (ls' := [(0, a), (0, b), (0, c), (0, (a + v1))]) (st' := [(0, (a + v1))]) (by decide +kernel) rfl ?_
      refine zwW_ret (nx := 21) (a := 0) (b := 0) (by decide +kernel) rfl (Or.inl rfl) ?_
      exact ⟨rfl, by omega, by omega⟩
