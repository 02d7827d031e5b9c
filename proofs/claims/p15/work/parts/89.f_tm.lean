/-! joined: 89.f_tm 89.g_det -/
section
/-! contracts of methods -/
def ms119_q : Zms := [(37, 37, 41, 42), (98, 98, 0, 400)]
-- WheelLandModel.feeds(I)V
theorem m119_q {sc : List Int} (h : Hp) (I : zI h) (a : Int) (f : Nat → Int) (n : Nat) (q_a : -2147483648 ≤ a ∧ a ≤ 2147483647) (hf : fld h 98 = f) (hn : fld h 37 41 = (n : Int)) (hr : n ≤ 396) : zwC sc 1 119 [(2, 37), (0, a)] h (zwRv (fun g => zI g ∧ zMR ms119_q h g ∧ (fld g 98 = fBm f n a 4) ∧ (fld g 37 41 = (n : Int) + 4))) := by
  refine zwC_of (D := 0) 3 (by decide +kernel) rfl (ls := [(2, 37), (0, a), (9, 0)]) rfl ?_
  have R : zMR ms119_q h h := zMR.rf _ _
  refine zwW_p [(0, 3, 0), (2, 2, 0)] (q := 2) (ls' := [(2, 37), (0, a), (0, 3)]) (st' := []) (by decide +kernel) rfl ?_
  have L1 : ∀ (n0 : Nat) (kL1 : Int) (hL1 : Hp), n0 = ((kL1 + 1)).toNat → (fld hL1 98 = fBm f n a (3 - kL1).toNat) → (-1 ≤ kL1 ∧ kL1 ≤ 3) → (fld hL1 37 41 = (n : Int) + 3 - kL1) → zI hL1 → zMR ms119_q h hL1 → zwW sc (0) 119 2 [(2, 37), (0, a), (0, kL1)] [] hL1 (zwRv (fun g => zI g ∧ zMR ms119_q h g ∧ (fld g 98 = fBm f n a 4) ∧ (fld g 37 41 = (n : Int) + 4))) := by
    intro n0
    induction n0 using Nat.strongRecOn with
    | ind n0 IHL1 =>
      intro kL1 hL1 hnL1 iL1_0 iL1_1 iL1_2 IhL1 RhL1
      refine zwW_p [(1, 2, 0)] (q := 3) (ls' := [(2, 37), (0, a), (0, kL1)]) (st' := [(0, kL1)]) (by decide +kernel) rfl ?_
      refine zwif_lt (q := 38) (nx := 6) (by decide +kernel) (fun c2 => ?_) (fun c2 => ?_)
      · refine zwW_retv (nx := 39) (a := 0) (b := 0) (by decide +kernel) ?_
        exact ⟨IhL1, RhL1, by have z := iL1_0; rwa [show (3 - kL1).toNat = 4 by omega] at z, by omega⟩
      · refine zwW_p [(1, 0, 2)] (q := 7) (ls' := [(2, 37), (0, a), (0, kL1)]) (st' := [(2, 37)]) (by decide +kernel) rfl ?_
        refine zwW_gc IhL1 (kd := 13) (bn := 40) (n := 97) (c := 98) (nx := 10) (by decide +kernel) ?_
        refine zwW_p [(1, 0, 2)] (q := 11) (ls' := [(2, 37), (0, a), (0, kL1)]) (st' := [(2, 37), (2, 98)]) (by decide +kernel) rfl ?_
        refine zwW_gs IhL1 (kd := 13) (bn := 41) (n := 97) (t := 0) (lo := 0) (hi := 400) (nx := 14) (by decide +kernel) ?_
        intro v3 ev3 lv3 uv3
        refine zwW_p [(1, 1, 0), (0, 8, 0), (1, 2, 0)] (q := 18) (ls' := [(2, 37), (0, a), (0, kL1)]) (st' := [(0, kL1), (0, 8), (0, a), (0, v3), (2, 98)]) (by decide +kernel) rfl ?_
        refine zwW_mul (nx := 19) (by decide +kernel) ⟨by omega, by omega⟩ ?_
        refine zwW_ib (a := 10) (nx := 20) (by decide +kernel) rfl ?_
        refine zwW_i2b (nx := 21) (by decide +kernel) ?_
        refine zwW_asb IhL1 (a1 := 98) (a2 := 98) (n := 400) (nx := 22) (by decide +kernel) ⟨by decide, by decide⟩ ⟨by omega, by omega⟩ ?_
        intro h4 eh4 Ih4
        have th4_37_41 : fld h4 37 41 = fld hL1 37 41 := by rw [eh4]; exact fld_wr (by omega)
        have kh4_98 : fld h4 98 = (zu (fBm f n a (3 - kL1).toNat) v3.toNat (i_byt (i_byt (i_ushr a (8 * kL1))))) := by rw [fld_zu (IhL1.s (a1 := 98) (a2 := 98) (k := 21) (n := 400) (by decide +kernel) (by decide) (by decide)) (by omega) eh4, iL1_0]
        have Rh4 : zMR ms119_q h h4 := RhL1.w (a1 := 98) (a2 := 98) (j1 := 0) (j2 := 400) (by decide +kernel) ⟨by decide, by decide⟩ ⟨by omega, by omega⟩ eh4
        have K22 : fld h4 98 = fBm f n a ((3 - kL1).toNat + 1) := kh4_98.trans (zu_cg rfl (show _ = n + (3 - kL1).toNat by omega) (by rw [i_byt2, show 8 * (3 - (((3 - kL1).toNat : Nat) : Int)) = 8 * kL1 by omega]))
        refine zwW_p [(1, 0, 2), (12, 0, 0)] (q := 24) (ls' := [(2, 37), (0, a), (0, kL1)]) (st' := [(2, 37), (2, 37)]) (by decide +kernel) rfl ?_
        refine zwW_gs Ih4 (kd := 13) (bn := 41) (n := 97) (t := 0) (lo := 0) (hi := 400) (nx := 27) (by decide +kernel) ?_
        intro v5 ev5 lv5 uv5
        refine zwW_p [(0, 1, 0)] (q := 28) (ls' := [(2, 37), (0, a), (0, kL1)]) (st' := [(0, 1), (0, v5), (2, 37)]) (by decide +kernel) rfl ?_
        refine zwW_add (nx := 29) (by decide +kernel) ⟨by omega, by omega⟩ ?_
        refine zwW_ps Ih4 (kd := 13) (bn := 41) (n := 97) (lo := 0) (hi := 400) (nx := 32) (by decide +kernel) ⟨by omega, by omega⟩ ?_
        intro h6 eh6 Ih6
        have th6_37_41 : fld h6 37 41 = (v5 + 1) := by rw [eh6]; exact fld_wr_eq (Ih4.s (a1 := 37) (a2 := 37) (k := 13) (n := 97) (by decide +kernel) (by decide) (by decide)) (by decide)
        have kh6_98 : fld h6 98 = (zu (fBm f n a (3 - kL1).toNat) v3.toNat (i_byt (i_byt (i_ushr a (8 * kL1))))) := (funext fun j => fld_oth eh6 (Or.inl (by omega))).trans kh4_98
        have Rh6 : zMR ms119_q h h6 := Rh4.w (a1 := 37) (a2 := 37) (j1 := 41) (j2 := 42) (by decide +kernel) ⟨by decide, by decide⟩ ⟨by decide, by decide⟩ eh6
        refine zwW_inc (i := 2) (c := -1) (x := kL1) (nx := 35) (by decide +kernel) rfl ⟨by omega, by omega⟩ (ls' := [(2, 37), (0, a), (0, (kL1 + (-1)))]) rfl ?_
        refine zwW_p [(24, 2, 0)] (q := 2) (ls' := [(2, 37), (0, a), (0, (kL1 + (-1)))]) (st' := []) (by decide +kernel) rfl ?_
        exact IHL1 (((kL1 + (-1)) + 1)).toNat (by omega) (kL1 + (-1)) h6 rfl (by rw [show (3 - (kL1 + -1)).toNat = (3 - kL1).toNat + 1 by omega]; exact kh6_98.trans (kh4_98.symm.trans K22)) (by omega) (by omega) Ih6 Rh6
  exact L1 _ 3 h rfl (hf) (by omega) (by omega) I R
def ms24_q : Zms := [(37, 37, 41, 42), (98, 98, 0, 400)]
-- WheelLandModel.feed(IIIII)I
theorem m24_q {sc : List Int} (h : Hp) (I : zI h) (a b c d e : Int) (f : Nat → Int) (n : Nat) (q_a : -2147483648 ≤ a ∧ a ≤ 2147483647) (q_b : -2147483648 ≤ b ∧ b ≤ 2147483647) (q_c : -2147483648 ≤ c ∧ c ≤ 2147483647) (q_d : -2147483648 ≤ d ∧ d ≤ 2147483647) (q_e : -2147483648 ≤ e ∧ e ≤ 2147483647) (hf : fld h 98 = f) (hn : fld h 37 41 = (n : Int)) : zwC sc 2 24 [(2, 37), (0, a), (0, b), (0, c), (0, d), (0, e)] h (zwRt 0 (fun x g => zI g ∧ zMR ms24_q h g ∧ (-2147483648 ≤ x ∧ x ≤ 2147483647) ∧ ((x = (n : Int) + 20 ∧ n ≤ 380 ∧ fld g 37 41 = (n : Int) + 20 ∧ fld g 98 = fB5m f n a b c d e) ∨ (x = -1 ∧ g = h ∧ 380 < n)))) := by
  refine zwC_of (D := 1) 6 (by decide +kernel) rfl (ls := [(2, 37), (0, a), (0, b), (0, c), (0, d), (0, e)]) rfl ?_
  have R : zMR ms24_q h h := zMR.rf _ _
  refine zwW_p [(1, 0, 2)] (q := 1) (ls' := [(2, 37), (0, a), (0, b), (0, c), (0, d), (0, e)]) (st' := [(2, 37)]) (by decide +kernel) rfl ?_
  refine zwW_gs I (kd := 13) (bn := 41) (n := 97) (t := 0) (lo := 0) (hi := 400) (nx := 4) (by decide +kernel) ?_
  intro v1 ev1 lv1 uv1
  refine zwW_p [(0, 20, 0)] (q := 6) (ls' := [(2, 37), (0, a), (0, b), (0, c), (0, d), (0, e)]) (st' := [(0, 20), (0, v1)]) (by decide +kernel) rfl ?_
  refine zwW_add (nx := 7) (by decide +kernel) ⟨by omega, by omega⟩ ?_
  refine zwW_p [(0, 400, 0)] (q := 10) (ls' := [(2, 37), (0, a), (0, b), (0, c), (0, d), (0, e)]) (st' := [(0, 400), (0, (v1 + 20))]) (by decide +kernel) rfl ?_
  refine zwic_le (q := 15) (nx := 13) (by decide +kernel) (fun c2 => ?_) (fun c2 => ?_)
  · refine zwW_p [(1, 0, 2), (1, 1, 0)] (q := 17) (ls' := [(2, 37), (0, a), (0, b), (0, c), (0, d), (0, e)]) (st' := [(0, a), (2, 37)]) (by decide +kernel) rfl ?_
    refine zwW_cmv I (op := 60) (k' := 119) (n := 1) (kd := 13) (m := 97) (nx := 20) (r := 37) (tl := [(0, a)]) (st' := []) (by decide +kernel) rfl (by decide +kernel) rfl (m119_q h I a f n (by omega) hf hn (by omega)) ?_
    rintro h5 ⟨Ih5, Qh5, f3, f4⟩
    have Rh5 : zMR ms24_q h h5 := R.tr Qh5 (by decide +kernel)
    refine zwW_p [(1, 0, 2), (1, 2, 0)] (q := 22) (ls' := [(2, 37), (0, a), (0, b), (0, c), (0, d), (0, e)]) (st' := [(0, b), (2, 37)]) (by decide +kernel) rfl ?_
    refine zwW_cmv Ih5 (op := 60) (k' := 119) (n := 1) (kd := 13) (m := 97) (nx := 25) (r := 37) (tl := [(0, b)]) (st' := []) (by decide +kernel) rfl (by decide +kernel) rfl (m119_q h5 Ih5 b (fBm f n a 4) (n + 4) (by omega) f3 (by omega) (by omega)) ?_
    rintro h8 ⟨Ih8, Qh8, f6, f7⟩
    have Rh8 : zMR ms24_q h h8 := Rh5.tr Qh8 (by decide +kernel)
    refine zwW_p [(1, 0, 2), (1, 3, 0)] (q := 27) (ls' := [(2, 37), (0, a), (0, b), (0, c), (0, d), (0, e)]) (st' := [(0, c), (2, 37)]) (by decide +kernel) rfl ?_
    refine zwW_cmv Ih8 (op := 60) (k' := 119) (n := 1) (kd := 13) (m := 97) (nx := 30) (r := 37) (tl := [(0, c)]) (st' := []) (by decide +kernel) rfl (by decide +kernel) rfl (m119_q h8 Ih8 c (fBm (fBm f n a 4) (n + 4) b 4) (n + 8) (by omega) f6 (by omega) (by omega)) ?_
    rintro h11 ⟨Ih11, Qh11, f9, f10⟩
    have Rh11 : zMR ms24_q h h11 := Rh8.tr Qh11 (by decide +kernel)
    refine zwW_p [(1, 0, 2), (1, 4, 0)] (q := 33) (ls' := [(2, 37), (0, a), (0, b), (0, c), (0, d), (0, e)]) (st' := [(0, d), (2, 37)]) (by decide +kernel) rfl ?_
    refine zwW_cmv Ih11 (op := 60) (k' := 119) (n := 1) (kd := 13) (m := 97) (nx := 36) (r := 37) (tl := [(0, d)]) (st' := []) (by decide +kernel) rfl (by decide +kernel) rfl (m119_q h11 Ih11 d (fBm (fBm (fBm f n a 4) (n + 4) b 4) (n + 8) c 4) (n + 12) (by omega) f9 (by omega) (by omega)) ?_
    rintro h14 ⟨Ih14, Qh14, f12, f13⟩
    have Rh14 : zMR ms24_q h h14 := Rh11.tr Qh14 (by decide +kernel)
    refine zwW_p [(1, 0, 2), (1, 5, 0)] (q := 39) (ls' := [(2, 37), (0, a), (0, b), (0, c), (0, d), (0, e)]) (st' := [(0, e), (2, 37)]) (by decide +kernel) rfl ?_
    refine zwW_cmv Ih14 (op := 60) (k' := 119) (n := 1) (kd := 13) (m := 97) (nx := 42) (r := 37) (tl := [(0, e)]) (st' := []) (by decide +kernel) rfl (by decide +kernel) rfl (m119_q h14 Ih14 e (fBm (fBm (fBm (fBm f n a 4) (n + 4) b 4) (n + 8) c 4) (n + 12) d 4) (n + 16) (by omega) f12 (by omega) (by omega)) ?_
    rintro h17 ⟨Ih17, Qh17, f15, f16⟩
    have Rh17 : zMR ms24_q h h17 := Rh14.tr Qh17 (by decide +kernel)
    refine zwW_p [(1, 0, 2)] (q := 43) (ls' := [(2, 37), (0, a), (0, b), (0, c), (0, d), (0, e)]) (st' := [(2, 37)]) (by decide +kernel) rfl ?_
    refine zwW_gs Ih17 (kd := 13) (bn := 41) (n := 97) (t := 0) (lo := 0) (hi := 400) (nx := 46) (by decide +kernel) ?_
    intro v18 ev18 lv18 uv18
    refine zwW_ret (nx := 47) (a := 0) (b := 0) (by decide +kernel) rfl (Or.inl rfl) ?_
    exact ⟨Ih17, Rh17, by omega, by first | exact Or.inr ⟨by omega, rfl, by omega⟩ | exact Or.inl ⟨by omega, by omega, by omega, f15⟩⟩
  · refine zwW_p [(0, -1, 0)] (q := 14) (ls' := [(2, 37), (0, a), (0, b), (0, c), (0, d), (0, e)]) (st' := [(0, -1)]) (by decide +kernel) rfl ?_
    refine zwW_ret (nx := 15) (a := 0) (b := 0) (by decide +kernel) rfl (Or.inl rfl) ?_
    exact ⟨I, R, by omega, by first | exact Or.inr ⟨by omega, rfl, by omega⟩ | exact Or.inl ⟨by omega, by omega, by omega, rfl⟩⟩
def ms26_q : Zms := [(37, 37, 41, 42)]
-- WheelLandModel.end(I)Z
theorem m26_q {sc : List Int} (h : Hp) (I : zI h) (a : Int) : zwC sc 2 26 [(2, 37), (0, a)] h (zwRt 0 (fun x g => zI g ∧ zMR ms26_q h g ∧ (-2147483648 ≤ x ∧ x ≤ 2147483647) ∧ ((x = 1 ∧ fld g 37 41 = a ∧ 0 ≤ a ∧ a ≤ fld h 37 41) ∨ (x = 0 ∧ g = h ∧ (a < 0 ∨ fld h 37 41 < a))))) := by
  refine zwC_of (D := 1) 2 (by decide +kernel) rfl (ls := [(2, 37), (0, a)]) rfl ?_
  have R : zMR ms26_q h h := zMR.rf _ _
  refine zwW_p [(1, 1, 0), (7, 0, 0), (0, 0, 1), (1, 0, 2)] (q := 4) (ls' := [(2, 37), (0, a)]) (st' := [(2, 37), (1, 0), (1, a)]) (by decide +kernel) rfl ?_
  refine zwW_gs I (kd := 13) (bn := 41) (n := 97) (t := 0) (lo := 0) (hi := 400) (nx := 7) (by decide +kernel) ?_
  intro v1 ev1 lv1 uv1
  refine zwW_p [(7, 0, 0)] (q := 8) (ls' := [(2, 37), (0, a)]) (st' := [(1, v1), (1, 0), (1, a)]) (by decide +kernel) rfl ?_
  refine zwW_cs (k' := 101) (n := 3) (nx := 11) (as := [(1, a), (1, 0), (1, v1)]) (st' := []) (by decide +kernel) rfl (m101 h a 0 v1) rfl ?_
  rintro x _ ⟨rfl, ⟨rfl, c2⟩ | ⟨rfl, c2⟩⟩
  · refine zwif_ne (q := 16) (nx := 14) (by decide +kernel) (fun c3 => ?_) (fun c3 => ?_)
    · refine zwW_p [(1, 0, 2), (1, 1, 0)] (q := 18) (ls' := [(2, 37), (0, a)]) (st' := [(0, a), (2, 37)]) (by decide +kernel) rfl ?_
      refine zwW_ps I (kd := 13) (bn := 41) (n := 97) (lo := 0) (hi := 400) (nx := 21) (by decide +kernel) ⟨by omega, by omega⟩ ?_
      intro h4 eh4 Ih4
      have th4_37_41 : fld h4 37 41 = a := by rw [eh4]; exact fld_wr_eq (I.s (a1 := 37) (a2 := 37) (k := 13) (n := 97) (by decide +kernel) (by decide) (by decide)) (by decide)
      have Rh4 : zMR ms26_q h h4 := R.w (a1 := 37) (a2 := 37) (j1 := 41) (j2 := 42) (by decide +kernel) ⟨by decide, by decide⟩ ⟨by decide, by decide⟩ eh4
      refine zwW_p [(0, 1, 0)] (q := 22) (ls' := [(2, 37), (0, a)]) (st' := [(0, 1)]) (by decide +kernel) rfl ?_
      refine zwW_ret (nx := 23) (a := 1) (b := 0) (by decide +kernel) rfl (Or.inr (Or.inl ⟨rfl, by omega⟩)) ?_
      exact ⟨Ih4, Rh4, by omega, by first | exact Or.inr ⟨by omega, rfl, by omega⟩ | exact Or.inl ⟨by omega, by omega, by omega, by omega⟩⟩
    · exfalso; omega
  · refine zwif_ne (q := 16) (nx := 14) (by decide +kernel) (fun c5 => ?_) (fun c5 => ?_)
    · exfalso; omega
    · refine zwW_p [(0, 0, 0)] (q := 15) (ls' := [(2, 37), (0, a)]) (st' := [(0, 0)]) (by decide +kernel) rfl ?_
      refine zwW_ret (nx := 16) (a := 1) (b := 0) (by decide +kernel) rfl (Or.inr (Or.inl ⟨rfl, by omega⟩)) ?_
      exact ⟨I, R, by omega, by first | exact Or.inr ⟨by omega, rfl, by omega⟩ | exact Or.inl ⟨by omega, by omega, by omega, by omega⟩⟩
def ms30_q : Zms := [(37, 37, 41, 42), (37, 37, 42, 47), (37, 37, 47, 48), (37, 37, 52, 53), (101, 153, 0, 840), (155, 163, 0, 5)]
-- WheelLandModel.sheet()I
theorem m30_q {sc : List Int} (h : Hp) (I : zI h) (t : pT) (n : Nat) (cc : Nat → Int) (B : vB t n h) : zwC sc 233 30 [(2, 37)] h (zwRt 0 (fun x g => zI g ∧ zMR ms30_q h g ∧ (-2147483648 ≤ x ∧ x ≤ 2147483647) ∧ ((x = fld h 37 52 ∧ fld g 37 52 = fld h 37 52 + 1 ∧ fld g 37 41 = 0 ∧ pFa t n cc = -1 ∧ fld h 37 52 < 8) ∨ (x = -1 ∧ fld g 37 52 = fld h 37 52 ∧ fld g 37 41 = fld h 37 41 ∧ (8 ≤ fld h 37 52 ∨ pFa t n cc ≠ -1))))) := by
  refine zwC_of (D := 232) 3 (by decide +kernel) rfl (ls := [(2, 37), (9, 0), (9, 0)]) rfl ?_
  have R : zMR ms30_q h h := zMR.rf _ _
  refine zwW_p [(1, 0, 2)] (q := 1) (ls' := [(2, 37), (9, 0), (9, 0)]) (st' := [(2, 37)]) (by decide +kernel) rfl ?_
  refine zwW_gs I (kd := 13) (bn := 52) (n := 97) (t := 0) (lo := 0) (hi := 8) (nx := 4) (by decide +kernel) ?_
  intro v1 ev1 lv1 uv1
  refine zwW_p [(0, 8, 0)] (q := 6) (ls' := [(2, 37), (9, 0), (9, 0)]) (st' := [(0, 8), (0, v1)]) (by decide +kernel) rfl ?_
  refine zwic_ne (q := 11) (nx := 9) (by decide +kernel) (fun c2 => ?_) (fun c2 => ?_)
  · refine zwW_p [(1, 0, 2)] (q := 12) (ls' := [(2, 37), (9, 0), (9, 0)]) (st' := [(2, 37)]) (by decide +kernel) rfl ?_
    refine zwW_cmv I (op := 60) (k' := 121) (n := 0) (kd := 13) (m := 97) (nx := 15) (r := 37) (tl := []) (st' := []) (by decide +kernel) rfl (by decide +kernel) rfl (m121_q h I t n cc B) ?_
    rintro h4 ⟨Ih4, Qh4, f3⟩
    have Rh4 : zMR ms30_q h h4 := R.tr Qh4 (by decide +kernel)
    have th4_37_41 : fld h4 37 41 = fld h 37 41 := Qh4.f (a1 := 37) (a2 := 37) (j1 := 41) (j2 := 42) (by decide +kernel) ⟨by decide, by decide⟩ ⟨by decide, by decide⟩
    have th4_37_52 : fld h4 37 52 = fld h 37 52 := Qh4.f (a1 := 37) (a2 := 37) (j1 := 52) (j2 := 53) (by decide +kernel) ⟨by decide, by decide⟩ ⟨by decide, by decide⟩
    have PF := f3.fx
    refine zwW_p [(1, 0, 2)] (q := 16) (ls' := [(2, 37), (9, 0), (9, 0)]) (st' := [(2, 37)]) (by decide +kernel) rfl ?_
    refine zwW_gs Ih4 (kd := 13) (bn := 44) (n := 97) (t := 0) (lo := -1) (hi := 400) (nx := 19) (by decide +kernel) ?_
    intro v5 ev5 lv5 uv5
    refine zwW_p [(0, -1, 0)] (q := 20) (ls' := [(2, 37), (9, 0), (9, 0)]) (st' := [(0, -1), (0, v5)]) (by decide +kernel) rfl ?_
    refine zwic_eq (q := 25) (nx := 23) (by decide +kernel) (fun c6 => ?_) (fun c6 => ?_)
    · refine zwW_p [(1, 0, 2), (0, 0, 0)] (q := 27) (ls' := [(2, 37), (9, 0), (9, 0)]) (st' := [(0, 0), (2, 37)]) (by decide +kernel) rfl ?_
      refine zwW_ps Ih4 (kd := 13) (bn := 41) (n := 97) (lo := 0) (hi := 400) (nx := 30) (by decide +kernel) ⟨by decide, by decide⟩ ?_
      intro h7 eh7 Ih7
      have th7_37_41 : fld h7 37 41 = 0 := by rw [eh7]; exact fld_wr_eq (Ih4.s (a1 := 37) (a2 := 37) (k := 13) (n := 97) (by decide +kernel) (by decide) (by decide)) (by decide)
      have th7_37_44 : fld h7 37 44 = fld h4 37 44 := by rw [eh7]; exact fld_wr (by decide)
      have th7_37_52 : fld h7 37 52 = fld h4 37 52 := by rw [eh7]; exact fld_wr (by decide)
      have Rh7 : zMR ms30_q h h7 := Rh4.w (a1 := 37) (a2 := 37) (j1 := 41) (j2 := 42) (by decide +kernel) ⟨by decide, by decide⟩ ⟨by decide, by decide⟩ eh7
      refine zwW_p [(0, 0, 0), (2, 1, 0)] (q := 32) (ls' := [(2, 37), (0, 0), (9, 0)]) (st' := []) (by decide +kernel) rfl ?_
      have L8 : ∀ (n0 : Nat) (cL8 : Int) (w2L8 : Vl) (hL8 : Hp), n0 = ((100 - cL8)).toNat → (0 ≤ cL8 ∧ cL8 ≤ 5) → (fld hL8 37 52 = fld h 37 52 ∧ fld hL8 37 41 = 0) → zI hL8 → zMR ms30_q h hL8 → zwW sc (232) 30 32 [(2, 37), (0, cL8), w2L8] [] hL8 (zwRt 0 (fun x g => zI g ∧ zMR ms30_q h g ∧ (-2147483648 ≤ x ∧ x ≤ 2147483647) ∧ ((x = fld h 37 52 ∧ fld g 37 52 = fld h 37 52 + 1 ∧ fld g 37 41 = 0 ∧ pFa t n cc = -1 ∧ fld h 37 52 < 8) ∨ (x = -1 ∧ fld g 37 52 = fld h 37 52 ∧ fld g 37 41 = fld h 37 41 ∧ (8 ≤ fld h 37 52 ∨ pFa t n cc ≠ -1))))) := by
        intro n0
        induction n0 using Nat.strongRecOn with
        | ind n0 IHL8 =>
          intro cL8 w2L8 hL8 hnL8 iL8_0 iL8_1 IhL8 RhL8
          refine zwW_p [(1, 1, 0), (0, 5, 0)] (q := 34) (ls' := [(2, 37), (0, cL8), w2L8]) (st' := [(0, 5), (0, cL8)]) (by decide +kernel) rfl ?_
          refine zwic_ge (q := 110) (nx := 37) (by decide +kernel) (fun c9 => ?_) (fun c9 => ?_)
          · refine zwW_p [(1, 0, 2), (12, 0, 0)] (q := 112) (ls' := [(2, 37), (0, cL8), w2L8]) (st' := [(2, 37), (2, 37)]) (by decide +kernel) rfl ?_
            refine zwW_gs IhL8 (kd := 13) (bn := 52) (n := 97) (t := 0) (lo := 0) (hi := 8) (nx := 115) (by decide +kernel) ?_
            intro v10 ev10 lv10 uv10
            refine zwW_p [(0, 1, 0)] (q := 116) (ls' := [(2, 37), (0, cL8), w2L8]) (st' := [(0, 1), (0, v10), (2, 37)]) (by decide +kernel) rfl ?_
            refine zwW_add (nx := 117) (by decide +kernel) ⟨by omega, by omega⟩ ?_
            refine zwW_ps IhL8 (kd := 13) (bn := 52) (n := 97) (lo := 0) (hi := 8) (nx := 120) (by decide +kernel) ⟨by omega, by omega⟩ ?_
            intro h11 eh11 Ih11
            have th11_37_41 : fld h11 37 41 = fld hL8 37 41 := by rw [eh11]; exact fld_wr (by decide)
            have th11_37_44 : fld h11 37 44 = fld hL8 37 44 := by rw [eh11]; exact fld_wr (by decide)
            have th11_37_52 : fld h11 37 52 = (v10 + 1) := by rw [eh11]; exact fld_wr_eq (IhL8.s (a1 := 37) (a2 := 37) (k := 13) (n := 97) (by decide +kernel) (by decide) (by decide)) (by decide)
            have Rh11 : zMR ms30_q h h11 := RhL8.w (a1 := 37) (a2 := 37) (j1 := 52) (j2 := 53) (by decide +kernel) ⟨by decide, by decide⟩ ⟨by decide, by decide⟩ eh11
            refine zwW_p [(1, 0, 2)] (q := 121) (ls' := [(2, 37), (0, cL8), w2L8]) (st' := [(2, 37)]) (by decide +kernel) rfl ?_
            refine zwW_gs Ih11 (kd := 13) (bn := 52) (n := 97) (t := 0) (lo := 0) (hi := 8) (nx := 124) (by decide +kernel) ?_
            intro v12 ev12 lv12 uv12
            refine zwW_p [(0, 1, 0)] (q := 125) (ls' := [(2, 37), (0, cL8), w2L8]) (st' := [(0, 1), (0, v12)]) (by decide +kernel) rfl ?_
            refine zwW_sub (nx := 126) (by decide +kernel) ⟨by omega, by omega⟩ ?_
            refine zwW_ret (nx := 127) (a := 0) (b := 0) (by decide +kernel) rfl (Or.inl rfl) ?_
            exact ⟨Ih11, Rh11, by omega, by omega⟩
          · refine zwW_p [(1, 0, 2)] (q := 38) (ls' := [(2, 37), (0, cL8), w2L8]) (st' := [(2, 37)]) (by decide +kernel) rfl ?_
            refine zwW_gc IhL8 (kd := 13) (bn := 49) (n := 97) (c := 154) (nx := 41) (by decide +kernel) ?_
            refine zwW_p [(1, 0, 2)] (q := 42) (ls' := [(2, 37), (0, cL8), w2L8]) (st' := [(2, 37), (2, 154)]) (by decide +kernel) rfl ?_
            refine zwW_gs IhL8 (kd := 13) (bn := 52) (n := 97) (t := 0) (lo := 0) (hi := 8) (nx := 45) (by decide +kernel) ?_
            intro v13 ev13 lv13 uv13
            refine zwW_ro IhL8 (a := 154) (n := 9) (kd := 26) (base := 155) (step := 1) (nx := 46) (by decide +kernel) rfl ⟨by omega, by omega⟩ ?_
            rw [show ((155 : Nat) : Int) + ((1 : Nat) : Int) * v13 = (155 + v13) by omega]
            refine zwW_p [(1, 1, 0), (1, 0, 2)] (q := 48) (ls' := [(2, 37), (0, cL8), w2L8]) (st' := [(2, 37), (0, cL8), (2, (155 + v13))]) (by decide +kernel) rfl ?_
            refine zwW_gc IhL8 (kd := 13) (bn := 49) (n := 97) (c := 154) (nx := 51) (by decide +kernel) ?_
            refine zwW_p [(0, 8, 0)] (q := 53) (ls' := [(2, 37), (0, cL8), w2L8]) (st' := [(0, 8), (2, 154), (0, cL8), (2, (155 + v13))]) (by decide +kernel) rfl ?_
            refine zwW_ro IhL8 (a := 154) (n := 9) (kd := 26) (base := 155) (step := 1) (nx := 54) (by decide +kernel) rfl ⟨by decide, by decide⟩ ?_
            rw [show ((155 : Nat) : Int) + ((1 : Nat) : Int) * 8 = 163 from rfl]
            refine zwW_p [(1, 1, 0)] (q := 55) (ls' := [(2, 37), (0, cL8), w2L8]) (st' := [(0, cL8), (2, 163), (0, cL8), (2, (155 + v13))]) (by decide +kernel) rfl ?_
            refine zwW_al IhL8 (a1 := 155) (a2 := 163) (kd := 20) (n := 5) (t := 0) (lo := 0) (hi := 400) (nx := 56) (by decide +kernel) ⟨by decide, by decide⟩ ⟨by omega, by omega⟩ ?_
            intro v14 ev14 lv14 uv14
            refine zwW_as IhL8 (a1 := 155) (a2 := 163) (n := 5) (lo := 0) (hi := 400) (nx := 57) (by decide +kernel) ⟨by omega, by omega⟩ ⟨by omega, by omega⟩ ⟨by omega, by omega⟩ ?_
            intro h15 eh15 Ih15
            have th15_37_41 : fld h15 37 41 = fld hL8 37 41 := by rw [eh15]; exact fld_wr (by omega)
            have th15_37_44 : fld h15 37 44 = fld hL8 37 44 := by rw [eh15]; exact fld_wr (by omega)
            have th15_37_52 : fld h15 37 52 = fld hL8 37 52 := by rw [eh15]; exact fld_wr (by omega)
            have Rh15 : zMR ms30_q h h15 := RhL8.w (a1 := 155) (a2 := 163) (j1 := 0) (j2 := 5) (by decide +kernel) ⟨by omega, by omega⟩ ⟨by omega, by omega⟩ eh15
            refine zwW_p [(0, 0, 0), (2, 2, 0)] (q := 59) (ls' := [(2, 37), (0, cL8), (0, 0)]) (st' := []) (by decide +kernel) rfl ?_
            have L16 : ∀ (n0 : Nat) (iL16 : Int) (hL16 : Hp), n0 = ((1000 - iL16)).toNat → (0 ≤ iL16 ∧ iL16 ≤ 800) → (fld hL16 37 52 = fld h 37 52 ∧ fld hL16 37 41 = 0) → zI hL16 → zMR ms30_q h hL16 → zwW sc (232) 30 59 [(2, 37), (0, cL8), (0, iL16)] [] hL16 (zwRt 0 (fun x g => zI g ∧ zMR ms30_q h g ∧ (-2147483648 ≤ x ∧ x ≤ 2147483647) ∧ ((x = fld h 37 52 ∧ fld g 37 52 = fld h 37 52 + 1 ∧ fld g 37 41 = 0 ∧ pFa t n cc = -1 ∧ fld h 37 52 < 8) ∨ (x = -1 ∧ fld g 37 52 = fld h 37 52 ∧ fld g 37 41 = fld h 37 41 ∧ (8 ≤ fld h 37 52 ∨ pFa t n cc ≠ -1))))) := by
              intro n0
              induction n0 using Nat.strongRecOn with
              | ind n0 IHL16 =>
                intro iL16 hL16 hnL16 iL16_0 iL16_1 IhL16 RhL16
                refine zwW_p [(1, 2, 0), (0, 2, 0), (1, 0, 2)] (q := 62) (ls' := [(2, 37), (0, cL8), (0, iL16)]) (st' := [(2, 37), (0, 2), (0, iL16)]) (by decide +kernel) rfl ?_
                refine zwW_gc IhL16 (kd := 13) (bn := 49) (n := 97) (c := 154) (nx := 65) (by decide +kernel) ?_
                refine zwW_p [(0, 8, 0)] (q := 67) (ls' := [(2, 37), (0, cL8), (0, iL16)]) (st' := [(0, 8), (2, 154), (0, 2), (0, iL16)]) (by decide +kernel) rfl ?_
                refine zwW_ro IhL16 (a := 154) (n := 9) (kd := 26) (base := 155) (step := 1) (nx := 68) (by decide +kernel) rfl ⟨by decide, by decide⟩ ?_
                rw [show ((155 : Nat) : Int) + ((1 : Nat) : Int) * 8 = 163 from rfl]
                refine zwW_p [(1, 1, 0)] (q := 69) (ls' := [(2, 37), (0, cL8), (0, iL16)]) (st' := [(0, cL8), (2, 163), (0, 2), (0, iL16)]) (by decide +kernel) rfl ?_
                refine zwW_al IhL16 (a1 := 155) (a2 := 163) (kd := 20) (n := 5) (t := 0) (lo := 0) (hi := 400) (nx := 70) (by decide +kernel) ⟨by decide, by decide⟩ ⟨by omega, by omega⟩ ?_
                intro v17 ev17 lv17 uv17
                refine zwW_mul (nx := 71) (by decide +kernel) ⟨by omega, by omega⟩ ?_
                refine zwic_ge (q := 104) (nx := 74) (by decide +kernel) (fun c18 => ?_) (fun c18 => ?_)
                · refine zwW_inc (i := 1) (c := 1) (x := cL8) (nx := 107) (by decide +kernel) rfl ⟨by omega, by omega⟩ (ls' := [(2, 37), (0, (cL8 + 1)), (0, iL16)]) rfl ?_
                  refine zwW_p [(24, 32, 0)] (q := 32) (ls' := [(2, 37), (0, (cL8 + 1)), (0, iL16)]) (st' := []) (by decide +kernel) rfl ?_
                  exact IHL8 ((100 - (cL8 + 1))).toNat (by omega) (cL8 + 1) (0, iL16) hL16 rfl (by omega) (by omega) IhL16 RhL16
                · refine zwW_p [(1, 0, 2)] (q := 75) (ls' := [(2, 37), (0, cL8), (0, iL16)]) (st' := [(2, 37)]) (by decide +kernel) rfl ?_
                  refine zwW_gc IhL16 (kd := 13) (bn := 48) (n := 97) (c := 99) (nx := 78) (by decide +kernel) ?_
                  refine zwW_p [(1, 0, 2)] (q := 79) (ls' := [(2, 37), (0, cL8), (0, iL16)]) (st' := [(2, 37), (2, 99)]) (by decide +kernel) rfl ?_
                  refine zwW_gs IhL16 (kd := 13) (bn := 52) (n := 97) (t := 0) (lo := 0) (hi := 8) (nx := 82) (by decide +kernel) ?_
                  intro v19 ev19 lv19 uv19
                  refine zwW_ro IhL16 (a := 99) (n := 9) (kd := 27) (base := 100) (step := 6) (nx := 83) (by decide +kernel) rfl ⟨by omega, by omega⟩ ?_
                  rw [show ((100 : Nat) : Int) + ((6 : Nat) : Int) * v19 = (100 + 6 * v19) by omega]
                  refine zwW_p [(1, 1, 0)] (q := 84) (ls' := [(2, 37), (0, cL8), (0, iL16)]) (st' := [(0, cL8), (2, (100 + 6 * v19))]) (by decide +kernel) rfl ?_
                  refine zwW_ro2 IhL16 (s := v19) (nx := 85) (by decide +kernel) (by omega) ⟨by omega, by omega⟩ ⟨by omega, by omega⟩ ?_
                  refine zwW_p [(1, 2, 0), (1, 0, 2)] (q := 87) (ls' := [(2, 37), (0, cL8), (0, iL16)]) (st' := [(2, 37), (0, iL16), (2, (101 + 6 * v19 + cL8))]) (by decide +kernel) rfl ?_
                  refine zwW_gc IhL16 (kd := 13) (bn := 48) (n := 97) (c := 99) (nx := 90) (by decide +kernel) ?_
                  refine zwW_p [(0, 8, 0)] (q := 92) (ls' := [(2, 37), (0, cL8), (0, iL16)]) (st' := [(0, 8), (2, 99), (0, iL16), (2, (101 + 6 * v19 + cL8))]) (by decide +kernel) rfl ?_
                  refine zwW_ro IhL16 (a := 99) (n := 9) (kd := 27) (base := 100) (step := 6) (nx := 93) (by decide +kernel) rfl ⟨by decide, by decide⟩ ?_
                  rw [show ((100 : Nat) : Int) + ((6 : Nat) : Int) * 8 = 148 from rfl]
                  refine zwW_p [(1, 1, 0)] (q := 94) (ls' := [(2, 37), (0, cL8), (0, iL16)]) (st' := [(0, cL8), (2, 148), (0, iL16), (2, (101 + 6 * v19 + cL8))]) (by decide +kernel) rfl ?_
                  refine zwW_ro IhL16 (a := 148) (n := 5) (kd := 26) (base := 149) (step := 1) (nx := 95) (by decide +kernel) rfl ⟨by omega, by omega⟩ ?_
                  rw [show ((149 : Nat) : Int) + ((1 : Nat) : Int) * cL8 = (149 + cL8) by omega]
                  refine zwW_p [(1, 2, 0)] (q := 96) (ls' := [(2, 37), (0, cL8), (0, iL16)]) (st' := [(0, iL16), (2, (149 + cL8)), (0, iL16), (2, (101 + 6 * v19 + cL8))]) (by decide +kernel) rfl ?_
                  refine zwW_al IhL16 (a1 := 149) (a2 := 153) (kd := 20) (n := 840) (t := 0) (lo := -2147483648) (hi := 2147483647) (nx := 97) (by decide +kernel) ⟨by omega, by omega⟩ ⟨by omega, by omega⟩ ?_
                  intro v20 ev20 lv20 uv20
                  refine zwW_as3 IhL16 (s := v19) (c := cL8) (nx := 98) (by decide +kernel) rfl ⟨by omega, by omega⟩ ⟨by omega, by omega⟩ ⟨by omega, by omega⟩ ⟨by omega, by omega⟩ ?_
                  intro h21 eh21 Ih21
                  have th21_37_41 : fld h21 37 41 = fld hL16 37 41 := by rw [eh21]; exact fld_wr (by omega)
                  have th21_37_44 : fld h21 37 44 = fld hL16 37 44 := by rw [eh21]; exact fld_wr (by omega)
                  have th21_37_52 : fld h21 37 52 = fld hL16 37 52 := by rw [eh21]; exact fld_wr (by omega)
                  have Rh21 : zMR ms30_q h h21 := RhL16.w (a1 := 101) (a2 := 153) (j1 := 0) (j2 := 840) (by decide +kernel) ⟨by omega, by omega⟩ ⟨by omega, by omega⟩ eh21
                  refine zwW_inc (i := 2) (c := 1) (x := iL16) (nx := 101) (by decide +kernel) rfl ⟨by omega, by omega⟩ (ls' := [(2, 37), (0, cL8), (0, (iL16 + 1))]) rfl ?_
                  refine zwW_p [(24, 59, 0)] (q := 59) (ls' := [(2, 37), (0, cL8), (0, (iL16 + 1))]) (st' := []) (by decide +kernel) rfl ?_
                  exact IHL16 ((1000 - (iL16 + 1))).toNat (by omega) (iL16 + 1) h21 rfl (by omega) (by omega) Ih21 Rh21
            exact L16 _ 0 h15 rfl (by omega) (by omega) Ih15 Rh15
      exact L8 _ 0 (9, 0) h7 rfl (by omega) (by omega) Ih7 Rh7
    · refine zwW_p [(0, -1, 0)] (q := 24) (ls' := [(2, 37), (9, 0), (9, 0)]) (st' := [(0, -1)]) (by decide +kernel) rfl ?_
      refine zwW_ret (nx := 25) (a := 0) (b := 0) (by decide +kernel) rfl (Or.inl rfl) ?_
      exact ⟨Ih4, Rh4, by omega, by omega⟩
  · refine zwW_p [(0, -1, 0)] (q := 10) (ls' := [(2, 37), (9, 0), (9, 0)]) (st' := [(0, -1)]) (by decide +kernel) rfl ?_
    refine zwW_ret (nx := 11) (a := 0) (b := 0) (by decide +kernel) rfl (Or.inl rfl) ?_
    exact ⟨I, R, by omega, by omega⟩
def ms32_q : Zms := [(37, 37, 53, 54), (164, 164, 0, 12), (165, 165, 0, 12)]
-- WheelLandModel.force(II)I
theorem m32_q {sc : List Int} (h : Hp) (I : zI h) (a b : Int) : zwC sc 2 32 [(2, 37), (0, a), (0, b)] h (zwRt 0 (fun x g => zI g ∧ zMR ms32_q h g ∧ (-2147483648 ≤ x ∧ x ≤ 2147483647) ∧ ((x = fld h 37 53 + 1 ∧ fld g 37 53 = fld h 37 53 + 1 ∧ 0 ≤ a ∧ a < fld h 37 52 ∧ fld h 37 0 ≤ b ∧ b ≤ 155 ∧ fld h 37 53 < 12) ∨ (x = -1 ∧ fld g 37 53 = fld h 37 53 ∧ (a < 0 ∨ fld h 37 52 ≤ a ∨ b < fld h 37 0 ∨ 155 < b ∨ 12 ≤ fld h 37 53))))) := by
  refine zwC_of (D := 1) 3 (by decide +kernel) rfl (ls := [(2, 37), (0, a), (0, b)]) rfl ?_
  have R : zMR ms32_q h h := zMR.rf _ _
  refine zwW_p [(1, 1, 0), (7, 0, 0), (0, 0, 1), (1, 0, 2)] (q := 4) (ls' := [(2, 37), (0, a), (0, b)]) (st' := [(2, 37), (1, 0), (1, a)]) (by decide +kernel) rfl ?_
  refine zwW_gs I (kd := 13) (bn := 52) (n := 97) (t := 0) (lo := 0) (hi := 8) (nx := 7) (by decide +kernel) ?_
  intro v1 ev1 lv1 uv1
  refine zwW_p [(0, 1, 0)] (q := 8) (ls' := [(2, 37), (0, a), (0, b)]) (st' := [(0, 1), (0, v1), (1, 0), (1, a)]) (by decide +kernel) rfl ?_
  refine zwW_sub (nx := 9) (by decide +kernel) ⟨by omega, by omega⟩ ?_
  refine zwW_p [(7, 0, 0)] (q := 10) (ls' := [(2, 37), (0, a), (0, b)]) (st' := [(1, (v1 - 1)), (1, 0), (1, a)]) (by decide +kernel) rfl ?_
  refine zwW_cs (k' := 101) (n := 3) (nx := 13) (as := [(1, a), (1, 0), (1, (v1 - 1))]) (st' := []) (by decide +kernel) rfl (m101 h a 0 (v1 - 1)) rfl ?_
  rintro x _ ⟨rfl, ⟨rfl, c2⟩ | ⟨rfl, c2⟩⟩
  · refine zwif_eq (q := 41) (nx := 16) (by decide +kernel) (fun c3 => ?_) (fun c3 => ?_)
    · exfalso; omega
    · refine zwW_p [(1, 2, 0), (7, 0, 0), (1, 0, 2)] (q := 19) (ls' := [(2, 37), (0, a), (0, b)]) (st' := [(2, 37), (1, b)]) (by decide +kernel) rfl ?_
      refine zwW_gs I (kd := 13) (bn := 0) (n := 97) (t := 0) (lo := 0) (hi := 156) (nx := 22) (by decide +kernel) ?_
      intro v4 ev4 lv4 uv4
      refine zwW_p [(7, 0, 0), (0, 155, 1)] (q := 26) (ls' := [(2, 37), (0, a), (0, b)]) (st' := [(1, 155), (1, v4), (1, b)]) (by decide +kernel) rfl ?_
      refine zwW_cs (k' := 101) (n := 3) (nx := 29) (as := [(1, b), (1, v4), (1, 155)]) (st' := []) (by decide +kernel) rfl (m101 h b v4 155) rfl ?_
      rintro x _ ⟨rfl, ⟨rfl, c5⟩ | ⟨rfl, c5⟩⟩
      · refine zwif_eq (q := 41) (nx := 32) (by decide +kernel) (fun c6 => ?_) (fun c6 => ?_)
        · exfalso; omega
        · refine zwW_p [(1, 0, 2)] (q := 33) (ls' := [(2, 37), (0, a), (0, b)]) (st' := [(2, 37)]) (by decide +kernel) rfl ?_
          refine zwW_gs I (kd := 13) (bn := 53) (n := 97) (t := 0) (lo := 0) (hi := 12) (nx := 36) (by decide +kernel) ?_
          intro v7 ev7 lv7 uv7
          refine zwW_p [(0, 12, 0)] (q := 38) (ls' := [(2, 37), (0, a), (0, b)]) (st' := [(0, 12), (0, v7)]) (by decide +kernel) rfl ?_
          refine zwic_ne (q := 43) (nx := 41) (by decide +kernel) (fun c8 => ?_) (fun c8 => ?_)
          · refine zwW_p [(1, 0, 2)] (q := 44) (ls' := [(2, 37), (0, a), (0, b)]) (st' := [(2, 37)]) (by decide +kernel) rfl ?_
            refine zwW_gc I (kd := 13) (bn := 50) (n := 97) (c := 164) (nx := 47) (by decide +kernel) ?_
            refine zwW_p [(1, 0, 2)] (q := 48) (ls' := [(2, 37), (0, a), (0, b)]) (st' := [(2, 37), (2, 164)]) (by decide +kernel) rfl ?_
            refine zwW_gs I (kd := 13) (bn := 53) (n := 97) (t := 0) (lo := 0) (hi := 12) (nx := 51) (by decide +kernel) ?_
            intro v9 ev9 lv9 uv9
            refine zwW_p [(1, 1, 0)] (q := 52) (ls' := [(2, 37), (0, a), (0, b)]) (st' := [(0, a), (0, v9), (2, 164)]) (by decide +kernel) rfl ?_
            refine zwW_as I (a1 := 164) (a2 := 164) (n := 12) (lo := 0) (hi := 7) (nx := 53) (by decide +kernel) ⟨by decide, by decide⟩ ⟨by omega, by omega⟩ ⟨by omega, by omega⟩ ?_
            intro h10 eh10 Ih10
            have th10_37_53 : fld h10 37 53 = fld h 37 53 := by rw [eh10]; exact fld_wr (by omega)
            have Rh10 : zMR ms32_q h h10 := R.w (a1 := 164) (a2 := 164) (j1 := 0) (j2 := 12) (by decide +kernel) ⟨by decide, by decide⟩ ⟨by omega, by omega⟩ eh10
            refine zwW_p [(1, 0, 2)] (q := 54) (ls' := [(2, 37), (0, a), (0, b)]) (st' := [(2, 37)]) (by decide +kernel) rfl ?_
            refine zwW_gc Ih10 (kd := 13) (bn := 51) (n := 97) (c := 165) (nx := 57) (by decide +kernel) ?_
            refine zwW_p [(1, 0, 2)] (q := 58) (ls' := [(2, 37), (0, a), (0, b)]) (st' := [(2, 37), (2, 165)]) (by decide +kernel) rfl ?_
            refine zwW_gs Ih10 (kd := 13) (bn := 53) (n := 97) (t := 0) (lo := 0) (hi := 12) (nx := 61) (by decide +kernel) ?_
            intro v11 ev11 lv11 uv11
            refine zwW_p [(1, 2, 0)] (q := 62) (ls' := [(2, 37), (0, a), (0, b)]) (st' := [(0, b), (0, v11), (2, 165)]) (by decide +kernel) rfl ?_
            refine zwW_as Ih10 (a1 := 165) (a2 := 165) (n := 12) (lo := 0) (hi := 155) (nx := 63) (by decide +kernel) ⟨by decide, by decide⟩ ⟨by omega, by omega⟩ ⟨by omega, by omega⟩ ?_
            intro h12 eh12 Ih12
            have th12_37_53 : fld h12 37 53 = fld h10 37 53 := by rw [eh12]; exact fld_wr (by omega)
            have Rh12 : zMR ms32_q h h12 := Rh10.w (a1 := 165) (a2 := 165) (j1 := 0) (j2 := 12) (by decide +kernel) ⟨by decide, by decide⟩ ⟨by omega, by omega⟩ eh12
            refine zwW_p [(1, 0, 2), (12, 0, 0)] (q := 65) (ls' := [(2, 37), (0, a), (0, b)]) (st' := [(2, 37), (2, 37)]) (by decide +kernel) rfl ?_
            refine zwW_gs Ih12 (kd := 13) (bn := 53) (n := 97) (t := 0) (lo := 0) (hi := 12) (nx := 68) (by decide +kernel) ?_
            intro v13 ev13 lv13 uv13
            refine zwW_p [(0, 1, 0)] (q := 69) (ls' := [(2, 37), (0, a), (0, b)]) (st' := [(0, 1), (0, v13), (2, 37)]) (by decide +kernel) rfl ?_
            refine zwW_add (nx := 70) (by decide +kernel) ⟨by omega, by omega⟩ ?_
            refine zwW_ps Ih12 (kd := 13) (bn := 53) (n := 97) (lo := 0) (hi := 12) (nx := 73) (by decide +kernel) ⟨by omega, by omega⟩ ?_
            intro h14 eh14 Ih14
            have th14_37_53 : fld h14 37 53 = (v13 + 1) := by rw [eh14]; exact fld_wr_eq (Ih12.s (a1 := 37) (a2 := 37) (k := 13) (n := 97) (by decide +kernel) (by decide) (by decide)) (by decide)
            have Rh14 : zMR ms32_q h h14 := Rh12.w (a1 := 37) (a2 := 37) (j1 := 53) (j2 := 54) (by decide +kernel) ⟨by decide, by decide⟩ ⟨by decide, by decide⟩ eh14
            refine zwW_p [(1, 0, 2)] (q := 74) (ls' := [(2, 37), (0, a), (0, b)]) (st' := [(2, 37)]) (by decide +kernel) rfl ?_
            refine zwW_gs Ih14 (kd := 13) (bn := 53) (n := 97) (t := 0) (lo := 0) (hi := 12) (nx := 77) (by decide +kernel) ?_
            intro v15 ev15 lv15 uv15
            refine zwW_ret (nx := 78) (a := 0) (b := 0) (by decide +kernel) rfl (Or.inl rfl) ?_
            exact ⟨Ih14, Rh14, by omega, by omega⟩
          · refine zwW_p [(0, -1, 0)] (q := 42) (ls' := [(2, 37), (0, a), (0, b)]) (st' := [(0, -1)]) (by decide +kernel) rfl ?_
            refine zwW_ret (nx := 43) (a := 0) (b := 0) (by decide +kernel) rfl (Or.inl rfl) ?_
            exact ⟨I, R, by omega, by omega⟩
      · refine zwif_eq (q := 41) (nx := 32) (by decide +kernel) (fun c16 => ?_) (fun c16 => ?_)
        · refine zwW_p [(0, -1, 0)] (q := 42) (ls' := [(2, 37), (0, a), (0, b)]) (st' := [(0, -1)]) (by decide +kernel) rfl ?_
          refine zwW_ret (nx := 43) (a := 0) (b := 0) (by decide +kernel) rfl (Or.inl rfl) ?_
          exact ⟨I, R, by omega, by omega⟩
        · exfalso; omega
  · refine zwif_eq (q := 41) (nx := 16) (by decide +kernel) (fun c17 => ?_) (fun c17 => ?_)
    · refine zwW_p [(0, -1, 0)] (q := 42) (ls' := [(2, 37), (0, a), (0, b)]) (st' := [(0, -1)]) (by decide +kernel) rfl ?_
      refine zwW_ret (nx := 43) (a := 0) (b := 0) (by decide +kernel) rfl (Or.inl rfl) ?_
      exact ⟨I, R, by omega, by omega⟩
    · exfalso; omega
end
section
/-! runs are of one way: two contracts of a call hold together -/
section DT
variable {sc : List Int}
theorem zw_detE {cal : Nat → List Vl → Hp → Option Vl → Hp → Prop} (hc : ∀ y as hp r1 h1 r2 h2, cal y as hp r1 h1 → cal y as hp r2 h2 → r1 = r2 ∧ h1 = h2) {y : Nat} : ∀ (n m pc : Nat) (ls st : List Vl) (hp : Hp) (r1 : Option Vl) (h1 : Hp) (r2 : Option Vl) (h2 : Hp), Ex cdT mK sc stxt cal y n pc ls st hp r1 h1 → Ex cdT mK sc stxt cal y m pc ls st hp r2 h2 → r1 = r2 ∧ h1 = h2
  | 0, _, _, _, _, _, _, _, _, _, hx, _ => hx.elim
  | _ + 1, 0, _, _, _, _, _, _, _, _, _, hx => hx.elim
  | n + 1, m + 1, pc, ls, st, hp, r1, h1, r2, h2, hx, kx => by
    obtain ⟨op, nx, a, b, os, e, H⟩ := hx
    obtain ⟨op2, nx2, a2, b2, os2, e2, K⟩ := kx
    rw [e] at e2
    injection e2 with e2
    simp only [Prod.mk.injEq] at e2
    obtain ⟨rfl, rfl, rfl, rfl, rfl⟩ := e2
    rcases H with ⟨o1, x1, x2, s1, x3⟩ | ⟨o1, o2, x1, x2, s1, x3⟩ | ⟨o1, o2, x1, s1, x3⟩ | ⟨o1, o2, x1, x2, s1, x3⟩ | ⟨o1, o2, x1, x2, x4, x5, s1, s2, s3, x3⟩ | ⟨o1, s1, s2⟩ <;> rcases K with ⟨p1, y1, y2, t1, y3⟩ | ⟨p1, p2, y1, y2, t1, y3⟩ | ⟨p1, p2, y1, t1, y3⟩ | ⟨p1, p2, y1, y2, t1, y3⟩ | ⟨p1, p2, y1, y2, y4, y5, t1, t2, t3, y3⟩ | ⟨p1, t1, t2⟩ <;> first | (exfalso; omega) | skip
    · rw [s1] at t1
      injection t1 with t1
      simp only [Prod.mk.injEq] at t1
      obtain ⟨rfl, rfl⟩ := t1
      exact zw_detE hc n m _ _ _ _ _ _ _ _ x3 y3
    · rw [s1] at t1
      injection t1 with t1
      simp only [Prod.mk.injEq] at t1
      obtain ⟨rfl, rfl⟩ := t1
      exact zw_detE hc n m _ _ _ _ _ _ _ _ x3 y3
    · rw [s1] at t1
      injection t1 with t1
      subst t1
      exact zw_detE hc n m _ _ _ _ _ _ _ _ x3 y3
    · rw [s1] at t1
      injection t1 with t1
      simp only [Prod.mk.injEq] at t1
      obtain ⟨rfl, rfl⟩ := t1
      exact zw_detE hc n m _ _ _ _ _ _ _ _ x3 y3
    · rw [s1] at t1
      injection t1 with t1
      simp only [Prod.mk.injEq] at t1
      obtain ⟨rfl, rfl⟩ := t1
      obtain ⟨rfl, rfl⟩ := hc _ _ _ _ _ _ _ s3 t3
      exact zw_detE hc n m _ _ _ _ _ _ _ _ x3 y3
    · rw [s1] at t1
      injection t1 with t1
      exact ⟨t1, s2.trans t2.symm⟩
theorem zw_det : ∀ (d y : Nat) (as : List Vl) (hp : Hp) (r1 : Option Vl) (h1 : Hp) (r2 : Option Vl) (h2 : Hp), Runs cdT mK sc stxt mL d y as hp r1 h1 → Runs cdT mK sc stxt mL d y as hp r2 h2 → r1 = r2 ∧ h1 = h2
  | 0, _, _, _, _, _, _, _, hx, _ => hx.elim
  | d + 1, _, _, _, _, _, _, _, hx, kx => by
    obtain ⟨-, n, hx⟩ := hx
    obtain ⟨-, m, kx⟩ := kx
    exact zw_detE (zw_det d) n m _ _ _ _ _ _ _ _ hx kx
theorem zwC_and {D y : Nat} {as : List Vl} {h : Hp} {Q R : Option Vl → Hp → Prop} (A : zwC sc D y as h Q) (B : zwC sc D y as h R) : zwC sc D y as h (fun r g => Q r g ∧ R r g) := by
  obtain ⟨r1, h1, x1, q1⟩ := A
  obtain ⟨r2, h2, x2, q2⟩ := B
  obtain ⟨rfl, rfl⟩ := zw_det D y as h r1 h1 r2 h2 x1 x2
  exact ⟨r1, h1, x1, q1, q2⟩
theorem zwC_an2 {D D2 y t : Nat} {as : List Vl} {h : Hp} {Q R : Int → Hp → Prop} (A : zwC sc D y as h (zwRt t Q)) (B : zwC sc D2 y as h (zwRt t R)) : zwC sc (max D D2) y as h (zwRt t (fun x g => Q x g ∧ R x g)) := by
  refine zwC_to (zwC_and (zwC_up (Nat.le_max_left D D2) A) (zwC_up (Nat.le_max_right D D2) B)) ?_
  rintro r g ⟨⟨x, e, q⟩, ⟨x2, e2, q2⟩⟩
  rw [e] at e2
  injection e2 with e2
  injection e2 with _ e2
  subst e2
  exact ⟨x, e, q, q2⟩
end DT
end
