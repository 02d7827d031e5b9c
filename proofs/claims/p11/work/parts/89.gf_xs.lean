/-! contracts of the class -/
def msx29_w : Zms := [(9, 9, 0, 1), (9, 9, 2, 7), (11, 11, 0, 400), (12, 12, 0, 5), (14, 14, 0, 3)]
-- WheelLand.sheet()I
theorem x29_w {sc : List Int} (h : Hp) (C : CI h) (t : pT) (n : Nat) (c : Nat → Int) (B : rB t n h) (hc : fld h 11 = c) (hl : h.length ≤ 997670000) : zwC sc 233 29 [(2, 1)] h (zwRt 0 (fun x g => CI g ∧ zXR msx29_w (4) (1408) h g ∧ (-2147483648 ≤ x ∧ x ≤ 2147483647) ∧ ((x = fld h 14 2 ∧ fld g 14 2 = fld h 14 2 + 1 ∧ fld g 9 0 = 0 ∧ pFa t n c = -1 ∧ fld h 14 2 < 8) ∨ (x = -1 ∧ fld g 14 2 = fld h 14 2 ∧ fld g 9 0 = fld h 9 0 ∧ (8 ≤ fld h 14 2 ∨ pFa t n c ≠ -1))) ∧ (zXs (pRead t n c) (pFa t n c) h g))) := by
  refine zwC_of (D := 232) 1 (by decide +kernel) rfl (ls := [(2, 1)]) rfl ?_
  have X : zXR msx29_w 0 0 h h := zXR.rf _ _
  refine zwW_p [(1, 0, 2)] (q := 1) (ls' := [(2, 1)]) (st' := [(2, 1)]) (by decide +kernel) rfl ?_
  refine zwW_gc C.1 (kd := 12) (bn := 8) (n := 13) (c := 13) (nx := 4) (by decide +kernel) ?_
  refine zwW_gc C.1 (kd := 9) (bn := 0) (n := 6) (c := 14) (nx := 7) (by decide +kernel) ?_
  refine zwW_cm C.1 (op := 60) (k' := 96) (n := 0) (kd := 0) (m := 3) (nx := 10) (r := 14) (tl := []) (st' := []) (by decide +kernel) rfl (by decide +kernel) rfl (x96_14 C) ?_
  rintro v1 _ ⟨rfl, ev1⟩
  have bv1 := zLb_14 C
  refine zwW_p [(0, 8, 0)] (q := 12) (ls' := [(2, 1)]) (st' := [(0, 8), (0, v1)]) (by decide +kernel) rfl ?_
  refine zwic_ge (q := 26) (nx := 15) (by decide +kernel) (fun c2 => ?_) (fun c2 => ?_)
  · refine zwW_p [(0, -1, 0)] (q := 27) (ls' := [(2, 1)]) (st' := [(0, -1)]) (by decide +kernel) rfl ?_
    refine zwW_ret (nx := 28) (a := 0) (b := 0) (by decide +kernel) rfl (Or.inl rfl) ?_
    exact ⟨C, X.le (by decide) (by decide), by omega, by omega, by first | exact ⟨V65, Or.inl ⟨by omega, by omega, by omega, S65⟩⟩ | exact ⟨V19, Or.inr ⟨by omega, by omega⟩⟩ | exact ⟨fun _ _ => rfl, Or.inr ⟨by omega, rfl⟩⟩⟩
  · refine zwW_p [(1, 0, 2)] (q := 16) (ls' := [(2, 1)]) (st' := [(2, 1)]) (by decide +kernel) rfl ?_
    refine zwW_gc C.1 (kd := 12) (bn := 7) (n := 13) (c := 9) (nx := 19) (by decide +kernel) ?_
    refine zwW_cm C.1 (op := 60) (k' := 120) (n := 0) (kd := 7) (m := 9) (nx := 22) (r := 9) (tl := []) (st' := []) (by decide +kernel) rfl (by decide +kernel) rfl (x120_q h C t n c B hc) ?_
    rintro v6 h7 ⟨Ch7, Qh7, f3, f4, f5⟩
    have Xh7 : zXR msx29_w (0) (0) h h7 := X.tr (c2 := 0) (s2 := 0) Qh7 (by decide +kernel) (by decide) (by decide)
    have th7_9_0 : fld h7 9 0 = fld h 9 0 := Qh7.f (a1 := 9) (a2 := 9) (j1 := 0) (j2 := 1) (by decide +kernel) ⟨by decide, by decide⟩ ⟨by decide, by decide⟩ ⟨by decide, by decide⟩
    have th7_14_2 : fld h7 14 2 = fld h 14 2 := Qh7.f (a1 := 14) (a2 := 14) (j1 := 2) (j2 := 3) (by decide +kernel) ⟨by decide, by decide⟩ ⟨by decide, by decide⟩ ⟨by decide, by decide⟩
    have T19 := f5
    have R19 := Qh7.1
    have C19 := Ch7
    have B19 := (Ch7.1.b (a1 := 9) (a2 := 9) (j1 := 6) (j2 := 7) (lo := 0) (hi := 400) (by decide +kernel) (r := 9) (j := 6) (by decide) (by decide) (by decide) (by decide)).2
    have V19 : ∀ i : Nat, (i : Int) < fld h 14 2 → zv h7 14 i = zv h 14 i := fun i hi => Qh7.v C (A := 14) (by decide) (by decide +kernel) hi
    have P22 : v6 = pFa t n c := f4
    refine zwW_p [(0, -1, 0)] (q := 23) (ls' := [(2, 1)]) (st' := [(0, -1), (0, v6)]) (by decide +kernel) rfl ?_
    refine zwic_eq (q := 28) (nx := 26) (by decide +kernel) (fun c8 => ?_) (fun c8 => ?_)
    · refine zwW_p [(1, 0, 2)] (q := 29) (ls' := [(2, 1)]) (st' := [(2, 1)]) (by decide +kernel) rfl ?_
      refine zwW_gc Ch7.1 (kd := 12) (bn := 8) (n := 13) (c := 13) (nx := 32) (by decide +kernel) ?_
      refine zwW_gc Ch7.1 (kd := 9) (bn := 0) (n := 6) (c := 14) (nx := 35) (by decide +kernel) ?_
      refine zwW_p [(1, 0, 2)] (q := 36) (ls' := [(2, 1)]) (st' := [(2, 1), (2, 14)]) (by decide +kernel) rfl ?_
      refine zwW_gc Ch7.1 (kd := 12) (bn := 7) (n := 13) (c := 9) (nx := 39) (by decide +kernel) ?_
      refine zwW_p [(1, 0, 2)] (q := 40) (ls' := [(2, 1)]) (st' := [(2, 1), (2, 9), (2, 14)]) (by decide +kernel) rfl ?_
      refine zwW_gc Ch7.1 (kd := 12) (bn := 8) (n := 13) (c := 13) (nx := 43) (by decide +kernel) ?_
      refine zwW_gc Ch7.1 (kd := 9) (bn := 0) (n := 6) (c := 14) (nx := 46) (by decide +kernel) ?_
      refine zwW_cm Ch7.1 (op := 60) (k' := 96) (n := 0) (kd := 0) (m := 3) (nx := 49) (r := 14) (tl := []) (st' := [(2, 9), (2, 14)]) (by decide +kernel) rfl (by decide +kernel) rfl (x96_14 Ch7) ?_
      rintro v9 _ ⟨rfl, ev9⟩
      have bv9 := zLb_14 Ch7
      refine zwW_cm Ch7.1 (op := 60) (k' := 122) (n := 1) (kd := 7) (m := 9) (nx := 52) (r := 9) (tl := [(0, v9)]) (st' := [(2, 14)]) (by decide +kernel) rfl (by decide +kernel) rfl (x122_s h7 Ch7 v9 (by omega)) ?_
      rintro v12 h13 ⟨Ch13, Qh13, f10, f11⟩
      have Xh13 : zXR msx29_w (3) (408) h h13 := Xh7.tr (c2 := 3) (s2 := 408) Qh13 (by decide +kernel) (by decide) (by decide)
      have th13_9_0 : fld h13 9 0 = fld h7 9 0 := Qh13.f (a1 := 9) (a2 := 9) (j1 := 0) (j2 := 1) (by decide +kernel) ⟨by decide, by decide⟩ ⟨by decide, by decide⟩ ⟨by decide, by decide⟩
      have th13_14_2 : fld h13 14 2 = fld h7 14 2 := Qh13.f (a1 := 14) (a2 := 14) (j1 := 2) (j2 := 3) (by decide +kernel) ⟨by decide, by decide⟩ ⟨by decide, by decide⟩ ⟨by decide, by decide⟩
      have lv12 := f10.1
      have S49 := f11
      have G49 := f10
      have C49 := Ch13
      have e49 : fld h13 14 2 = fld h 14 2 := by omega
      have V49 : ∀ i : Nat, (i : Int) < fld h 14 2 → zv h13 14 i = zv h 14 i := fun i hi => (Qh13.v C19 (A := 14) (by decide) (by decide +kernel) (show (i : Int) < fld h7 14 2 by omega)).trans (V19 i hi)
      refine zwW_cm Ch13.1 (op := 60) (k' := 100) (n := 1) (kd := 0) (m := 3) (nx := 55) (r := 14) (tl := [(2, v12)]) (st' := []) (by decide +kernel) rfl (by decide +kernel) rfl (x100_14 Ch13 f10 (by omega) (by have := Xh13.hl C Ch13 (by decide) hl; omega)) ?_
      rintro x h15 ⟨rfl, Ah15⟩
      have Ch15 := Ah15.1
      have Qh15 : zXR [(14, 14, 0, 3)] (1) (1000) h13 h15 := Ah15.2.1
      have zh15 : fld h15 14 2 = fld h13 14 2 + 1 := Ah15.2.2.1
      have Xh15 : zXR msx29_w (4) (1408) h h15 := Xh13.tr (c2 := 4) (s2 := 1408) Qh15 (by decide +kernel) (by decide) (by decide)
      have th15_9_0 : fld h15 9 0 = fld h13 9 0 := Qh15.f (a1 := 9) (a2 := 9) (j1 := 0) (j2 := 1) (by decide +kernel) ⟨by decide, by decide⟩ ⟨by decide, by decide⟩ ⟨by decide, by decide⟩
      refine zwW_p [(15, 0, 0), (1, 0, 2)] (q := 57) (ls' := [(2, 1)]) (st' := [(2, 1)]) (by decide +kernel) rfl ?_
      have C57 := Ch15
      have S57 : zSo (pRead t n c) h h15 (zv h15 14 (fld h 14 2).toNat) (fld h 14 2) := zSo.mk T19 S49 G49 Ah15 C49 e49 (by omega) R19 B19
      have V57 : ∀ i : Nat, (i : Int) < fld h 14 2 → zv h15 14 i = zv h 14 i := fun i hi => (Ah15.2.2.2.1 i (show (i : Int) < fld h13 14 2 by omega)).trans (V49 i hi)
      refine zwW_gc Ch15.1 (kd := 12) (bn := 7) (n := 13) (c := 9) (nx := 60) (by decide +kernel) ?_
      refine zwW_p [(0, 0, 0)] (q := 61) (ls' := [(2, 1)]) (st' := [(0, 0), (2, 9)]) (by decide +kernel) rfl ?_
      refine zwW_ps Ch15.1 (kd := 7) (bn := 0) (n := 9) (lo := 0) (hi := 400) (nx := 64) (by decide +kernel) ⟨by decide, by decide⟩ ?_
      intro h16 eh16 Ih16
      have Ch16 : CI h16 := Ch15.wc eh16 Ih16 (by decide) (by decide)
      have Qh16 : zXR [(9, 9, 0, 1)] 0 0 h15 h16 := zXR.wc eh16 rfl ⟨by decide, by decide, Or.inl (by decide)⟩ ⟨by decide, by decide⟩
      have Xh16 : zXR msx29_w (4) (1408) h h16 := Xh15.tr (c2 := 4) (s2 := 1408) Qh16 (by decide +kernel) (by decide) (by decide)
      have th16_14_2 : fld h16 14 2 = fld h15 14 2 := Qh16.f (a1 := 14) (a2 := 14) (j1 := 2) (j2 := 3) (by decide +kernel) ⟨by decide, by decide⟩ ⟨by decide, by decide⟩ ⟨by decide, by decide⟩
      have th16_9_0 : fld h16 9 0 = 0 := by rw [eh16]; exact fld_wr_eq (Ch15.1.s (a1 := 9) (a2 := 9) (k := 7) (n := 9) (by decide +kernel) (by decide) (by decide)) (by decide)
      refine zwW_p [(1, 0, 2)] (q := 65) (ls' := [(2, 1)]) (st' := [(2, 1)]) (by decide +kernel) rfl ?_
      have S65 : zSo (pRead t n c) h h16 (zv h16 14 (fld h 14 2).toNat) (fld h 14 2) := by
        rw [Qh16.v C57 (A := 14) (by decide) (by decide +kernel) (show (((fld h 14 2).toNat : Nat) : Int) < fld h15 14 2 by omega)]
        exact S57.kp (zS_g C57 (by omega)) Qh16 (by decide +kernel)
      have V65 : ∀ i : Nat, (i : Int) < fld h 14 2 → zv h16 14 i = zv h 14 i := fun i hi => (Qh16.v C57 (A := 14) (by decide) (by decide +kernel) (show (i : Int) < fld h15 14 2 by omega)).trans (V57 i hi)
      refine zwW_gc Ch16.1 (kd := 12) (bn := 8) (n := 13) (c := 13) (nx := 68) (by decide +kernel) ?_
      refine zwW_gc Ch16.1 (kd := 9) (bn := 0) (n := 6) (c := 14) (nx := 71) (by decide +kernel) ?_
      refine zwW_cm Ch16.1 (op := 60) (k' := 96) (n := 0) (kd := 0) (m := 3) (nx := 74) (r := 14) (tl := []) (st' := []) (by decide +kernel) rfl (by decide +kernel) rfl (x96_14 Ch16) ?_
      rintro v17 _ ⟨rfl, ev17⟩
      have bv17 := zLb_14 Ch16
      refine zwW_p [(0, 1, 0)] (q := 75) (ls' := [(2, 1)]) (st' := [(0, 1), (0, v17)]) (by decide +kernel) rfl ?_
      refine zwW_sub (nx := 76) (by decide +kernel) ⟨by omega, by omega⟩ ?_
      refine zwW_ret (nx := 77) (a := 0) (b := 0) (by decide +kernel) rfl (Or.inl rfl) ?_
      exact ⟨Ch16, Xh16.le (by decide) (by decide), by omega, by omega, by first | exact ⟨V65, Or.inl ⟨by omega, by omega, by omega, S65⟩⟩ | exact ⟨V19, Or.inr ⟨by omega, by omega⟩⟩ | exact ⟨fun _ _ => rfl, Or.inr ⟨by omega, rfl⟩⟩⟩
    · refine zwW_p [(0, -1, 0)] (q := 27) (ls' := [(2, 1)]) (st' := [(0, -1)]) (by decide +kernel) rfl ?_
      refine zwW_ret (nx := 28) (a := 0) (b := 0) (by decide +kernel) rfl (Or.inl rfl) ?_
      exact ⟨Ch7, Xh7.le (by decide) (by decide), by omega, by omega, by first | exact ⟨V65, Or.inl ⟨by omega, by omega, by omega, S65⟩⟩ | exact ⟨V19, Or.inr ⟨by omega, by omega⟩⟩ | exact ⟨fun _ _ => rfl, Or.inr ⟨by omega, rfl⟩⟩⟩
def msx124_w : Zms := [(13, 13, 1, 2), (15, 15, 0, 12), (16, 16, 0, 12)]
-- WheelLand$Rules.enforce(LWheelLand$Sheet;I)V
theorem x124_w {sc : List Int} (h : Hp) (C : CI h) (r a : Int) (G_r : gS h r) (q_a : -2147483648 ≤ a ∧ a ≤ 2147483647) (p12 : fld h 13 1 < 12) (hl : h.length ≤ 999990000) : zwC sc 1 124 [(2, 13), (2, r), (0, a)] h (zwRv (fun g => CI g ∧ zXR msx124_w (0) (0) h g ∧ (fld g 13 1 = fld h 13 1 + 1) ∧ (fld g 15 = zu (fld h 15) (fld h 13 1).toNat r) ∧ (fld g 16 = zu (fld h 16) (fld h 13 1).toNat a))) := by
  refine zwC_of (D := 0) 3 (by decide +kernel) rfl (ls := [(2, 13), (2, r), (0, a)]) rfl ?_
  have lw_r := G_r.1
  have X : zXR msx124_w 0 0 h h := zXR.rf _ _
  refine zwW_p [(1, 0, 2)] (q := 1) (ls' := [(2, 13), (2, r), (0, a)]) (st' := [(2, 13)]) (by decide +kernel) rfl ?_
  refine zwW_gs C.1 (kd := 9) (bn := 1) (n := 6) (t := 0) (lo := 0) (hi := 12) (nx := 4) (by decide +kernel) ?_
  intro v1 ev1 lv1 uv1
  refine zwW_p [(1, 0, 2)] (q := 5) (ls' := [(2, 13), (2, r), (0, a)]) (st' := [(2, 13), (0, v1)]) (by decide +kernel) rfl ?_
  refine zwW_gc C.1 (kd := 9) (bn := 2) (n := 6) (c := 15) (nx := 8) (by decide +kernel) ?_
  refine zwW_len (kd := 24) (n := 12) (nx := 9) (by decide +kernel) (C.1.s (a1 := 15) (a2 := 15) (by decide +kernel) (by omega) (by omega)) rfl ?_
  refine zwic_ge (q := 42) (nx := 12) (by decide +kernel) (fun c2 => ?_) (fun c2 => ?_)
  · refine zwW_retv (nx := 43) (a := 0) (b := 0) (by decide +kernel) ?_
    exact ⟨C, X.le (by decide) (by decide), by omega, by first | exact V39.trans (V31.trans W21) | (exfalso; omega), by first | exact U39.trans (W31.trans (by rw [U21])) | (exfalso; omega)⟩
  · refine zwW_p [(1, 0, 2)] (q := 13) (ls' := [(2, 13), (2, r), (0, a)]) (st' := [(2, 13)]) (by decide +kernel) rfl ?_
    refine zwW_gc C.1 (kd := 9) (bn := 2) (n := 6) (c := 15) (nx := 16) (by decide +kernel) ?_
    refine zwW_p [(1, 0, 2)] (q := 17) (ls' := [(2, 13), (2, r), (0, a)]) (st' := [(2, 13), (2, 15)]) (by decide +kernel) rfl ?_
    refine zwW_gs C.1 (kd := 9) (bn := 1) (n := 6) (t := 0) (lo := 0) (hi := 12) (nx := 20) (by decide +kernel) ?_
    intro v3 ev3 lv3 uv3
    refine zwW_p [(1, 1, 2)] (q := 21) (ls' := [(2, 13), (2, r), (0, a)]) (st' := [(2, r), (0, v3), (2, 15)]) (by decide +kernel) rfl ?_
    refine zwW_ast (a := 24) (kd := 24) (n := 12) (x := r) (nx := 22) (by decide +kernel) (C.1.s (a1 := 15) (a2 := 15) (by decide +kernel) (by decide) (by decide)) rfl (by omega) (by omega) (kept24 G_r) ?_
    rintro h4 eh4
    obtain ⟨Ch4, Qh4⟩ := C.ws (i := v3.toNat) G_r (by omega) (by omega) eh4
    have W21 : fld h4 15 = zu (fld h 15) (fld h 13 1).toNat r := (fld_zu (C.1.s (a1 := 15) (a2 := 15) (k := 24) (n := 12) (by decide +kernel) (by decide) (by decide)) (by omega) eh4).trans (by rw [show (v3).toNat = (fld h 13 1).toNat by omega])
    have U21 : fld h4 16 = fld h 16 := fld_o eh4 (by decide)
    have Xh4 : zXR msx124_w (0) (0) h h4 := X.tr (c2 := 0) (s2 := 0) Qh4 (by decide +kernel) (by decide) (by decide)
    have Gh4_0 : gS h4 r := G_r.x Qh4
    have th4_13_1 : fld h4 13 1 = fld h 13 1 := Qh4.f (a1 := 13) (a2 := 13) (j1 := 1) (j2 := 2) (by decide +kernel) ⟨by decide, by decide⟩ ⟨by decide, by decide⟩ ⟨by decide, by decide⟩
    refine zwW_p [(1, 0, 2)] (q := 23) (ls' := [(2, 13), (2, r), (0, a)]) (st' := [(2, 13)]) (by decide +kernel) rfl ?_
    refine zwW_gc Ch4.1 (kd := 9) (bn := 3) (n := 6) (c := 16) (nx := 26) (by decide +kernel) ?_
    refine zwW_p [(1, 0, 2)] (q := 27) (ls' := [(2, 13), (2, r), (0, a)]) (st' := [(2, 13), (2, 16)]) (by decide +kernel) rfl ?_
    refine zwW_gs Ch4.1 (kd := 9) (bn := 1) (n := 6) (t := 0) (lo := 0) (hi := 12) (nx := 30) (by decide +kernel) ?_
    intro v5 ev5 lv5 uv5
    refine zwW_p [(1, 2, 0)] (q := 31) (ls' := [(2, 13), (2, r), (0, a)]) (st' := [(0, a), (0, v5), (2, 16)]) (by decide +kernel) rfl ?_
    refine zwW_as Ch4.1 (a1 := 16) (a2 := 16) (n := 12) (lo := -2147483648) (hi := 2147483647) (nx := 32) (by decide +kernel) ⟨by decide, by decide⟩ ⟨by omega, by omega⟩ ⟨by omega, by omega⟩ ?_
    intro h6 eh6 Ih6
    have Ch6 : CI h6 := Ch4.wc eh6 Ih6 (by decide) (by decide)
    have Qh6 : zXR [(16, 16, 0, 12)] 0 0 h4 h6 := zXR.wc eh6 rfl ⟨by decide, by decide, Or.inl (by decide)⟩ ⟨by omega, by omega⟩
    have W31 : fld h6 16 = zu (fld h4 16) (fld h 13 1).toNat a := (fld_zu (Ch4.1.s (a1 := 16) (a2 := 16) (k := 20) (n := 12) (by decide +kernel) (by decide) (by decide)) (by omega) eh6).trans (by rw [show (v5).toNat = (fld h 13 1).toNat by omega])
    have V31 : fld h6 15 = fld h4 15 := fld_o eh6 (by decide)
    have Xh6 : zXR msx124_w (0) (0) h h6 := Xh4.tr (c2 := 0) (s2 := 0) Qh6 (by decide +kernel) (by decide) (by decide)
    have Gh6_0 : gS h6 r := Gh4_0.x Qh6
    have th6_13_1 : fld h6 13 1 = fld h4 13 1 := Qh6.f (a1 := 13) (a2 := 13) (j1 := 1) (j2 := 2) (by decide +kernel) ⟨by decide, by decide⟩ ⟨by decide, by decide⟩ ⟨by decide, by decide⟩
    refine zwW_p [(1, 0, 2), (12, 0, 0)] (q := 34) (ls' := [(2, 13), (2, r), (0, a)]) (st' := [(2, 13), (2, 13)]) (by decide +kernel) rfl ?_
    refine zwW_gs Ch6.1 (kd := 9) (bn := 1) (n := 6) (t := 0) (lo := 0) (hi := 12) (nx := 37) (by decide +kernel) ?_
    intro v7 ev7 lv7 uv7
    refine zwW_p [(0, 1, 0)] (q := 38) (ls' := [(2, 13), (2, r), (0, a)]) (st' := [(0, 1), (0, v7), (2, 13)]) (by decide +kernel) rfl ?_
    refine zwW_add (nx := 39) (by decide +kernel) ⟨by omega, by omega⟩ ?_
    refine zwW_ps Ch6.1 (kd := 9) (bn := 1) (n := 6) (lo := 0) (hi := 12) (nx := 42) (by decide +kernel) ⟨by omega, by omega⟩ ?_
    intro h8 eh8 Ih8
    have Ch8 : CI h8 := Ch6.wc eh8 Ih8 (by decide) (by decide)
    have Qh8 : zXR [(13, 13, 1, 2)] 0 0 h6 h8 := zXR.wc eh8 rfl ⟨by decide, by decide, Or.inl (by decide)⟩ ⟨by decide, by decide⟩
    have V39 : fld h8 15 = fld h6 15 := fld_o eh8 (by decide)
    have U39 : fld h8 16 = fld h6 16 := fld_o eh8 (by decide)
    have Xh8 : zXR msx124_w (0) (0) h h8 := Xh6.tr (c2 := 0) (s2 := 0) Qh8 (by decide +kernel) (by decide) (by decide)
    have Gh8_0 : gS h8 r := Gh6_0.x Qh8
    have th8_13_1 : fld h8 13 1 = (v7 + 1) := by rw [eh8]; exact fld_wr_eq (Ch6.1.s (a1 := 13) (a2 := 13) (k := 9) (n := 6) (by decide +kernel) (by decide) (by decide)) (by decide)
    refine zwW_retv (nx := 43) (a := 0) (b := 0) (by decide +kernel) ?_
    exact ⟨Ch8, Xh8.le (by decide) (by decide), by omega, by first | exact V39.trans (V31.trans W21) | (exfalso; omega), by first | exact U39.trans (W31.trans (by rw [U21])) | (exfalso; omega)⟩
def msx31_w : Zms := [(13, 13, 1, 2), (15, 15, 0, 12), (16, 16, 0, 12)]
-- WheelLand.force(II)I
theorem x31_w {sc : List Int} (h : Hp) (C : CI h) (a b : Int) (q_a : -2147483648 ≤ a ∧ a ≤ 2147483647) (q_b : -2147483648 ≤ b ∧ b ≤ 2147483647) (hl : h.length ≤ 999950000) : zwC sc 5 31 [(2, 1), (0, a), (0, b)] h (zwRt 0 (fun x g => CI g ∧ zXR msx31_w (0) (0) h g ∧ (-2147483648 ≤ x ∧ x ≤ 2147483647) ∧ (((x = fld h 13 1 + 1) ∧ (fld g 13 1 = fld h 13 1 + 1) ∧ (0 ≤ a) ∧ (a < fld h 14 2) ∧ (fld h 1 0 ≤ b) ∧ (b ≤ 155) ∧ (fld h 13 1 < 12) ∧ (fld g 15 = zu (fld h 15) (fld h 13 1).toNat (zv h 14 a.toNat)) ∧ (fld g 16 = zu (fld h 16) (fld h 13 1).toNat b)) ∨ ((x = -1) ∧ (g = h) ∧ (a < 0 ∨ fld h 14 2 ≤ a ∨ b < fld h 1 0 ∨ 155 < b ∨ 12 ≤ fld h 13 1))))) := by
  refine zwC_of (D := 4) 3 (by decide +kernel) rfl (ls := [(2, 1), (0, a), (0, b)]) rfl ?_
  have X : zXR msx31_w 0 0 h h := zXR.rf _ _
  refine zwW_p [(1, 1, 0)] (q := 1) (ls' := [(2, 1), (0, a), (0, b)]) (st' := [(0, a)]) (by decide +kernel) rfl ?_
  refine zwif_lt (q := 44) (nx := 4) (by decide +kernel) (fun c1 => ?_) (fun c1 => ?_)
  · refine zwW_p [(0, -1, 0)] (q := 45) (ls' := [(2, 1), (0, a), (0, b)]) (st' := [(0, -1)]) (by decide +kernel) rfl ?_
    refine zwW_ret (nx := 46) (a := 0) (b := 0) (by decide +kernel) rfl (Or.inl rfl) ?_
    exact ⟨C, X.le (by decide) (by decide), by omega, by exact Or.inr ⟨by omega, by rfl, by omega⟩⟩
  · refine zwW_p [(1, 1, 0), (1, 0, 2)] (q := 6) (ls' := [(2, 1), (0, a), (0, b)]) (st' := [(2, 1), (0, a)]) (by decide +kernel) rfl ?_
    refine zwW_gc C.1 (kd := 12) (bn := 8) (n := 13) (c := 13) (nx := 9) (by decide +kernel) ?_
    refine zwW_gc C.1 (kd := 9) (bn := 0) (n := 6) (c := 14) (nx := 12) (by decide +kernel) ?_
    refine zwW_cm C.1 (op := 60) (k' := 96) (n := 0) (kd := 0) (m := 3) (nx := 15) (r := 14) (tl := []) (st' := [(0, a)]) (by decide +kernel) rfl (by decide +kernel) rfl (x96_14 C) ?_
    rintro v2 _ ⟨rfl, ev2⟩
    have bv2 := zLb_14 C
    refine zwic_ge (q := 44) (nx := 18) (by decide +kernel) (fun c3 => ?_) (fun c3 => ?_)
    · refine zwW_p [(0, -1, 0)] (q := 45) (ls' := [(2, 1), (0, a), (0, b)]) (st' := [(0, -1)]) (by decide +kernel) rfl ?_
      refine zwW_ret (nx := 46) (a := 0) (b := 0) (by decide +kernel) rfl (Or.inl rfl) ?_
      exact ⟨C, X.le (by decide) (by decide), by omega, by exact Or.inr ⟨by omega, by rfl, by omega⟩⟩
    · refine zwW_p [(1, 2, 0), (1, 0, 2)] (q := 20) (ls' := [(2, 1), (0, a), (0, b)]) (st' := [(2, 1), (0, b)]) (by decide +kernel) rfl ?_
      refine zwW_gs C.1 (kd := 12) (bn := 0) (n := 13) (t := 0) (lo := 0) (hi := 156) (nx := 23) (by decide +kernel) ?_
      intro v4 ev4 lv4 uv4
      refine zwW_p [(0, 155, 0)] (q := 26) (ls' := [(2, 1), (0, a), (0, b)]) (st' := [(0, 155), (0, v4), (0, b)]) (by decide +kernel) rfl ?_
      refine zwW_cs (k' := 98) (n := 3) (nx := 29) (as := [(0, b), (0, v4), (0, 155)]) (st' := []) (by decide +kernel) rfl (x98 h C b v4 155 (by omega) (by omega) (by omega)) rfl ?_
      rintro x _ ⟨rfl, ⟨rfl, c5⟩ | ⟨rfl, c5⟩⟩
      · refine zwif_ne (q := 44) (nx := 32) (by decide +kernel) (fun c6 => ?_) (fun c6 => ?_)
        · refine zwW_p [(0, -1, 0)] (q := 45) (ls' := [(2, 1), (0, a), (0, b)]) (st' := [(0, -1)]) (by decide +kernel) rfl ?_
          refine zwW_ret (nx := 46) (a := 0) (b := 0) (by decide +kernel) rfl (Or.inl rfl) ?_
          exact ⟨C, X.le (by decide) (by decide), by omega, by exact Or.inr ⟨by omega, by rfl, by omega⟩⟩
        · exfalso; omega
      · refine zwif_ne (q := 44) (nx := 32) (by decide +kernel) (fun c7 => ?_) (fun c7 => ?_)
        · exfalso; omega
        · refine zwW_p [(1, 0, 2)] (q := 33) (ls' := [(2, 1), (0, a), (0, b)]) (st' := [(2, 1)]) (by decide +kernel) rfl ?_
          refine zwW_gc C.1 (kd := 12) (bn := 8) (n := 13) (c := 13) (nx := 36) (by decide +kernel) ?_
          refine zwW_gs C.1 (kd := 9) (bn := 1) (n := 6) (t := 0) (lo := 0) (hi := 12) (nx := 39) (by decide +kernel) ?_
          intro v8 ev8 lv8 uv8
          refine zwW_p [(0, 12, 0)] (q := 41) (ls' := [(2, 1), (0, a), (0, b)]) (st' := [(0, 12), (0, v8)]) (by decide +kernel) rfl ?_
          refine zwic_lt (q := 46) (nx := 44) (by decide +kernel) (fun c9 => ?_) (fun c9 => ?_)
          · refine zwW_p [(1, 0, 2)] (q := 47) (ls' := [(2, 1), (0, a), (0, b)]) (st' := [(2, 1)]) (by decide +kernel) rfl ?_
            refine zwW_gc C.1 (kd := 12) (bn := 8) (n := 13) (c := 13) (nx := 50) (by decide +kernel) ?_
            refine zwW_p [(1, 0, 2)] (q := 51) (ls' := [(2, 1), (0, a), (0, b)]) (st' := [(2, 1), (2, 13)]) (by decide +kernel) rfl ?_
            refine zwW_gc C.1 (kd := 12) (bn := 8) (n := 13) (c := 13) (nx := 54) (by decide +kernel) ?_
            refine zwW_gc C.1 (kd := 9) (bn := 0) (n := 6) (c := 14) (nx := 57) (by decide +kernel) ?_
            refine zwW_p [(1, 1, 0)] (q := 58) (ls' := [(2, 1), (0, a), (0, b)]) (st' := [(0, a), (2, 14), (2, 13)]) (by decide +kernel) rfl ?_
            refine zwW_cm C.1 (op := 60) (k' := 123) (n := 1) (kd := 0) (m := 3) (nx := 61) (r := 14) (tl := [(0, a)]) (st' := [(2, 13)]) (by decide +kernel) rfl (by decide +kernel) rfl (x123_14 C (i := a) ⟨by omega, by omega⟩) ?_
            rintro v10 _ ⟨rfl, Gv10, ev10⟩
            have lv10 := Gv10.1
            refine zwW_cast (a := 10) (kd := 10) (n := 3) (nx := 64) (by decide +kernel) rfl (Or.inr Gv10.2.1) ?_
            refine zwW_p [(1, 2, 0)] (q := 65) (ls' := [(2, 1), (0, a), (0, b)]) (st' := [(0, b), (2, v10), (2, 13)]) (by decide +kernel) rfl ?_
            refine zwW_cmv C.1 (op := 60) (k' := 124) (n := 2) (kd := 9) (m := 6) (nx := 68) (r := 13) (tl := [(2, v10), (0, b)]) (st' := []) (by decide +kernel) rfl (by decide +kernel) rfl (x124_w h C v10 b Gv10 (by omega) (by omega) (by omega)) ?_
            rintro h14 ⟨Ch14, Qh14, f11, f12, f13⟩
            have Xh14 : zXR msx31_w (0) (0) h h14 := X.tr (c2 := 0) (s2 := 0) Qh14 (by decide +kernel) (by decide) (by decide)
            refine zwW_p [(1, 0, 2)] (q := 69) (ls' := [(2, 1), (0, a), (0, b)]) (st' := [(2, 1)]) (by decide +kernel) rfl ?_
            refine zwW_gc Ch14.1 (kd := 12) (bn := 8) (n := 13) (c := 13) (nx := 72) (by decide +kernel) ?_
            refine zwW_gs Ch14.1 (kd := 9) (bn := 1) (n := 6) (t := 0) (lo := 0) (hi := 12) (nx := 75) (by decide +kernel) ?_
            intro v15 ev15 lv15 uv15
            refine zwW_ret (nx := 76) (a := 0) (b := 0) (by decide +kernel) rfl (Or.inl rfl) ?_
            exact ⟨Ch14, Xh14.le (by decide) (by decide), by omega, by exact Or.inl ⟨by omega, by omega, by omega, by omega, by omega, by omega, by omega, by exact f12.trans (by rw [ev10]; rfl), by exact f13⟩⟩
          · refine zwW_p [(0, -1, 0)] (q := 45) (ls' := [(2, 1), (0, a), (0, b)]) (st' := [(0, -1)]) (by decide +kernel) rfl ?_
            refine zwW_ret (nx := 46) (a := 0) (b := 0) (by decide +kernel) rfl (Or.inl rfl) ?_
            exact ⟨C, X.le (by decide) (by decide), by omega, by exact Or.inr ⟨by omega, by rfl, by omega⟩⟩
-- WheelLand.why(II)I
theorem x33_w {sc : List Int} (h : Hp) (C : CI h) (a b : Int) (q_a : -2147483648 ≤ a ∧ a ≤ 2147483647) (q_b : -2147483648 ≤ b ∧ b ≤ 2147483647) (F : 0 ≤ a ∧ a ≤ 4 → zFrn h a) : zwC sc 3 33 [(2, 1), (0, a), (0, b)] h (zwRt 0 (fun x g => h = g ∧ (-2147483648 ≤ x ∧ x ≤ 2147483647) ∧ (x = zWhy h a b))) := by
  refine zwC_of (D := 2) 4 (by decide +kernel) rfl (ls := [(2, 1), (0, a), (0, b), (9, 0)]) rfl ?_
  refine zwW_p [(1, 1, 0), (0, 0, 0), (0, 4, 0)] (q := 3) (ls' := [(2, 1), (0, a), (0, b), (9, 0)]) (st' := [(0, 4), (0, 0), (0, a)]) (by decide +kernel) rfl ?_
  refine zwW_cs (k' := 98) (n := 3) (nx := 6) (as := [(0, a), (0, 0), (0, 4)]) (st' := []) (by decide +kernel) rfl (x98 h C a 0 4 (by omega) (by omega) (by omega)) rfl ?_
  rintro x _ ⟨rfl, ⟨rfl, c1⟩ | ⟨rfl, c1⟩⟩
  · refine zwif_ne (q := 20) (nx := 9) (by decide +kernel) (fun c2 => ?_) (fun c2 => ?_)
    · refine zwW_p [(0, -1, 0)] (q := 21) (ls' := [(2, 1), (0, a), (0, b), (9, 0)]) (st' := [(0, -1)]) (by decide +kernel) rfl ?_
      refine zwW_ret (nx := 22) (a := 0) (b := 0) (by decide +kernel) rfl (Or.inl rfl) ?_
      exact ⟨rfl, by omega, by first | exact zWhy_o (by omega) | exact zWhy_n ⟨⟨by omega, by omega⟩, by omega, by omega⟩ ZN | exact zWhy_y ⟨⟨by omega, by omega⟩, by omega, by omega⟩ (F ⟨by omega, by omega⟩) ZY (by assumption)⟩
    · exfalso; omega
  · refine zwif_ne (q := 20) (nx := 9) (by decide +kernel) (fun c3 => ?_) (fun c3 => ?_)
    · exfalso; omega
    · refine zwW_p [(1, 2, 0), (0, 0, 0), (0, 155, 0)] (q := 14) (ls' := [(2, 1), (0, a), (0, b), (9, 0)]) (st' := [(0, 155), (0, 0), (0, b)]) (by decide +kernel) rfl ?_
      refine zwW_cs (k' := 98) (n := 3) (nx := 17) (as := [(0, b), (0, 0), (0, 155)]) (st' := []) (by decide +kernel) rfl (x98 h C b 0 155 (by omega) (by omega) (by omega)) rfl ?_
      rintro x _ ⟨rfl, ⟨rfl, c4⟩ | ⟨rfl, c4⟩⟩
      · refine zwif_eq (q := 22) (nx := 20) (by decide +kernel) (fun c5 => ?_) (fun c5 => ?_)
        · exfalso; omega
        · refine zwW_p [(0, -1, 0)] (q := 21) (ls' := [(2, 1), (0, a), (0, b), (9, 0)]) (st' := [(0, -1)]) (by decide +kernel) rfl ?_
          refine zwW_ret (nx := 22) (a := 0) (b := 0) (by decide +kernel) rfl (Or.inl rfl) ?_
          exact ⟨rfl, by omega, by first | exact zWhy_o (by omega) | exact zWhy_n ⟨⟨by omega, by omega⟩, by omega, by omega⟩ ZN | exact zWhy_y ⟨⟨by omega, by omega⟩, by omega, by omega⟩ (F ⟨by omega, by omega⟩) ZY (by assumption)⟩
      · refine zwif_eq (q := 22) (nx := 20) (by decide +kernel) (fun c6 => ?_) (fun c6 => ?_)
        · refine zwW_p [(1, 0, 2)] (q := 23) (ls' := [(2, 1), (0, a), (0, b), (9, 0)]) (st' := [(2, 1)]) (by decide +kernel) rfl ?_
          refine zwW_gc C.1 (kd := 12) (bn := 8) (n := 13) (c := 13) (nx := 26) (by decide +kernel) ?_
          refine zwW_p [(1, 1, 0), (1, 2, 0)] (q := 28) (ls' := [(2, 1), (0, a), (0, b), (9, 0)]) (st' := [(0, b), (0, a), (2, 13)]) (by decide +kernel) rfl ?_
          refine zwW_cm C.1 (op := 60) (k' := 125) (n := 2) (kd := 9) (m := 6) (nx := 31) (r := 13) (tl := [(0, a), (0, b)]) (st' := []) (by decide +kernel) rfl (by decide +kernel) rfl (x125_w h C a b (by omega) (by omega) ⟨by omega, by omega⟩ (F ⟨by omega, by omega⟩).1) ?_
          rintro v8 _ ⟨rfl, ⟨rfl, c7⟩ | ⟨Gv8, c7⟩⟩
          · refine zwW_p [(2, 3, 2), (1, 3, 2)] (q := 33) (ls' := [(2, 1), (0, a), (0, b), (2, 0)]) (st' := [(2, 0)]) (by decide +kernel) rfl ?_
            refine zwnu_ne (q := 40) (nx := 36) (by decide +kernel) (by decide) (fun c9 => ?_) (fun c9 => ?_)
            · exfalso; omega
            · have ZN : zBw h a b (fld h 13 1).toNat = -1 := by assumption
              refine zwW_p [(0, -1, 0), (24, 44, 0)] (q := 44) (ls' := [(2, 1), (0, a), (0, b), (2, 0)]) (st' := [(0, -1)]) (by decide +kernel) rfl ?_
              have ZZ : True := trivial
              refine zwW_ret (nx := 45) (a := 0) (b := 0) (by decide +kernel) rfl (Or.inl rfl) ?_
              exact ⟨rfl, by omega, by first | exact zWhy_o (by omega) | exact zWhy_n ⟨⟨by omega, by omega⟩, by omega, by omega⟩ ZN | exact zWhy_y ⟨⟨by omega, by omega⟩, by omega, by omega⟩ (F ⟨by omega, by omega⟩) ZY (by assumption)⟩
          · have lv8 := Gv8.1
            refine zwW_p [(2, 3, 2), (1, 3, 2)] (q := 33) (ls' := [(2, 1), (0, a), (0, b), (2, v8)]) (st' := [(2, v8)]) (by decide +kernel) rfl ?_
            refine zwnu_ne (q := 40) (nx := 36) (by decide +kernel) (by omega) (fun c10 => ?_) (fun c10 => ?_)
            · refine zwW_p [(1, 3, 2)] (q := 41) (ls' := [(2, 1), (0, a), (0, b), (2, v8)]) (st' := [(2, v8)]) (by decide +kernel) rfl ?_
              have ZY : 0 ≤ zBw h a b (fld h 13 1).toNat ∧ v8 = fld h 15 (zBw h a b (fld h 13 1).toNat).toNat := by assumption
              refine zwX_gi C (kd := 10) (bn := 0) (n := 3) (nx := 44) (by decide +kernel) Gv8.2.1 Gv8.1 rfl ?_
              intro v11 ev11 lv11 uv11
              have ZZ : True := trivial
              refine zwW_ret (nx := 45) (a := 0) (b := 0) (by decide +kernel) rfl (Or.inl rfl) ?_
              exact ⟨rfl, by omega, by first | exact zWhy_o (by omega) | exact zWhy_n ⟨⟨by omega, by omega⟩, by omega, by omega⟩ ZN | exact zWhy_y ⟨⟨by omega, by omega⟩, by omega, by omega⟩ (F ⟨by omega, by omega⟩) ZY (by assumption)⟩
            · exfalso; omega
        · exfalso; omega
def msx235_v : Zms := [(1020, 1020, 0, 100000)]
-- WheelLand$Village.noteMillPrice(I)V
theorem x235_v {sc : List Int} (h : Hp) (C : CI h) (r a : Int) (G_r : gV h r) (q_a : -2147483648 ≤ a ∧ a ≤ 2147483647) : zwC sc 1 235 [(2, r), (0, a)] h (zwRv (fun g => CI g ∧ zXR msx235_v (0) (0) h g ∧ (∀ q : Int, q ≠ fld h r 16 → fld g q = fld h q))) := by
  refine zwC_of (D := 0) 2 (by decide +kernel) rfl (ls := [(2, r), (0, a)]) rfl ?_
  have lw_r := G_r.1
  have X : zXR msx235_v 0 0 h h := zXR.rf _ _
  refine zwW_p [(1, 1, 0)] (q := 1) (ls' := [(2, r), (0, a)]) (st' := [(0, a)]) (by decide +kernel) rfl ?_
  refine zwif_lt (q := 23) (nx := 4) (by decide +kernel) (fun c1 => ?_) (fun c1 => ?_)
  · refine zwW_retv (nx := 24) (a := 0) (b := 0) (by decide +kernel) ?_
    exact ⟨C, X.le (by decide) (by decide), by first | exact fun _ _ => rfl | exact W22 | exact fun q hq => W22 q (fun z => hq (z.trans erfl.symm))⟩
  · refine zwW_p [(1, 1, 0), (1, 0, 2)] (q := 6) (ls' := [(2, r), (0, a)]) (st' := [(2, r), (0, a)]) (by decide +kernel) rfl ?_
    refine zwW_get (kd := 11) (bn := 16) (t := 2) (n := 17) (nx := 9) (by decide +kernel) G_r.2.1 rfl ?_
    obtain ⟨v2, ev2⟩ : ∃ z, z = fld h r 16 := ⟨_, rfl⟩
    rw [← ev2]
    have Gv2 : gA 157 h v2 := by rw [ev2]; exact G_r.2.2
    have lv2 := Gv2.1
    refine zwW_len (n := 157) (nx := 10) (by decide +kernel) Gv2.2 rfl ?_
    refine zwic_ge (q := 23) (nx := 13) (by decide +kernel) (fun c3 => ?_) (fun c3 => ?_)
    · refine zwW_retv (nx := 24) (a := 0) (b := 0) (by decide +kernel) ?_
      exact ⟨C, X.le (by decide) (by decide), by first | exact fun _ _ => rfl | exact W22 | exact fun q hq => W22 q (fun z => hq (z.trans erfl.symm))⟩
    · refine zwW_p [(1, 0, 2)] (q := 14) (ls' := [(2, r), (0, a)]) (st' := [(2, r)]) (by decide +kernel) rfl ?_
      refine zwW_get (kd := 11) (bn := 16) (t := 2) (n := 17) (nx := 17) (by decide +kernel) G_r.2.1 rfl ?_
      rw [← ev2]
      refine zwW_p [(1, 1, 0), (1, 0, 2)] (q := 19) (ls' := [(2, r), (0, a)]) (st' := [(2, r), (0, a), (2, v2)]) (by decide +kernel) rfl ?_
      refine zwX_gi C (kd := 11) (bn := 9) (n := 17) (nx := 22) (by decide +kernel) G_r.2.1 G_r.1 rfl ?_
      intro v5 ev5 lv5 uv5
      refine zwX_si C (n := 157) (nx := 23) (by decide +kernel) Gv2.2 Gv2.1 ⟨by omega, by omega⟩ ⟨by omega, by omega⟩ (by omega) ?_
      rintro h6 eh6 Ch6 Qh6
      have W22 : ∀ q : Int, q ≠ fld h r 16 → fld h6 q = fld h q := fun q hq => fld_o eh6 (fun z => hq (z.trans ev2))
      have Xh6 : zXR msx235_v (0) (0) h h6 := X.tr (c2 := 0) (s2 := 0) Qh6 (by decide +kernel) (by decide) (by decide)
      have Gh6_0 : gV h6 r := G_r.x Qh6
      refine zwW_retv (nx := 24) (a := 0) (b := 0) (by decide +kernel) ?_
      exact ⟨Ch6, Xh6.le (by decide) (by decide), by first | exact fun _ _ => rfl | exact W22 | exact fun q hq => W22 q (fun z => hq (z.trans ev2.symm))⟩
def msx193_v : Zms := [(1004, 1004, 14, 15), (1020, 1020, 0, 100000)]
-- WheelLand.beginWeek()V
theorem x193_v {sc : List Int} (h : Hp) (C : CI h) : zwC sc 5 193 [(2, 1)] h (zwRv (fun g => CI g ∧ zXR msx193_v (0) (0) h g ∧ (zKw h g))) := by
  refine zwC_of (D := 4) 2 (by decide +kernel) rfl (ls := [(2, 1), (9, 0)]) rfl ?_
  have X : zXR msx193_v 0 0 h h := zXR.rf _ _
  have K : zKw h h := zKw.rf
  refine zwW_p [(0, 0, 0), (2, 1, 0)] (q := 2) (ls' := [(2, 1), (0, 0)]) (st' := []) (by decide +kernel) rfl ?_
  have L1 : ∀ (n0 : Nat) (v1L1 : Int) (hL1 : Hp), n0 = ((1000 - v1L1)).toNat → (zKw h hL1) → (0 ≤ v1L1 ∧ v1L1 ≤ 1000) → CI hL1 → zXR msx193_v (0) (0) h hL1 → zwW sc (4) 193 2 [(2, 1), (0, v1L1)] [] hL1 (zwRv (fun g => CI g ∧ zXR msx193_v (0) (0) h g ∧ (zKw h g))) := by
    intro n0
    induction n0 using Nat.strongRecOn with
    | ind n0 IHL1 =>
      intro v1L1 hL1 hnL1 iL1_0 iL1_1 ChL1 XhL1
      refine zwW_p [(1, 1, 0), (1, 0, 2)] (q := 4) (ls' := [(2, 1), (0, v1L1)]) (st' := [(2, 1), (0, v1L1)]) (by decide +kernel) rfl ?_
      refine zwW_gc ChL1.1 (kd := 12) (bn := 2) (n := 13) (c := 2) (nx := 7) (by decide +kernel) ?_
      refine zwW_cm ChL1.1 (op := 60) (k' := 96) (n := 0) (kd := 0) (m := 3) (nx := 10) (r := 2) (tl := []) (st' := [(0, v1L1)]) (by decide +kernel) rfl (by decide +kernel) rfl (x96_2 ChL1) ?_
      rintro v2 _ ⟨rfl, ev2⟩
      have bv2 := zLb_2 ChL1
      refine zwic_ge (q := 37) (nx := 13) (by decide +kernel) (fun c3 => ?_) (fun c3 => ?_)
      · refine zwW_p [(0, 0, 0), (2, 1, 0)] (q := 39) (ls' := [(2, 1), (0, 0)]) (st' := []) (by decide +kernel) rfl ?_
        have L4 : ∀ (n0 : Nat) (v1L4 : Int) (hL4 : Hp), n0 = ((1000 - v1L4)).toNat → (zKw h hL4) → (0 ≤ v1L4 ∧ v1L4 ≤ 1000) → CI hL4 → zXR msx193_v (0) (0) h hL4 → zwW sc (4) 193 39 [(2, 1), (0, v1L4)] [] hL4 (zwRv (fun g => CI g ∧ zXR msx193_v (0) (0) h g ∧ (zKw h g))) := by
          intro n0
          induction n0 using Nat.strongRecOn with
          | ind n0 IHL4 =>
            intro v1L4 hL4 hnL4 iL4_0 iL4_1 ChL4 XhL4
            refine zwW_p [(1, 1, 0), (1, 0, 2)] (q := 41) (ls' := [(2, 1), (0, v1L4)]) (st' := [(2, 1), (0, v1L4)]) (by decide +kernel) rfl ?_
            refine zwW_gc ChL4.1 (kd := 12) (bn := 3) (n := 13) (c := 3) (nx := 44) (by decide +kernel) ?_
            refine zwW_cm ChL4.1 (op := 60) (k' := 96) (n := 0) (kd := 0) (m := 3) (nx := 47) (r := 3) (tl := []) (st' := [(0, v1L4)]) (by decide +kernel) rfl (by decide +kernel) rfl (x96_3 ChL4) ?_
            rintro v5 _ ⟨rfl, ev5⟩
            have bv5 := zLb_3 ChL4
            refine zwic_ge (q := 71) (nx := 50) (by decide +kernel) (fun c6 => ?_) (fun c6 => ?_)
            · refine zwW_retv (nx := 72) (a := 0) (b := 0) (by decide +kernel) ?_
              exact ⟨ChL4, XhL4.le (by decide) (by decide), by exact iL4_0⟩
            · refine zwW_p [(1, 0, 2)] (q := 51) (ls' := [(2, 1), (0, v1L4)]) (st' := [(2, 1)]) (by decide +kernel) rfl ?_
              refine zwW_gc ChL4.1 (kd := 12) (bn := 3) (n := 13) (c := 3) (nx := 54) (by decide +kernel) ?_
              refine zwW_p [(1, 1, 0)] (q := 55) (ls' := [(2, 1), (0, v1L4)]) (st' := [(0, v1L4), (2, 3)]) (by decide +kernel) rfl ?_
              refine zwW_cm ChL4.1 (op := 60) (k' := 123) (n := 1) (kd := 0) (m := 3) (nx := 58) (r := 3) (tl := [(0, v1L4)]) (st' := []) (by decide +kernel) rfl (by decide +kernel) rfl (x123_3 ChL4 (i := v1L4) ⟨by omega, by omega⟩) ?_
              rintro v7 _ ⟨rfl, Gv7, ev7⟩
              have lv7 := Gv7.1
              refine zwW_cast (a := 4) (kd := 4) (n := 19) (nx := 61) (by decide +kernel) rfl (Or.inr Gv7.2.1) ?_
              refine zwW_p [(0, 0, 0)] (q := 62) (ls' := [(2, 1), (0, v1L4)]) (st' := [(0, 0), (2, v7)]) (by decide +kernel) rfl ?_
              refine zwX_pi ChL4 (kd := 4) (bn := 14) (n := 19) (nx := 65) (by decide +kernel) Gv7.2.1 Gv7.1 ⟨by decide, by decide⟩ ?_
              rintro h8 eh8 Ch8 Qh8
              have Xh8 : zXR msx193_v (0) (0) h h8 := XhL4.tr (c2 := 0) (s2 := 0) Qh8 (by decide +kernel) (by decide) (by decide)
              have Kh8 : zKw h h8 := iL4_0.fr Qh8 (by decide +kernel)
              refine zwW_inc (i := 1) (c := 1) (x := v1L4) (nx := 68) (by decide +kernel) rfl ⟨by omega, by omega⟩ (ls' := [(2, 1), (0, (v1L4 + 1))]) rfl ?_
              refine zwW_p [(24, 39, 0)] (q := 39) (ls' := [(2, 1), (0, (v1L4 + 1))]) (st' := []) (by decide +kernel) rfl ?_
              exact IHL4 ((1000 - (v1L4 + 1))).toNat (by omega) (v1L4 + 1) h8 rfl (Kh8) (by omega) Ch8 (Xh8.le (by decide) (by decide))
        exact L4 _ 0 hL1 rfl (iL1_0) (by omega) ChL1 (XhL1.le (by decide) (by decide))
      · refine zwW_p [(1, 0, 2)] (q := 14) (ls' := [(2, 1), (0, v1L1)]) (st' := [(2, 1)]) (by decide +kernel) rfl ?_
        refine zwW_gc ChL1.1 (kd := 12) (bn := 2) (n := 13) (c := 2) (nx := 17) (by decide +kernel) ?_
        refine zwW_p [(1, 1, 0)] (q := 18) (ls' := [(2, 1), (0, v1L1)]) (st' := [(0, v1L1), (2, 2)]) (by decide +kernel) rfl ?_
        refine zwW_cm ChL1.1 (op := 60) (k' := 123) (n := 1) (kd := 0) (m := 3) (nx := 21) (r := 2) (tl := [(0, v1L1)]) (st' := []) (by decide +kernel) rfl (by decide +kernel) rfl (x123_2 ChL1 (i := v1L1) ⟨by omega, by omega⟩) ?_
        rintro v9 _ ⟨rfl, Gv9, ev9⟩
        have lv9 := Gv9.1
        refine zwW_cast (a := 11) (kd := 11) (n := 17) (nx := 24) (by decide +kernel) rfl (Or.inr Gv9.2.1) ?_
        refine zwW_p [(1, 0, 2)] (q := 25) (ls' := [(2, 1), (0, v1L1)]) (st' := [(2, 1), (2, v9)]) (by decide +kernel) rfl ?_
        refine zwW_gs ChL1.1 (kd := 12) (bn := 0) (n := 13) (t := 0) (lo := 0) (hi := 156) (nx := 28) (by decide +kernel) ?_
        intro v10 ev10 lv10 uv10
        have R28 := XhL1
        have K28 := iL1_0
        refine zwW_cvv (op := 60) (k' := 235) (n := 1) (kd := 11) (m := 17) (nx := 31) (r := v9) (tl := [(0, v10)]) (st' := []) (by decide +kernel) rfl (by decide +kernel) Gv9.2.1 (x235_v hL1 ChL1 v9 v10 Gv9 (by omega)) rfl ?_
        rintro h12 ⟨Ch12, Qh12, f11⟩
        have Xh12 : zXR msx193_v (0) (0) h h12 := XhL1.tr (c2 := 0) (s2 := 0) Qh12 (by decide +kernel) (by decide) (by decide)
        have KN := K28.st C R28 (by decide +kernel) f11 ev9 (by omega) Qh12.1
        refine zwW_inc (i := 1) (c := 1) (x := v1L1) (nx := 34) (by decide +kernel) rfl ⟨by omega, by omega⟩ (ls' := [(2, 1), (0, (v1L1 + 1))]) rfl ?_
        refine zwW_p [(24, 2, 0)] (q := 2) (ls' := [(2, 1), (0, (v1L1 + 1))]) (st' := []) (by decide +kernel) rfl ?_
        exact IHL1 ((1000 - (v1L1 + 1))).toNat (by omega) (v1L1 + 1) h12 rfl (KN) (by omega) Ch12 (Xh12.le (by decide) (by decide))
  exact L1 _ 0 h rfl (K) (by omega) C (X.le (by decide) (by decide))
def msx113_v : Zms := [(1, 1, 0, 1), (1, 1, 1, 2), (4, 4, 0, 3), (17, 17, 0, 13), (18, 18, 0, 400), (34, 34, 2, 3), (35, 35, 0, 936), (36, 36, 0, 8), (1004, 1004, 6, 7), (1004, 1004, 8, 9), (1004, 1004, 9, 10), (1004, 1004, 10, 11), (1004, 1004, 14, 15), (1004, 1004, 15, 16), (1004, 1004, 18, 19), (1011, 1011, 3, 4), (1011, 1011, 4, 5), (1011, 1011, 5, 6), (1011, 1011, 6, 7), (1011, 1011, 7, 8), (1011, 1011, 9, 10), (1011, 1011, 10, 11), (1011, 1011, 13, 14), (1011, 1011, 14, 15), (1011, 1011, 15, 16), (1020, 1020, 0, 100000)]
-- WheelLand.endWeek()V
theorem x113_v {sc : List Int} (h : Hp) (C : CI h) (p1 : fld h 1 0 < 156) (hl : h.length ≤ 999920000) : zwC sc 8 113 [(2, 1)] h (zwRv (fun g => CI g ∧ zXR msx113_v (0) (0) h g ∧ (fld g 1 0 = fld h 1 0 + 1) ∧ (zKw h g))) := by
  refine zwC_of (D := 7) 2 (by decide +kernel) rfl (ls := [(2, 1), (9, 0)]) rfl ?_
  have X : zXR msx113_v 0 0 h h := zXR.rf _ _
  have K : zKw h h := zKw.rf
  refine zwW_p [(1, 0, 2)] (q := 1) (ls' := [(2, 1), (9, 0)]) (st' := [(2, 1)]) (by decide +kernel) rfl ?_
  refine zwW_cm C.1 (op := 60) (k' := 185) (n := 0) (kd := 12) (m := 13) (nx := 4) (r := 1) (tl := []) (st' := []) (by decide +kernel) rfl (by decide +kernel) rfl (x185 h C (by omega)) ?_
  rintro v2 h3 ⟨Ch3, Qh3, f1⟩
  have Xh3 : zXR msx113_v (0) (0) h h3 := X.tr (c2 := 0) (s2 := 0) Qh3 (by decide +kernel) (by decide) (by decide)
  have th3_1_0 : fld h3 1 0 = fld h 1 0 := Qh3.f (a1 := 1) (a2 := 1) (j1 := 0) (j2 := 1) (by decide +kernel) ⟨by decide, by decide⟩ ⟨by decide, by decide⟩ ⟨by decide, by decide⟩
  have Kh3 : zKw h h3 := K.fr Qh3 (by decide +kernel)
  refine zwW_p [(2, 1, 0), (1, 0, 2)] (q := 6) (ls' := [(2, 1), (0, v2)]) (st' := [(2, 1)]) (by decide +kernel) rfl ?_
  refine zwW_cmv Ch3.1 (op := 60) (k' := 186) (n := 0) (kd := 12) (m := 13) (nx := 9) (r := 1) (tl := []) (st' := []) (by decide +kernel) rfl (by decide +kernel) rfl (x186 h3 Ch3) ?_
  rintro h4 ⟨Ch4, Qh4⟩
  have Xh4 : zXR msx113_v (0) (0) h h4 := Xh3.tr (c2 := 0) (s2 := 0) Qh4 (by decide +kernel) (by decide) (by decide)
  have th4_1_0 : fld h4 1 0 = fld h3 1 0 := Qh4.f (a1 := 1) (a2 := 1) (j1 := 0) (j2 := 1) (by decide +kernel) ⟨by decide, by decide⟩ ⟨by decide, by decide⟩ ⟨by decide, by decide⟩
  have Kh4 : zKw h h4 := Kh3.fr Qh4 (by decide +kernel)
  refine zwW_p [(1, 0, 2)] (q := 10) (ls' := [(2, 1), (0, v2)]) (st' := [(2, 1)]) (by decide +kernel) rfl ?_
  refine zwW_cmv Ch4.1 (op := 60) (k' := 187) (n := 0) (kd := 12) (m := 13) (nx := 13) (r := 1) (tl := []) (st' := []) (by decide +kernel) rfl (by decide +kernel) rfl (x187 h4 Ch4) ?_
  rintro h5 ⟨Ch5, Qh5⟩
  have Xh5 : zXR msx113_v (0) (0) h h5 := Xh4.tr (c2 := 0) (s2 := 0) Qh5 (by decide +kernel) (by decide) (by decide)
  have th5_1_0 : fld h5 1 0 = fld h4 1 0 := Qh5.f (a1 := 1) (a2 := 1) (j1 := 0) (j2 := 1) (by decide +kernel) ⟨by decide, by decide⟩ ⟨by decide, by decide⟩ ⟨by decide, by decide⟩
  have Kh5 : zKw h h5 := Kh4.fr Qh5 (by decide +kernel)
  refine zwW_p [(1, 0, 2)] (q := 14) (ls' := [(2, 1), (0, v2)]) (st' := [(2, 1)]) (by decide +kernel) rfl ?_
  refine zwW_gs Ch5.1 (kd := 12) (bn := 0) (n := 13) (t := 0) (lo := 0) (hi := 156) (nx := 17) (by decide +kernel) ?_
  intro v6 ev6 lv6 uv6
  refine zwW_p [(0, 13, 0)] (q := 19) (ls' := [(2, 1), (0, v2)]) (st' := [(0, 13), (0, v6)]) (by decide +kernel) rfl ?_
  refine zwW_rem (nx := 20) (by decide +kernel) (by omega) (by omega) ?_
  refine zwW_p [(0, 12, 0)] (q := 22) (ls' := [(2, 1), (0, v2)]) (st' := [(0, 12), (0, (v6 % 13))]) (by decide +kernel) rfl ?_
  refine zwic_ne (q := 33) (nx := 25) (by decide +kernel) (fun c7 => ?_) (fun c7 => ?_)
  · refine zwW_p [(1, 0, 2)] (q := 34) (ls' := [(2, 1), (0, v2)]) (st' := [(2, 1)]) (by decide +kernel) rfl ?_
    refine zwW_gc Ch5.1 (kd := 12) (bn := 11) (n := 13) (c := 34) (nx := 37) (by decide +kernel) ?_
    refine zwW_p [(1, 0, 2)] (q := 38) (ls' := [(2, 1), (0, v2)]) (st' := [(2, 1), (2, 34)]) (by decide +kernel) rfl ?_
    refine zwW_gs Ch5.1 (kd := 12) (bn := 0) (n := 13) (t := 0) (lo := 0) (hi := 156) (nx := 41) (by decide +kernel) ?_
    intro v8 ev8 lv8 uv8
    refine zwW_p [(1, 0, 2)] (q := 42) (ls' := [(2, 1), (0, v2)]) (st' := [(2, 1), (0, v8), (2, 34)]) (by decide +kernel) rfl ?_
    refine zwW_cm Ch5.1 (op := 60) (k' := 190) (n := 0) (kd := 12) (m := 13) (nx := 45) (r := 1) (tl := []) (st' := [(0, v8), (2, 34)]) (by decide +kernel) rfl (by decide +kernel) rfl (x190 h5 Ch5) ?_
    rintro v9 _ ⟨rfl, f10⟩
    refine zwW_p [(1, 1, 0), (1, 0, 2)] (q := 47) (ls' := [(2, 1), (0, v2)]) (st' := [(2, 1), (0, v2), (0, v9), (0, v8), (2, 34)]) (by decide +kernel) rfl ?_
    refine zwW_cm Ch5.1 (op := 60) (k' := 191) (n := 0) (kd := 12) (m := 13) (nx := 50) (r := 1) (tl := []) (st' := [(0, v2), (0, v9), (0, v8), (2, 34)]) (by decide +kernel) rfl (by decide +kernel) rfl (x191 h5 Ch5) ?_
    rintro v11 _ ⟨rfl, f12⟩
    refine zwW_cmv Ch5.1 (op := 60) (k' := 192) (n := 4) (kd := 5) (m := 4) (nx := 53) (r := 34) (tl := [(0, v8), (0, v9), (0, v2), (0, v11)]) (st' := []) (by decide +kernel) rfl (by decide +kernel) rfl (x192 h5 Ch5 v8 v9 v2 v11 (by omega) (by omega) (by omega) (by omega) (by omega)) ?_
    rintro h13 ⟨Ch13, Qh13⟩
    have Xh13 : zXR msx113_v (0) (0) h h13 := Xh5.tr (c2 := 0) (s2 := 0) Qh13 (by decide +kernel) (by decide) (by decide)
    have th13_1_0 : fld h13 1 0 = fld h5 1 0 := Qh13.f (a1 := 1) (a2 := 1) (j1 := 0) (j2 := 1) (by decide +kernel) ⟨by decide, by decide⟩ ⟨by decide, by decide⟩ ⟨by decide, by decide⟩
    have Kh13 : zKw h h13 := Kh5.fr Qh13 (by decide +kernel)
    refine zwW_p [(1, 0, 2), (12, 0, 0)] (q := 55) (ls' := [(2, 1), (0, v2)]) (st' := [(2, 1), (2, 1)]) (by decide +kernel) rfl ?_
    refine zwW_gs Ch13.1 (kd := 12) (bn := 0) (n := 13) (t := 0) (lo := 0) (hi := 156) (nx := 58) (by decide +kernel) ?_
    intro v14 ev14 lv14 uv14
    refine zwW_p [(0, 1, 0)] (q := 59) (ls' := [(2, 1), (0, v2)]) (st' := [(0, 1), (0, v14), (2, 1)]) (by decide +kernel) rfl ?_
    refine zwW_add (nx := 60) (by decide +kernel) ⟨by omega, by omega⟩ ?_
    refine zwW_ps Ch13.1 (kd := 12) (bn := 0) (n := 13) (lo := 0) (hi := 156) (nx := 63) (by decide +kernel) ⟨by omega, by omega⟩ ?_
    intro h15 eh15 Ih15
    have Ch15 : CI h15 := Ch13.wc eh15 Ih15 (by decide) (by decide)
    have Qh15 : zXR [(1, 1, 0, 1)] 0 0 h13 h15 := zXR.wc eh15 rfl ⟨by decide, by decide, Or.inl (by decide)⟩ ⟨by decide, by decide⟩
    have Xh15 : zXR msx113_v (0) (0) h h15 := Xh13.tr (c2 := 0) (s2 := 0) Qh15 (by decide +kernel) (by decide) (by decide)
    have Kh15 : zKw h h15 := Kh13.fr Qh15 (by decide +kernel)
    have th15_1_0 : fld h15 1 0 = (v14 + 1) := by rw [eh15]; exact fld_wr_eq (Ch13.1.s (a1 := 1) (a2 := 1) (k := 12) (n := 13) (by decide +kernel) (by decide) (by decide)) (by decide)
    refine zwW_p [(1, 0, 2)] (q := 64) (ls' := [(2, 1), (0, v2)]) (st' := [(2, 1)]) (by decide +kernel) rfl ?_
    have R64 := Xh15
    have K64 := Kh15
    refine zwW_cmv Ch15.1 (op := 60) (k' := 193) (n := 0) (kd := 12) (m := 13) (nx := 67) (r := 1) (tl := []) (st' := []) (by decide +kernel) rfl (by decide +kernel) rfl (x193_v h15 Ch15) ?_
    rintro h17 ⟨Ch17, Qh17, f16⟩
    have Xh17 : zXR msx113_v (0) (0) h h17 := Xh15.tr (c2 := 0) (s2 := 0) Qh17 (by decide +kernel) (by decide) (by decide)
    have th17_1_0 : fld h17 1 0 = fld h15 1 0 := Qh17.f (a1 := 1) (a2 := 1) (j1 := 0) (j2 := 1) (by decide +kernel) ⟨by decide, by decide⟩ ⟨by decide, by decide⟩ ⟨by decide, by decide⟩
    have KN := K64.tr C R64 (by decide +kernel) f16
    refine zwW_retv (nx := 68) (a := 0) (b := 0) (by decide +kernel) ?_
    exact ⟨Ch17, Xh17.le (by decide) (by decide), by omega, by exact KN⟩
  · refine zwW_p [(1, 0, 2)] (q := 26) (ls' := [(2, 1), (0, v2)]) (st' := [(2, 1)]) (by decide +kernel) rfl ?_
    refine zwW_cmv Ch5.1 (op := 60) (k' := 188) (n := 0) (kd := 12) (m := 13) (nx := 29) (r := 1) (tl := []) (st' := []) (by decide +kernel) rfl (by decide +kernel) rfl (x188 h5 Ch5) ?_
    rintro h18 ⟨Ch18, Qh18⟩
    have Xh18 : zXR msx113_v (0) (0) h h18 := Xh5.tr (c2 := 0) (s2 := 0) Qh18 (by decide +kernel) (by decide) (by decide)
    have th18_1_0 : fld h18 1 0 = fld h5 1 0 := Qh18.f (a1 := 1) (a2 := 1) (j1 := 0) (j2 := 1) (by decide +kernel) ⟨by decide, by decide⟩ ⟨by decide, by decide⟩ ⟨by decide, by decide⟩
    have Kh18 : zKw h h18 := Kh5.fr Qh18 (by decide +kernel)
    refine zwW_p [(1, 0, 2)] (q := 30) (ls' := [(2, 1), (0, v2)]) (st' := [(2, 1)]) (by decide +kernel) rfl ?_
    refine zwW_cmv Ch18.1 (op := 60) (k' := 189) (n := 0) (kd := 12) (m := 13) (nx := 33) (r := 1) (tl := []) (st' := []) (by decide +kernel) rfl (by decide +kernel) rfl (x189 h18 Ch18) ?_
    rintro h19 ⟨Ch19, Qh19⟩
    have Xh19 : zXR msx113_v (0) (0) h h19 := Xh18.tr (c2 := 0) (s2 := 0) Qh19 (by decide +kernel) (by decide) (by decide)
    have th19_1_0 : fld h19 1 0 = fld h18 1 0 := Qh19.f (a1 := 1) (a2 := 1) (j1 := 0) (j2 := 1) (by decide +kernel) ⟨by decide, by decide⟩ ⟨by decide, by decide⟩ ⟨by decide, by decide⟩
    have Kh19 : zKw h h19 := Kh18.fr Qh19 (by decide +kernel)
    refine zwW_p [(1, 0, 2)] (q := 34) (ls' := [(2, 1), (0, v2)]) (st' := [(2, 1)]) (by decide +kernel) rfl ?_
    refine zwW_gc Ch19.1 (kd := 12) (bn := 11) (n := 13) (c := 34) (nx := 37) (by decide +kernel) ?_
    refine zwW_p [(1, 0, 2)] (q := 38) (ls' := [(2, 1), (0, v2)]) (st' := [(2, 1), (2, 34)]) (by decide +kernel) rfl ?_
    refine zwW_gs Ch19.1 (kd := 12) (bn := 0) (n := 13) (t := 0) (lo := 0) (hi := 156) (nx := 41) (by decide +kernel) ?_
    intro v20 ev20 lv20 uv20
    refine zwW_p [(1, 0, 2)] (q := 42) (ls' := [(2, 1), (0, v2)]) (st' := [(2, 1), (0, v20), (2, 34)]) (by decide +kernel) rfl ?_
    refine zwW_cm Ch19.1 (op := 60) (k' := 190) (n := 0) (kd := 12) (m := 13) (nx := 45) (r := 1) (tl := []) (st' := [(0, v20), (2, 34)]) (by decide +kernel) rfl (by decide +kernel) rfl (x190 h19 Ch19) ?_
    rintro v21 _ ⟨rfl, f22⟩
    refine zwW_p [(1, 1, 0), (1, 0, 2)] (q := 47) (ls' := [(2, 1), (0, v2)]) (st' := [(2, 1), (0, v2), (0, v21), (0, v20), (2, 34)]) (by decide +kernel) rfl ?_
    refine zwW_cm Ch19.1 (op := 60) (k' := 191) (n := 0) (kd := 12) (m := 13) (nx := 50) (r := 1) (tl := []) (st' := [(0, v2), (0, v21), (0, v20), (2, 34)]) (by decide +kernel) rfl (by decide +kernel) rfl (x191 h19 Ch19) ?_
    rintro v23 _ ⟨rfl, f24⟩
    refine zwW_cmv Ch19.1 (op := 60) (k' := 192) (n := 4) (kd := 5) (m := 4) (nx := 53) (r := 34) (tl := [(0, v20), (0, v21), (0, v2), (0, v23)]) (st' := []) (by decide +kernel) rfl (by decide +kernel) rfl (x192 h19 Ch19 v20 v21 v2 v23 (by omega) (by omega) (by omega) (by omega) (by omega)) ?_
    rintro h25 ⟨Ch25, Qh25⟩
    have Xh25 : zXR msx113_v (0) (0) h h25 := Xh19.tr (c2 := 0) (s2 := 0) Qh25 (by decide +kernel) (by decide) (by decide)
    have th25_1_0 : fld h25 1 0 = fld h19 1 0 := Qh25.f (a1 := 1) (a2 := 1) (j1 := 0) (j2 := 1) (by decide +kernel) ⟨by decide, by decide⟩ ⟨by decide, by decide⟩ ⟨by decide, by decide⟩
    have Kh25 : zKw h h25 := Kh19.fr Qh25 (by decide +kernel)
    refine zwW_p [(1, 0, 2), (12, 0, 0)] (q := 55) (ls' := [(2, 1), (0, v2)]) (st' := [(2, 1), (2, 1)]) (by decide +kernel) rfl ?_
    refine zwW_gs Ch25.1 (kd := 12) (bn := 0) (n := 13) (t := 0) (lo := 0) (hi := 156) (nx := 58) (by decide +kernel) ?_
    intro v26 ev26 lv26 uv26
    refine zwW_p [(0, 1, 0)] (q := 59) (ls' := [(2, 1), (0, v2)]) (st' := [(0, 1), (0, v26), (2, 1)]) (by decide +kernel) rfl ?_
    refine zwW_add (nx := 60) (by decide +kernel) ⟨by omega, by omega⟩ ?_
    refine zwW_ps Ch25.1 (kd := 12) (bn := 0) (n := 13) (lo := 0) (hi := 156) (nx := 63) (by decide +kernel) ⟨by omega, by omega⟩ ?_
    intro h27 eh27 Ih27
    have Ch27 : CI h27 := Ch25.wc eh27 Ih27 (by decide) (by decide)
    have Qh27 : zXR [(1, 1, 0, 1)] 0 0 h25 h27 := zXR.wc eh27 rfl ⟨by decide, by decide, Or.inl (by decide)⟩ ⟨by decide, by decide⟩
    have Xh27 : zXR msx113_v (0) (0) h h27 := Xh25.tr (c2 := 0) (s2 := 0) Qh27 (by decide +kernel) (by decide) (by decide)
    have Kh27 : zKw h h27 := Kh25.fr Qh27 (by decide +kernel)
    have th27_1_0 : fld h27 1 0 = (v26 + 1) := by rw [eh27]; exact fld_wr_eq (Ch25.1.s (a1 := 1) (a2 := 1) (k := 12) (n := 13) (by decide +kernel) (by decide) (by decide)) (by decide)
    refine zwW_p [(1, 0, 2)] (q := 64) (ls' := [(2, 1), (0, v2)]) (st' := [(2, 1)]) (by decide +kernel) rfl ?_
    have R64 := Xh27
    have K64 := Kh27
    refine zwW_cmv Ch27.1 (op := 60) (k' := 193) (n := 0) (kd := 12) (m := 13) (nx := 67) (r := 1) (tl := []) (st' := []) (by decide +kernel) rfl (by decide +kernel) rfl (x193_v h27 Ch27) ?_
    rintro h29 ⟨Ch29, Qh29, f28⟩
    have Xh29 : zXR msx113_v (0) (0) h h29 := Xh27.tr (c2 := 0) (s2 := 0) Qh29 (by decide +kernel) (by decide) (by decide)
    have th29_1_0 : fld h29 1 0 = fld h27 1 0 := Qh29.f (a1 := 1) (a2 := 1) (j1 := 0) (j2 := 1) (by decide +kernel) ⟨by decide, by decide⟩ ⟨by decide, by decide⟩ ⟨by decide, by decide⟩
    have KN := K64.tr C R64 (by decide +kernel) f28
    refine zwW_retv (nx := 68) (a := 0) (b := 0) (by decide +kernel) ?_
    exact ⟨Ch29, Xh29.le (by decide) (by decide), by omega, by exact KN⟩
def msx19_v : Zms := [(1, 1, 0, 1), (1, 1, 1, 2), (4, 4, 0, 3), (17, 17, 0, 13), (18, 18, 0, 400), (34, 34, 2, 3), (35, 35, 0, 936), (36, 36, 0, 8), (1004, 1004, 6, 7), (1004, 1004, 8, 9), (1004, 1004, 9, 10), (1004, 1004, 10, 11), (1004, 1004, 14, 15), (1004, 1004, 15, 16), (1004, 1004, 18, 19), (1011, 1011, 3, 4), (1011, 1011, 4, 5), (1011, 1011, 5, 6), (1011, 1011, 6, 7), (1011, 1011, 7, 8), (1011, 1011, 9, 10), (1011, 1011, 10, 11), (1011, 1011, 13, 14), (1011, 1011, 14, 15), (1011, 1011, 15, 16), (1020, 1020, 0, 100000)]
-- WheelLand.go(I)I
theorem x19_v {sc : List Int} (h : Hp) (C : CI h) (a : Int) (q_a : -2147483648 ≤ a ∧ a ≤ 2147483647) (hl : h.length ≤ 999910000) : zwC sc 9 19 [(2, 1), (0, a)] h (zwRt 0 (fun x g => CI g ∧ zXR msx19_v (0) (0) h g ∧ (-2147483648 ≤ x ∧ x ≤ 2147483647) ∧ (zKw h g))) := by
  refine zwC_of (D := 8) 3 (by decide +kernel) rfl (ls := [(2, 1), (0, a), (9, 0)]) rfl ?_
  have X : zXR msx19_v 0 0 h h := zXR.rf _ _
  have K : zKw h h := zKw.rf
  refine zwW_p [(1, 1, 0), (0, 0, 0), (0, 26, 0)] (q := 4) (ls' := [(2, 1), (0, a), (9, 0)]) (st' := [(0, 26), (0, 0), (0, a)]) (by decide +kernel) rfl ?_
  refine zwW_cs (k' := 98) (n := 3) (nx := 7) (as := [(0, a), (0, 0), (0, 26)]) (st' := []) (by decide +kernel) rfl (x98 h C a 0 26 (by omega) (by omega) (by omega)) rfl ?_
  rintro x _ ⟨rfl, ⟨rfl, c1⟩ | ⟨rfl, c1⟩⟩
  · refine zwif_eq (q := 12) (nx := 10) (by decide +kernel) (fun c2 => ?_) (fun c2 => ?_)
    · exfalso; omega
    · refine zwW_p [(0, -1, 0)] (q := 11) (ls' := [(2, 1), (0, a), (9, 0)]) (st' := [(0, -1)]) (by decide +kernel) rfl ?_
      refine zwW_ret (nx := 12) (a := 0) (b := 0) (by decide +kernel) rfl (Or.inl rfl) ?_
      exact ⟨C, X.le (by decide) (by decide), by omega, by exact K⟩
  · refine zwif_eq (q := 12) (nx := 10) (by decide +kernel) (fun c3 => ?_) (fun c3 => ?_)
    · refine zwW_p [(0, 0, 0), (2, 2, 0)] (q := 14) (ls' := [(2, 1), (0, a), (0, 0)]) (st' := []) (by decide +kernel) rfl ?_
      have L4 : ∀ (n0 : Nat) (v2L4 : Int) (hL4 : Hp), n0 = ((1000 - v2L4)).toNat → (v2L4 ≤ a) → (fld hL4 1 0 = fld h 1 0 + v2L4) → (zKw h hL4) → (0 ≤ v2L4 ∧ v2L4 ≤ 26) → CI hL4 → zXR msx19_v (0) (0) h hL4 → zwW sc (8) 19 14 [(2, 1), (0, a), (0, v2L4)] [] hL4 (zwRt 0 (fun x g => CI g ∧ zXR msx19_v (0) (0) h g ∧ (-2147483648 ≤ x ∧ x ≤ 2147483647) ∧ (zKw h g))) := by
        intro n0
        induction n0 using Nat.strongRecOn with
        | ind n0 IHL4 =>
          intro v2L4 hL4 hnL4 iL4_0 iL4_1 iL4_2 iL4_3 ChL4 XhL4
          refine zwW_p [(1, 2, 0), (1, 1, 0)] (q := 16) (ls' := [(2, 1), (0, a), (0, v2L4)]) (st' := [(0, a), (0, v2L4)]) (by decide +kernel) rfl ?_
          refine zwic_ge (q := 39) (nx := 19) (by decide +kernel) (fun c5 => ?_) (fun c5 => ?_)
          · refine zwW_p [(1, 0, 2)] (q := 40) (ls' := [(2, 1), (0, a), (0, v2L4)]) (st' := [(2, 1)]) (by decide +kernel) rfl ?_
            refine zwW_gs ChL4.1 (kd := 12) (bn := 0) (n := 13) (t := 0) (lo := 0) (hi := 156) (nx := 43) (by decide +kernel) ?_
            intro v6 ev6 lv6 uv6
            refine zwW_ret (nx := 44) (a := 0) (b := 0) (by decide +kernel) rfl (Or.inl rfl) ?_
            exact ⟨ChL4, XhL4.le (by decide) (by decide), by omega, by exact iL4_2⟩
          · refine zwW_p [(1, 0, 2)] (q := 20) (ls' := [(2, 1), (0, a), (0, v2L4)]) (st' := [(2, 1)]) (by decide +kernel) rfl ?_
            refine zwW_gs ChL4.1 (kd := 12) (bn := 0) (n := 13) (t := 0) (lo := 0) (hi := 156) (nx := 23) (by decide +kernel) ?_
            intro v7 ev7 lv7 uv7
            refine zwW_p [(0, 156, 0)] (q := 26) (ls' := [(2, 1), (0, a), (0, v2L4)]) (st' := [(0, 156), (0, v7)]) (by decide +kernel) rfl ?_
            refine zwic_ge (q := 39) (nx := 29) (by decide +kernel) (fun c8 => ?_) (fun c8 => ?_)
            · refine zwW_p [(1, 0, 2)] (q := 40) (ls' := [(2, 1), (0, a), (0, v2L4)]) (st' := [(2, 1)]) (by decide +kernel) rfl ?_
              refine zwW_gs ChL4.1 (kd := 12) (bn := 0) (n := 13) (t := 0) (lo := 0) (hi := 156) (nx := 43) (by decide +kernel) ?_
              intro v9 ev9 lv9 uv9
              refine zwW_ret (nx := 44) (a := 0) (b := 0) (by decide +kernel) rfl (Or.inl rfl) ?_
              exact ⟨ChL4, XhL4.le (by decide) (by decide), by omega, by exact iL4_2⟩
            · refine zwW_p [(1, 0, 2)] (q := 30) (ls' := [(2, 1), (0, a), (0, v2L4)]) (st' := [(2, 1)]) (by decide +kernel) rfl ?_
              have R30 := XhL4
              have K30 := iL4_2
              refine zwW_cmv ChL4.1 (op := 60) (k' := 113) (n := 0) (kd := 12) (m := 13) (nx := 33) (r := 1) (tl := []) (st' := []) (by decide +kernel) rfl (by decide +kernel) rfl (x113_v hL4 ChL4 (by omega) (by have := XhL4.hl C ChL4 (by decide) hl; omega)) ?_
              rintro h12 ⟨Ch12, Qh12, f10, f11⟩
              have Xh12 : zXR msx19_v (0) (0) h h12 := XhL4.tr (c2 := 0) (s2 := 0) Qh12 (by decide +kernel) (by decide) (by decide)
              have KN := K30.tr C R30 (by decide +kernel) f11
              refine zwW_inc (i := 2) (c := 1) (x := v2L4) (nx := 36) (by decide +kernel) rfl ⟨by omega, by omega⟩ (ls' := [(2, 1), (0, a), (0, (v2L4 + 1))]) rfl ?_
              refine zwW_p [(24, 14, 0)] (q := 14) (ls' := [(2, 1), (0, a), (0, (v2L4 + 1))]) (st' := []) (by decide +kernel) rfl ?_
              exact IHL4 ((1000 - (v2L4 + 1))).toNat (by omega) (v2L4 + 1) h12 rfl (by omega) (by omega) (KN) (by omega) Ch12 (Xh12.le (by decide) (by decide))
      exact L4 _ 0 h rfl (by omega) (by omega) (K) (by omega) C (X.le (by decide) (by decide))
    · exfalso; omega
