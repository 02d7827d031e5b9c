/-! joined: 89.gf_xs 89.gg_ms 93.a_ev 93.b_em 93.c_ex 93.d_wg 93.e_yf -/
section
/-! contracts of the class -/
def msx29_w : Zms := [(9, 9, 0, 1), (9, 9, 2, 7), (11, 11, 0, 400), (12, 12, 0, 5), (14, 14, 0, 3)]
-- WheelLand.sheet()I
theorem x29_w {sc : List Int} (h : Hp) (C : CI h) (t : pT) (n : Nat) (c : Nat → Int) (B : rB t n h) (hc : fld h 11 = c) (hl : h.length ≤ 997670000) : zwC sc 233 29 [(2, 1)] h (zwRt 0 (fun x g => CI g ∧ zXR msx29_w (4) (1408) h g ∧ (-2147483648 ≤ x ∧ x ≤ 2147483647) ∧ ((x = fld h 14 2 ∧ fld g 14 2 = fld h 14 2 + 1 ∧ fld g 9 0 = 0 ∧ pFa t n c = -1 ∧ fld h 14 2 < 8) ∨ (x = -1 ∧ fld g 14 2 = fld h 14 2 ∧ fld g 9 0 = fld h 9 0 ∧ (8 ≤ fld h 14 2 ∨ pFa t n c ≠ -1))) ∧ (zXs (pRead t n c) (pFa t n c) h g))) := by
  refine zwC_of (D := 232) 1 (by decide +kernel) rfl (ls := [(2, 1)]) rfl ?_
  have X : zXR msx29_w 0 0 h h := zXR.rf _ _
  refine zwW_p [(1, 0, 2)] (q := 1) (ls' := [(2, 1)]) (st' := [(2, 1)]) (by decide +kernel) rfl ?_
  refine zwW_gc C.1 (kd := 12) (bn := 8) (n := 13) (c := 13) (nx := 4) (by decide +kernel) ?_
  refine zwW_gc C.1 (kd := 9) (bn := 0) (n := 6) (c := 14) (nx := 7) (by decide +kernel) ?_
  refine zwW_cm C.1 (op := 60) (k' := 96) (n := 0) (kd := 0) (m := 3) (nx := 10) (r := 14) (tl := []) (st' := []) (by decide +kernel) rfl (by decide +kernel) rfl (x96_14 C) ?_
  rintro v1 _ ⟨rfl, ev1⟩
  have bv1 := zLb_14 C
  refine zwW_p [(0, 8, 0)] (q := 12) (ls' := [(2, 1)]) (st' := [(0, 8), (0, v1)]) (by decide +kernel) rfl ?_
  refine zwic_ge (q := 26) (nx := 15) (by decide +kernel) (fun c2 => ?_) (fun c2 => ?_)
  · refine zwW_p [(0, -1, 0)] (q := 27) (ls' := [(2, 1)]) (st' := [(0, -1)]) (by decide +kernel) rfl ?_
    refine zwW_ret (nx := 28) (a := 0) (b := 0) (by decide +kernel) rfl (Or.inl rfl) ?_
    exact ⟨C, X.le (by decide) (by decide), by omega, by omega, by first | exact ⟨V65, Or.inl ⟨by omega, by omega, by omega, S65⟩⟩ | exact ⟨V19, Or.inr (by first | omega | exact ⟨by omega, by omega⟩)⟩ | exact ⟨fun _ _ => rfl, Or.inr ⟨by omega, rfl⟩⟩⟩
  · refine zwW_p [(1, 0, 2)] (q := 16) (ls' := [(2, 1)]) (st' := [(2, 1)]) (by decide +kernel) rfl ?_
    refine zwW_gc C.1 (kd := 12) (bn := 7) (n := 13) (c := 9) (nx := 19) (by decide +kernel) ?_
    refine zwW_cm C.1 (op := 60) (k' := 120) (n := 0) (kd := 7) (m := 9) (nx := 22) (r := 9) (tl := []) (st' := []) (by decide +kernel) rfl (by decide +kernel) rfl (x120_q h C t n c B hc) ?_
    rintro v6 h7 ⟨Ch7, Qh7, f3, f4, f5⟩
    have Xh7 : zXR msx29_w (0) (0) h h7 := X.tr (c2 := 0) (s2 := 0) Qh7 (by decide +kernel) (by decide) (by decide)
    have th7_9_0 : fld h7 9 0 = fld h 9 0 := Qh7.f (a1 := 9) (a2 := 9) (j1 := 0) (j2 := 1) (by decide +kernel) (by first | decide | exact ⟨by decide, by decide⟩) (by first | decide | exact ⟨by decide, by decide⟩) (by first | decide | exact ⟨by decide, by decide⟩)
    have th7_14_2 : fld h7 14 2 = fld h 14 2 := Qh7.f (a1 := 14) (a2 := 14) (j1 := 2) (j2 := 3) (by decide +kernel) (by first | decide | exact ⟨by decide, by decide⟩) (by first | decide | exact ⟨by decide, by decide⟩) (by first | decide | exact ⟨by decide, by decide⟩)
    have T19 := f5
    have R19 := Qh7.1
    have C19 := Ch7
    have B19 := (Ch7.1.b (a1 := 9) (a2 := 9) (j1 := 6) (j2 := 7) (lo := 0) (hi := 400) (by decide +kernel) (r := 9) (j := 6) (by decide) (by decide) (by decide) (by decide)).2
    have V19 : ∀ i : Nat, (i : Int) < fld h 14 2 → zv h7 14 i = zv h 14 i := fun i hi => Qh7.v C (A := 14) (by decide) (by decide +kernel) hi
    have P22 : v6 = pFa t n c := f4
    refine zwW_p [(0, -1, 0)] (q := 23) (ls' := [(2, 1)]) (st' := [(0, -1), (0, v6)]) (by decide +kernel) rfl ?_
    refine zwic_eq (q := 28) (nx := 26) (by decide +kernel) (fun c8 => ?_) (fun c8 => ?_)
    · refine zwW_p [(1, 0, 2)] (q := 29) (ls' := [(2, 1)]) (st' := [(2, 1)]) (by decide +kernel) rfl ?_
      refine zwW_gc Ch7.1 (kd := 12) (bn := 8) (n := 13) (c := 13) (nx := 32) (by decide +kernel) ?_
      refine zwW_gc Ch7.1 (kd := 9) (bn := 0) (n := 6) (c := 14) (nx := 35) (by decide +kernel) ?_
      refine zwW_p [(1, 0, 2)] (q := 36) (ls' := [(2, 1)]) (st' := [(2, 1), (2, 14)]) (by decide +kernel) rfl ?_
      refine zwW_gc Ch7.1 (kd := 12) (bn := 7) (n := 13) (c := 9) (nx := 39) (by decide +kernel) ?_
      refine zwW_p [(1, 0, 2)] (q := 40) (ls' := [(2, 1)]) (st' := [(2, 1), (2, 9), (2, 14)]) (by decide +kernel) rfl ?_
      refine zwW_gc Ch7.1 (kd := 12) (bn := 8) (n := 13) (c := 13) (nx := 43) (by decide +kernel) ?_
      refine zwW_gc Ch7.1 (kd := 9) (bn := 0) (n := 6) (c := 14) (nx := 46) (by decide +kernel) ?_
      refine zwW_cm Ch7.1 (op := 60) (k' := 96) (n := 0) (kd := 0) (m := 3) (nx := 49) (r := 14) (tl := []) (st' := [(2, 9), (2, 14)]) (by decide +kernel) rfl (by decide +kernel) rfl (x96_14 Ch7) ?_
      rintro v9 _ ⟨rfl, ev9⟩
      have bv9 := zLb_14 Ch7
      refine zwW_cm Ch7.1 (op := 60) (k' := 122) (n := 1) (kd := 7) (m := 9) (nx := 52) (r := 9) (tl := [(0, v9)]) (st' := [(2, 14)]) (by decide +kernel) rfl (by decide +kernel) rfl (x122_s h7 Ch7 v9 (by omega)) ?_
      rintro v12 h13 ⟨Ch13, Qh13, f10, f11⟩
      have Xh13 : zXR msx29_w (3) (408) h h13 := Xh7.tr (c2 := 3) (s2 := 408) Qh13 (by decide +kernel) (by decide) (by decide)
      have th13_9_0 : fld h13 9 0 = fld h7 9 0 := Qh13.f (a1 := 9) (a2 := 9) (j1 := 0) (j2 := 1) (by decide +kernel) (by first | decide | exact ⟨by decide, by decide⟩) (by first | decide | exact ⟨by decide, by decide⟩) (by first | decide | exact ⟨by decide, by decide⟩)
      have th13_14_2 : fld h13 14 2 = fld h7 14 2 := Qh13.f (a1 := 14) (a2 := 14) (j1 := 2) (j2 := 3) (by decide +kernel) (by first | decide | exact ⟨by decide, by decide⟩) (by first | decide | exact ⟨by decide, by decide⟩) (by first | decide | exact ⟨by decide, by decide⟩)
      have lv12 := f10.1
      have S49 := f11
      have G49 := f10
      have C49 := Ch13
      have e49 : fld h13 14 2 = fld h 14 2 := by omega
      have V49 : ∀ i : Nat, (i : Int) < fld h 14 2 → zv h13 14 i = zv h 14 i := fun i hi => (Qh13.v C19 (A := 14) (by decide) (by decide +kernel) (show (i : Int) < fld h7 14 2 by omega)).trans (V19 i hi)
      refine zwW_cm Ch13.1 (op := 60) (k' := 100) (n := 1) (kd := 0) (m := 3) (nx := 55) (r := 14) (tl := [(2, v12)]) (st' := []) (by decide +kernel) rfl (by decide +kernel) rfl (x100_14 Ch13 f10 (by omega) (by have := Xh13.hl C Ch13 (by decide) hl; omega)) ?_
      rintro x h15 ⟨rfl, Ah15⟩
      have Ch15 := Ah15.1
      have Qh15 : zXR [(14, 14, 0, 3)] (1) (1000) h13 h15 := Ah15.2.1
      have zh15 : fld h15 14 2 = fld h13 14 2 + 1 := Ah15.2.2.1
      have Xh15 : zXR msx29_w (4) (1408) h h15 := Xh13.tr (c2 := 4) (s2 := 1408) Qh15 (by decide +kernel) (by decide) (by decide)
      have th15_9_0 : fld h15 9 0 = fld h13 9 0 := Qh15.f (a1 := 9) (a2 := 9) (j1 := 0) (j2 := 1) (by decide +kernel) (by first | decide | exact ⟨by decide, by decide⟩) (by first | decide | exact ⟨by decide, by decide⟩) (by first | decide | exact ⟨by decide, by decide⟩)
      refine zwW_p [(15, 0, 0), (1, 0, 2)] (q := 57) (ls' := [(2, 1)]) (st' := [(2, 1)]) (by decide +kernel) rfl ?_
      have C57 := Ch15
      have S57 : zSo (pRead t n c) h h15 (zv h15 14 (fld h 14 2).toNat) (fld h 14 2) := zSo.mk T19 S49 G49 Ah15 C49 e49 (by omega) R19 B19
      have V57 : ∀ i : Nat, (i : Int) < fld h 14 2 → zv h15 14 i = zv h 14 i := fun i hi => (Ah15.2.2.2.1 i (show (i : Int) < fld h13 14 2 by omega)).trans (V49 i hi)
      refine zwW_gc Ch15.1 (kd := 12) (bn := 7) (n := 13) (c := 9) (nx := 60) (by decide +kernel) ?_
      refine zwW_p [(0, 0, 0)] (q := 61) (ls' := [(2, 1)]) (st' := [(0, 0), (2, 9)]) (by decide +kernel) rfl ?_
      refine zwW_ps Ch15.1 (kd := 7) (bn := 0) (n := 9) (lo := 0) (hi := 400) (nx := 64) (by decide +kernel) (by first | decide | exact ⟨by decide, by decide⟩) ?_
      intro h16 eh16 Ih16
      have Ch16 : CI h16 := Ch15.wc eh16 Ih16 (by decide) (by decide)
      have Qh16 : zXR [(9, 9, 0, 1)] 0 0 h15 h16 := zXR.wc eh16 rfl ⟨by decide, by decide, Or.inl (by decide)⟩ (by first | decide | exact ⟨by decide, by decide⟩)
      have Xh16 : zXR msx29_w (4) (1408) h h16 := Xh15.tr (c2 := 4) (s2 := 1408) Qh16 (by decide +kernel) (by decide) (by decide)
      have th16_14_2 : fld h16 14 2 = fld h15 14 2 := Qh16.f (a1 := 14) (a2 := 14) (j1 := 2) (j2 := 3) (by decide +kernel) (by first | decide | exact ⟨by decide, by decide⟩) (by first | decide | exact ⟨by decide, by decide⟩) (by first | decide | exact ⟨by decide, by decide⟩)
      have th16_9_0 : fld h16 9 0 = 0 := by rw [eh16]; exact fld_wr_eq (Ch15.1.s (a1 := 9) (a2 := 9) (k := 7) (n := 9) (by decide +kernel) (by decide) (by decide)) (by decide)
      refine zwW_p [(1, 0, 2)] (q := 65) (ls' := [(2, 1)]) (st' := [(2, 1)]) (by decide +kernel) rfl ?_
      have S65 : zSo (pRead t n c) h h16 (zv h16 14 (fld h 14 2).toNat) (fld h 14 2) := by
        rw [Qh16.v C57 (A := 14) (by decide) (by decide +kernel) (show (((fld h 14 2).toNat : Nat) : Int) < fld h15 14 2 by omega)]
        exact S57.kp (zS_g C57 (by omega)) Qh16 (by decide +kernel)
      have V65 : ∀ i : Nat, (i : Int) < fld h 14 2 → zv h16 14 i = zv h 14 i := fun i hi => (Qh16.v C57 (A := 14) (by decide) (by decide +kernel) (show (i : Int) < fld h15 14 2 by omega)).trans (V57 i hi)
      refine zwW_gc Ch16.1 (kd := 12) (bn := 8) (n := 13) (c := 13) (nx := 68) (by decide +kernel) ?_
      refine zwW_gc Ch16.1 (kd := 9) (bn := 0) (n := 6) (c := 14) (nx := 71) (by decide +kernel) ?_
      refine zwW_cm Ch16.1 (op := 60) (k' := 96) (n := 0) (kd := 0) (m := 3) (nx := 74) (r := 14) (tl := []) (st' := []) (by decide +kernel) rfl (by decide +kernel) rfl (x96_14 Ch16) ?_
      rintro v17 _ ⟨rfl, ev17⟩
      have bv17 := zLb_14 Ch16
      refine zwW_p [(0, 1, 0)] (q := 75) (ls' := [(2, 1)]) (st' := [(0, 1), (0, v17)]) (by decide +kernel) rfl ?_
      refine zwW_sub (nx := 76) (by decide +kernel) (by first | omega | exact ⟨by omega, by omega⟩) ?_
      refine zwW_ret (nx := 77) (a := 0) (b := 0) (by decide +kernel) rfl (Or.inl rfl) ?_
      exact ⟨Ch16, Xh16.le (by decide) (by decide), by omega, by omega, by first | exact ⟨V65, Or.inl ⟨by omega, by omega, by omega, S65⟩⟩ | exact ⟨V19, Or.inr (by first | omega | exact ⟨by omega, by omega⟩)⟩ | exact ⟨fun _ _ => rfl, Or.inr ⟨by omega, rfl⟩⟩⟩
    · refine zwW_p [(0, -1, 0)] (q := 27) (ls' := [(2, 1)]) (st' := [(0, -1)]) (by decide +kernel) rfl ?_
      refine zwW_ret (nx := 28) (a := 0) (b := 0) (by decide +kernel) rfl (Or.inl rfl) ?_
      exact ⟨Ch7, Xh7.le (by decide) (by decide), by omega, by omega, by first | exact ⟨V65, Or.inl ⟨by omega, by omega, by omega, S65⟩⟩ | exact ⟨V19, Or.inr (by first | omega | exact ⟨by omega, by omega⟩)⟩ | exact ⟨fun _ _ => rfl, Or.inr ⟨by omega, rfl⟩⟩⟩
def msx124_w : Zms := [(13, 13, 1, 2), (15, 15, 0, 12), (16, 16, 0, 12)]
-- WheelLand$Rules.enforce(LWheelLand$Sheet;I)V
theorem x124_w {sc : List Int} (h : Hp) (C : CI h) (r a : Int) (G_r : gS h r) (q_a : -2147483648 ≤ a ∧ a ≤ 2147483647) (p12 : fld h 13 1 < 12) (hl : h.length ≤ 999990000) : zwC sc 1 124 [(2, 13), (2, r), (0, a)] h (zwRv (fun g => CI g ∧ zXR msx124_w (0) (0) h g ∧ (fld g 13 1 = fld h 13 1 + 1) ∧ (fld g 15 = zu (fld h 15) (fld h 13 1).toNat r) ∧ (fld g 16 = zu (fld h 16) (fld h 13 1).toNat a))) := by
  refine zwC_of (D := 0) 3 (by decide +kernel) rfl (ls := [(2, 13), (2, r), (0, a)]) rfl ?_
  have lw_r := G_r.1
  have X : zXR msx124_w 0 0 h h := zXR.rf _ _
  refine zwW_p [(1, 0, 2)] (q := 1) (ls' := [(2, 13), (2, r), (0, a)]) (st' := [(2, 13)]) (by decide +kernel) rfl ?_
  refine zwW_gs C.1 (kd := 9) (bn := 1) (n := 6) (t := 0) (lo := 0) (hi := 12) (nx := 4) (by decide +kernel) ?_
  intro v1 ev1 lv1 uv1
  refine zwW_p [(1, 0, 2)] (q := 5) (ls' := [(2, 13), (2, r), (0, a)]) (st' := [(2, 13), (0, v1)]) (by decide +kernel) rfl ?_
  refine zwW_gc C.1 (kd := 9) (bn := 2) (n := 6) (c := 15) (nx := 8) (by decide +kernel) ?_
  refine zwW_len (kd := 24) (n := 12) (nx := 9) (by decide +kernel) (C.1.s (a1 := 15) (a2 := 15) (by decide +kernel) (by omega) (by omega)) rfl ?_
  refine zwic_ge (q := 42) (nx := 12) (by decide +kernel) (fun c2 => ?_) (fun c2 => ?_)
  · refine zwW_retv (nx := 43) (a := 0) (b := 0) (by decide +kernel) ?_
    exact ⟨C, X.le (by decide) (by decide), by omega, by first | exact V39.trans (V31.trans W21) | (exfalso; omega), by first | exact U39.trans (W31.trans (by rw [U21])) | (exfalso; omega)⟩
  · refine zwW_p [(1, 0, 2)] (q := 13) (ls' := [(2, 13), (2, r), (0, a)]) (st' := [(2, 13)]) (by decide +kernel) rfl ?_
    refine zwW_gc C.1 (kd := 9) (bn := 2) (n := 6) (c := 15) (nx := 16) (by decide +kernel) ?_
    refine zwW_p [(1, 0, 2)] (q := 17) (ls' := [(2, 13), (2, r), (0, a)]) (st' := [(2, 13), (2, 15)]) (by decide +kernel) rfl ?_
    refine zwW_gs C.1 (kd := 9) (bn := 1) (n := 6) (t := 0) (lo := 0) (hi := 12) (nx := 20) (by decide +kernel) ?_
    intro v3 ev3 lv3 uv3
    refine zwW_p [(1, 1, 2)] (q := 21) (ls' := [(2, 13), (2, r), (0, a)]) (st' := [(2, r), (0, v3), (2, 15)]) (by decide +kernel) rfl ?_
    refine zwW_ast (a := 24) (kd := 24) (n := 12) (x := r) (nx := 22) (by decide +kernel) (C.1.s (a1 := 15) (a2 := 15) (by decide +kernel) (by decide) (by decide)) rfl (by omega) (by omega) (kept24 G_r) ?_
    rintro h4 eh4
    obtain ⟨Ch4, Qh4⟩ := C.ws (i := v3.toNat) G_r (by omega) (by omega) eh4
    have W21 : fld h4 15 = zu (fld h 15) (fld h 13 1).toNat r := (fld_zu (C.1.s (a1 := 15) (a2 := 15) (k := 24) (n := 12) (by decide +kernel) (by decide) (by decide)) (by omega) eh4).trans (by rw [show (v3).toNat = (fld h 13 1).toNat by omega])
    have U21 : fld h4 16 = fld h 16 := fld_o eh4 (by decide)
    have Xh4 : zXR msx124_w (0) (0) h h4 := X.tr (c2 := 0) (s2 := 0) Qh4 (by decide +kernel) (by decide) (by decide)
    have Gh4_0 : gS h4 r := G_r.x Qh4
    have th4_13_1 : fld h4 13 1 = fld h 13 1 := Qh4.f (a1 := 13) (a2 := 13) (j1 := 1) (j2 := 2) (by decide +kernel) (by first | decide | exact ⟨by decide, by decide⟩) (by first | decide | exact ⟨by decide, by decide⟩) (by first | decide | exact ⟨by decide, by decide⟩)
    refine zwW_p [(1, 0, 2)] (q := 23) (ls' := [(2, 13), (2, r), (0, a)]) (st' := [(2, 13)]) (by decide +kernel) rfl ?_
    refine zwW_gc Ch4.1 (kd := 9) (bn := 3) (n := 6) (c := 16) (nx := 26) (by decide +kernel) ?_
    refine zwW_p [(1, 0, 2)] (q := 27) (ls' := [(2, 13), (2, r), (0, a)]) (st' := [(2, 13), (2, 16)]) (by decide +kernel) rfl ?_
    refine zwW_gs Ch4.1 (kd := 9) (bn := 1) (n := 6) (t := 0) (lo := 0) (hi := 12) (nx := 30) (by decide +kernel) ?_
    intro v5 ev5 lv5 uv5
    refine zwW_p [(1, 2, 0)] (q := 31) (ls' := [(2, 13), (2, r), (0, a)]) (st' := [(0, a), (0, v5), (2, 16)]) (by decide +kernel) rfl ?_
    have ib1 : 0 ≤ v5 ∧ v5 < ((12 : Nat) : Int) := (by first | omega | exact ⟨by omega, by omega⟩)
    refine zwW_as Ch4.1 (a1 := 16) (a2 := 16) (n := 12) (lo := -2147483648) (hi := 2147483647) (nx := 32) (by decide +kernel) (by first | decide | exact ⟨by decide, by decide⟩) ib1 (by first | omega | exact ⟨by omega, by omega⟩) ?_
    intro h6 eh6 Ih6
    have Ch6 : CI h6 := Ch4.wc eh6 Ih6 (by decide) (by decide)
    have Qh6 : zXR [(16, 16, 0, 12)] 0 0 h4 h6 := zXR.wc eh6 rfl ⟨by decide, by decide, Or.inl (by decide)⟩ (by first | omega | exact ⟨by omega, by omega⟩)
    have W31 : fld h6 16 = zu (fld h4 16) (fld h 13 1).toNat a := (fld_zu (Ch4.1.s (a1 := 16) (a2 := 16) (k := 20) (n := 12) (by decide +kernel) (by decide) (by decide)) (by omega) eh6).trans (by rw [show (v5).toNat = (fld h 13 1).toNat by omega])
    have V31 : fld h6 15 = fld h4 15 := fld_o eh6 (by decide)
    have Xh6 : zXR msx124_w (0) (0) h h6 := Xh4.tr (c2 := 0) (s2 := 0) Qh6 (by decide +kernel) (by decide) (by decide)
    have Gh6_0 : gS h6 r := Gh4_0.x Qh6
    have th6_13_1 : fld h6 13 1 = fld h4 13 1 := Qh6.f (a1 := 13) (a2 := 13) (j1 := 1) (j2 := 2) (by decide +kernel) (by first | decide | exact ⟨by decide, by decide⟩) (by first | decide | exact ⟨by decide, by decide⟩) (by first | decide | exact ⟨by decide, by decide⟩)
    refine zwW_p [(1, 0, 2), (12, 0, 0)] (q := 34) (ls' := [(2, 13), (2, r), (0, a)]) (st' := [(2, 13), (2, 13)]) (by decide +kernel) rfl ?_
    refine zwW_gs Ch6.1 (kd := 9) (bn := 1) (n := 6) (t := 0) (lo := 0) (hi := 12) (nx := 37) (by decide +kernel) ?_
    intro v7 ev7 lv7 uv7
    refine zwW_p [(0, 1, 0)] (q := 38) (ls' := [(2, 13), (2, r), (0, a)]) (st' := [(0, 1), (0, v7), (2, 13)]) (by decide +kernel) rfl ?_
    refine zwW_add (nx := 39) (by decide +kernel) (by first | omega | exact ⟨by omega, by omega⟩) ?_
    refine zwW_ps Ch6.1 (kd := 9) (bn := 1) (n := 6) (lo := 0) (hi := 12) (nx := 42) (by decide +kernel) (by first | omega | exact ⟨by omega, by omega⟩) ?_
    intro h8 eh8 Ih8
    have Ch8 : CI h8 := Ch6.wc eh8 Ih8 (by decide) (by decide)
    have Qh8 : zXR [(13, 13, 1, 2)] 0 0 h6 h8 := zXR.wc eh8 rfl ⟨by decide, by decide, Or.inl (by decide)⟩ (by first | decide | exact ⟨by decide, by decide⟩)
    have V39 : fld h8 15 = fld h6 15 := fld_o eh8 (by decide)
    have U39 : fld h8 16 = fld h6 16 := fld_o eh8 (by decide)
    have Xh8 : zXR msx124_w (0) (0) h h8 := Xh6.tr (c2 := 0) (s2 := 0) Qh8 (by decide +kernel) (by decide) (by decide)
    have Gh8_0 : gS h8 r := Gh6_0.x Qh8
    have th8_13_1 : fld h8 13 1 = (v7 + 1) := by rw [eh8]; exact fld_wr_eq (Ch6.1.s (a1 := 13) (a2 := 13) (k := 9) (n := 6) (by decide +kernel) (by decide) (by decide)) (by decide)
    refine zwW_retv (nx := 43) (a := 0) (b := 0) (by decide +kernel) ?_
    exact ⟨Ch8, Xh8.le (by decide) (by decide), by omega, by first | exact V39.trans (V31.trans W21) | (exfalso; omega), by first | exact U39.trans (W31.trans (by rw [U21])) | (exfalso; omega)⟩
def msx31_w : Zms := [(13, 13, 1, 2), (15, 15, 0, 12), (16, 16, 0, 12)]
-- WheelLand.force(II)I
theorem x31_w {sc : List Int} (h : Hp) (C : CI h) (a b : Int) (q_a : -2147483648 ≤ a ∧ a ≤ 2147483647) (q_b : -2147483648 ≤ b ∧ b ≤ 2147483647) (hl : h.length ≤ 999950000) : zwC sc 5 31 [(2, 1), (0, a), (0, b)] h (zwRt 0 (fun x g => CI g ∧ zXR msx31_w (0) (0) h g ∧ (-2147483648 ≤ x ∧ x ≤ 2147483647) ∧ (((x = fld h 13 1 + 1) ∧ (fld g 13 1 = fld h 13 1 + 1) ∧ (0 ≤ a) ∧ (a < fld h 14 2) ∧ (fld h 1 0 ≤ b) ∧ (b ≤ 155) ∧ (fld h 13 1 < 12) ∧ (fld g 15 = zu (fld h 15) (fld h 13 1).toNat (zv h 14 a.toNat)) ∧ (fld g 16 = zu (fld h 16) (fld h 13 1).toNat b)) ∨ ((x = -1) ∧ (g = h) ∧ (a < 0 ∨ fld h 14 2 ≤ a ∨ b < fld h 1 0 ∨ 155 < b ∨ 12 ≤ fld h 13 1))))) := by
  refine zwC_of (D := 4) 3 (by decide +kernel) rfl (ls := [(2, 1), (0, a), (0, b)]) rfl ?_
  have X : zXR msx31_w 0 0 h h := zXR.rf _ _
  refine zwW_p [(1, 1, 0)] (q := 1) (ls' := [(2, 1), (0, a), (0, b)]) (st' := [(0, a)]) (by decide +kernel) rfl ?_
  refine zwif_lt (q := 44) (nx := 4) (by decide +kernel) (fun c1 => ?_) (fun c1 => ?_)
  · refine zwW_p [(0, -1, 0)] (q := 45) (ls' := [(2, 1), (0, a), (0, b)]) (st' := [(0, -1)]) (by decide +kernel) rfl ?_
    refine zwW_ret (nx := 46) (a := 0) (b := 0) (by decide +kernel) rfl (Or.inl rfl) ?_
    exact ⟨C, X.le (by decide) (by decide), by omega, by exact Or.inr ⟨by omega, by rfl, by omega⟩⟩
  · refine zwW_p [(1, 1, 0), (1, 0, 2)] (q := 6) (ls' := [(2, 1), (0, a), (0, b)]) (st' := [(2, 1), (0, a)]) (by decide +kernel) rfl ?_
    refine zwW_gc C.1 (kd := 12) (bn := 8) (n := 13) (c := 13) (nx := 9) (by decide +kernel) ?_
    refine zwW_gc C.1 (kd := 9) (bn := 0) (n := 6) (c := 14) (nx := 12) (by decide +kernel) ?_
    refine zwW_cm C.1 (op := 60) (k' := 96) (n := 0) (kd := 0) (m := 3) (nx := 15) (r := 14) (tl := []) (st' := [(0, a)]) (by decide +kernel) rfl (by decide +kernel) rfl (x96_14 C) ?_
    rintro v2 _ ⟨rfl, ev2⟩
    have bv2 := zLb_14 C
    refine zwic_ge (q := 44) (nx := 18) (by decide +kernel) (fun c3 => ?_) (fun c3 => ?_)
    · refine zwW_p [(0, -1, 0)] (q := 45) (ls' := [(2, 1), (0, a), (0, b)]) (st' := [(0, -1)]) (by decide +kernel) rfl ?_
      refine zwW_ret (nx := 46) (a := 0) (b := 0) (by decide +kernel) rfl (Or.inl rfl) ?_
      exact ⟨C, X.le (by decide) (by decide), by omega, by exact Or.inr ⟨by omega, by rfl, by omega⟩⟩
    · refine zwW_p [(1, 2, 0), (1, 0, 2)] (q := 20) (ls' := [(2, 1), (0, a), (0, b)]) (st' := [(2, 1), (0, b)]) (by decide +kernel) rfl ?_
      refine zwW_gs C.1 (kd := 12) (bn := 0) (n := 13) (t := 0) (lo := 0) (hi := 156) (nx := 23) (by decide +kernel) ?_
      intro v4 ev4 lv4 uv4
      refine zwW_p [(0, 155, 0)] (q := 26) (ls' := [(2, 1), (0, a), (0, b)]) (st' := [(0, 155), (0, v4), (0, b)]) (by decide +kernel) rfl ?_
      refine zwW_cs (k' := 98) (n := 3) (nx := 29) (as := [(0, b), (0, v4), (0, 155)]) (st' := []) (by decide +kernel) rfl (x98 h C b v4 155 (by omega) (by omega) (by omega)) rfl ?_
      rintro x _ ⟨rfl, ⟨rfl, c5⟩ | ⟨rfl, c5⟩⟩
      · refine zwif_ne (q := 44) (nx := 32) (by decide +kernel) (fun c6 => ?_) (fun c6 => ?_)
        · refine zwW_p [(0, -1, 0)] (q := 45) (ls' := [(2, 1), (0, a), (0, b)]) (st' := [(0, -1)]) (by decide +kernel) rfl ?_
          refine zwW_ret (nx := 46) (a := 0) (b := 0) (by decide +kernel) rfl (Or.inl rfl) ?_
          exact ⟨C, X.le (by decide) (by decide), by omega, by exact Or.inr ⟨by omega, by rfl, by omega⟩⟩
        · exfalso; omega
      · refine zwif_ne (q := 44) (nx := 32) (by decide +kernel) (fun c7 => ?_) (fun c7 => ?_)
        · exfalso; omega
        · refine zwW_p [(1, 0, 2)] (q := 33) (ls' := [(2, 1), (0, a), (0, b)]) (st' := [(2, 1)]) (by decide +kernel) rfl ?_
          refine zwW_gc C.1 (kd := 12) (bn := 8) (n := 13) (c := 13) (nx := 36) (by decide +kernel) ?_
          refine zwW_gs C.1 (kd := 9) (bn := 1) (n := 6) (t := 0) (lo := 0) (hi := 12) (nx := 39) (by decide +kernel) ?_
          intro v8 ev8 lv8 uv8
          refine zwW_p [(0, 12, 0)] (q := 41) (ls' := [(2, 1), (0, a), (0, b)]) (st' := [(0, 12), (0, v8)]) (by decide +kernel) rfl ?_
          refine zwic_lt (q := 46) (nx := 44) (by decide +kernel) (fun c9 => ?_) (fun c9 => ?_)
          · refine zwW_p [(1, 0, 2)] (q := 47) (ls' := [(2, 1), (0, a), (0, b)]) (st' := [(2, 1)]) (by decide +kernel) rfl ?_
            refine zwW_gc C.1 (kd := 12) (bn := 8) (n := 13) (c := 13) (nx := 50) (by decide +kernel) ?_
            refine zwW_p [(1, 0, 2)] (q := 51) (ls' := [(2, 1), (0, a), (0, b)]) (st' := [(2, 1), (2, 13)]) (by decide +kernel) rfl ?_
            refine zwW_gc C.1 (kd := 12) (bn := 8) (n := 13) (c := 13) (nx := 54) (by decide +kernel) ?_
            refine zwW_gc C.1 (kd := 9) (bn := 0) (n := 6) (c := 14) (nx := 57) (by decide +kernel) ?_
            refine zwW_p [(1, 1, 0)] (q := 58) (ls' := [(2, 1), (0, a), (0, b)]) (st' := [(0, a), (2, 14), (2, 13)]) (by decide +kernel) rfl ?_
            refine zwW_cm C.1 (op := 60) (k' := 123) (n := 1) (kd := 0) (m := 3) (nx := 61) (r := 14) (tl := [(0, a)]) (st' := [(2, 13)]) (by decide +kernel) rfl (by decide +kernel) rfl (x123_14 C (i := a) (by first | omega | exact ⟨by omega, by omega⟩)) ?_
            rintro v10 _ ⟨rfl, Gv10, ev10⟩
            have lv10 := Gv10.1
            refine zwW_cast (a := 10) (kd := 10) (n := 3) (nx := 64) (by decide +kernel) rfl (Or.inr Gv10.2.1) ?_
            refine zwW_p [(1, 2, 0)] (q := 65) (ls' := [(2, 1), (0, a), (0, b)]) (st' := [(0, b), (2, v10), (2, 13)]) (by decide +kernel) rfl ?_
            refine zwW_cmv C.1 (op := 60) (k' := 124) (n := 2) (kd := 9) (m := 6) (nx := 68) (r := 13) (tl := [(2, v10), (0, b)]) (st' := []) (by decide +kernel) rfl (by decide +kernel) rfl (x124_w h C v10 b Gv10 (by omega) (by omega) (by omega)) ?_
            rintro h14 ⟨Ch14, Qh14, f11, f12, f13⟩
            have Xh14 : zXR msx31_w (0) (0) h h14 := X.tr (c2 := 0) (s2 := 0) Qh14 (by decide +kernel) (by decide) (by decide)
            refine zwW_p [(1, 0, 2)] (q := 69) (ls' := [(2, 1), (0, a), (0, b)]) (st' := [(2, 1)]) (by decide +kernel) rfl ?_
            refine zwW_gc Ch14.1 (kd := 12) (bn := 8) (n := 13) (c := 13) (nx := 72) (by decide +kernel) ?_
            refine zwW_gs Ch14.1 (kd := 9) (bn := 1) (n := 6) (t := 0) (lo := 0) (hi := 12) (nx := 75) (by decide +kernel) ?_
            intro v15 ev15 lv15 uv15
            refine zwW_ret (nx := 76) (a := 0) (b := 0) (by decide +kernel) rfl (Or.inl rfl) ?_
            exact ⟨Ch14, Xh14.le (by decide) (by decide), by omega, by exact Or.inl ⟨by omega, by omega, by omega, by omega, by omega, by omega, by omega, by exact f12.trans (by rw [ev10]; rfl), by exact f13⟩⟩
          · refine zwW_p [(0, -1, 0)] (q := 45) (ls' := [(2, 1), (0, a), (0, b)]) (st' := [(0, -1)]) (by decide +kernel) rfl ?_
            refine zwW_ret (nx := 46) (a := 0) (b := 0) (by decide +kernel) rfl (Or.inl rfl) ?_
            exact ⟨C, X.le (by decide) (by decide), by omega, by exact Or.inr ⟨by omega, by rfl, by omega⟩⟩
-- WheelLand.why(II)I
theorem x33_w {sc : List Int} (h : Hp) (C : CI h) (a b : Int) (q_a : -2147483648 ≤ a ∧ a ≤ 2147483647) (q_b : -2147483648 ≤ b ∧ b ≤ 2147483647) (F : 0 ≤ a ∧ a ≤ 4 → zFrn h a) : zwC sc 3 33 [(2, 1), (0, a), (0, b)] h (zwRt 0 (fun x g => h = g ∧ (-2147483648 ≤ x ∧ x ≤ 2147483647) ∧ (x = zWhy h a b))) := by
  refine zwC_of (D := 2) 4 (by decide +kernel) rfl (ls := [(2, 1), (0, a), (0, b), (9, 0)]) rfl ?_
  refine zwW_p [(1, 1, 0), (0, 0, 0), (0, 4, 0)] (q := 3) (ls' := [(2, 1), (0, a), (0, b), (9, 0)]) (st' := [(0, 4), (0, 0), (0, a)]) (by decide +kernel) rfl ?_
  refine zwW_cs (k' := 98) (n := 3) (nx := 6) (as := [(0, a), (0, 0), (0, 4)]) (st' := []) (by decide +kernel) rfl (x98 h C a 0 4 (by omega) (by omega) (by omega)) rfl ?_
  rintro x _ ⟨rfl, ⟨rfl, c1⟩ | ⟨rfl, c1⟩⟩
  · refine zwif_ne (q := 20) (nx := 9) (by decide +kernel) (fun c2 => ?_) (fun c2 => ?_)
    · refine zwW_p [(0, -1, 0)] (q := 21) (ls' := [(2, 1), (0, a), (0, b), (9, 0)]) (st' := [(0, -1)]) (by decide +kernel) rfl ?_
      refine zwW_ret (nx := 22) (a := 0) (b := 0) (by decide +kernel) rfl (Or.inl rfl) ?_
      exact ⟨rfl, by omega, by first | exact zWhy_o (by omega) | exact zWhy_n ⟨(by first | omega | exact ⟨by omega, by omega⟩), by omega, by omega⟩ ZN | exact zWhy_y ⟨(by first | omega | exact ⟨by omega, by omega⟩), by omega, by omega⟩ (F (by first | omega | exact ⟨by omega, by omega⟩)) ZY (by assumption)⟩
    · exfalso; omega
  · refine zwif_ne (q := 20) (nx := 9) (by decide +kernel) (fun c3 => ?_) (fun c3 => ?_)
    · exfalso; omega
    · refine zwW_p [(1, 2, 0), (0, 0, 0), (0, 155, 0)] (q := 14) (ls' := [(2, 1), (0, a), (0, b), (9, 0)]) (st' := [(0, 155), (0, 0), (0, b)]) (by decide +kernel) rfl ?_
      refine zwW_cs (k' := 98) (n := 3) (nx := 17) (as := [(0, b), (0, 0), (0, 155)]) (st' := []) (by decide +kernel) rfl (x98 h C b 0 155 (by omega) (by omega) (by omega)) rfl ?_
      rintro x _ ⟨rfl, ⟨rfl, c4⟩ | ⟨rfl, c4⟩⟩
      · refine zwif_eq (q := 22) (nx := 20) (by decide +kernel) (fun c5 => ?_) (fun c5 => ?_)
        · exfalso; omega
        · refine zwW_p [(0, -1, 0)] (q := 21) (ls' := [(2, 1), (0, a), (0, b), (9, 0)]) (st' := [(0, -1)]) (by decide +kernel) rfl ?_
          refine zwW_ret (nx := 22) (a := 0) (b := 0) (by decide +kernel) rfl (Or.inl rfl) ?_
          exact ⟨rfl, by omega, by first | exact zWhy_o (by omega) | exact zWhy_n ⟨(by first | omega | exact ⟨by omega, by omega⟩), by omega, by omega⟩ ZN | exact zWhy_y ⟨(by first | omega | exact ⟨by omega, by omega⟩), by omega, by omega⟩ (F (by first | omega | exact ⟨by omega, by omega⟩)) ZY (by assumption)⟩
      · refine zwif_eq (q := 22) (nx := 20) (by decide +kernel) (fun c6 => ?_) (fun c6 => ?_)
        · refine zwW_p [(1, 0, 2)] (q := 23) (ls' := [(2, 1), (0, a), (0, b), (9, 0)]) (st' := [(2, 1)]) (by decide +kernel) rfl ?_
          refine zwW_gc C.1 (kd := 12) (bn := 8) (n := 13) (c := 13) (nx := 26) (by decide +kernel) ?_
          refine zwW_p [(1, 1, 0), (1, 2, 0)] (q := 28) (ls' := [(2, 1), (0, a), (0, b), (9, 0)]) (st' := [(0, b), (0, a), (2, 13)]) (by decide +kernel) rfl ?_
          refine zwW_cm C.1 (op := 60) (k' := 125) (n := 2) (kd := 9) (m := 6) (nx := 31) (r := 13) (tl := [(0, a), (0, b)]) (st' := []) (by decide +kernel) rfl (by decide +kernel) rfl (x125_w h C a b (by omega) (by omega) (by first | omega | exact ⟨by omega, by omega⟩) (F (by first | omega | exact ⟨by omega, by omega⟩)).1) ?_
          rintro v8 _ ⟨rfl, ⟨rfl, c7⟩ | ⟨Gv8, c7⟩⟩
          · refine zwW_p [(2, 3, 2), (1, 3, 2)] (q := 33) (ls' := [(2, 1), (0, a), (0, b), (2, 0)]) (st' := [(2, 0)]) (by decide +kernel) rfl ?_
            refine zwnu_ne (q := 40) (nx := 36) (by decide +kernel) (by decide) (fun c9 => ?_) (fun c9 => ?_)
            · exfalso; omega
            · have ZN : zBw h a b (fld h 13 1).toNat = -1 := by assumption
              refine zwW_p [(0, -1, 0), (24, 44, 0)] (q := 44) (ls' := [(2, 1), (0, a), (0, b), (2, 0)]) (st' := [(0, -1)]) (by decide +kernel) rfl ?_
              have ZZ : True := trivial
              refine zwW_ret (nx := 45) (a := 0) (b := 0) (by decide +kernel) rfl (Or.inl rfl) ?_
              exact ⟨rfl, by omega, by first | exact zWhy_o (by omega) | exact zWhy_n ⟨(by first | omega | exact ⟨by omega, by omega⟩), by omega, by omega⟩ ZN | exact zWhy_y ⟨(by first | omega | exact ⟨by omega, by omega⟩), by omega, by omega⟩ (F (by first | omega | exact ⟨by omega, by omega⟩)) ZY (by assumption)⟩
          · have lv8 := Gv8.1
            refine zwW_p [(2, 3, 2), (1, 3, 2)] (q := 33) (ls' := [(2, 1), (0, a), (0, b), (2, v8)]) (st' := [(2, v8)]) (by decide +kernel) rfl ?_
            refine zwnu_ne (q := 40) (nx := 36) (by decide +kernel) (by omega) (fun c10 => ?_) (fun c10 => ?_)
            · refine zwW_p [(1, 3, 2)] (q := 41) (ls' := [(2, 1), (0, a), (0, b), (2, v8)]) (st' := [(2, v8)]) (by decide +kernel) rfl ?_
              have ZY : 0 ≤ zBw h a b (fld h 13 1).toNat ∧ v8 = fld h 15 (zBw h a b (fld h 13 1).toNat).toNat := by assumption
              refine zwX_gi C (kd := 10) (bn := 0) (n := 3) (nx := 44) (by decide +kernel) Gv8.2.1 Gv8.1 rfl ?_
              intro v11 ev11 lv11 uv11
              have ZZ : True := trivial
              refine zwW_ret (nx := 45) (a := 0) (b := 0) (by decide +kernel) rfl (Or.inl rfl) ?_
              exact ⟨rfl, by omega, by first | exact zWhy_o (by omega) | exact zWhy_n ⟨(by first | omega | exact ⟨by omega, by omega⟩), by omega, by omega⟩ ZN | exact zWhy_y ⟨(by first | omega | exact ⟨by omega, by omega⟩), by omega, by omega⟩ (F (by first | omega | exact ⟨by omega, by omega⟩)) ZY (by assumption)⟩
            · exfalso; omega
        · exfalso; omega
def msx235_v : Zms := [(1020, 1020, 0, 100000)]
-- WheelLand$Village.noteMillPrice(I)V
theorem x235_v {sc : List Int} (h : Hp) (C : CI h) (r a : Int) (G_r : gV h r) (q_a : -2147483648 ≤ a ∧ a ≤ 2147483647) : zwC sc 1 235 [(2, r), (0, a)] h (zwRv (fun g => CI g ∧ zXR msx235_v (0) (0) h g ∧ (∀ q : Int, q ≠ fld h r 16 → fld g q = fld h q))) := by
  refine zwC_of (D := 0) 2 (by decide +kernel) rfl (ls := [(2, r), (0, a)]) rfl ?_
  have lw_r := G_r.1
  have X : zXR msx235_v 0 0 h h := zXR.rf _ _
  refine zwW_p [(1, 1, 0)] (q := 1) (ls' := [(2, r), (0, a)]) (st' := [(0, a)]) (by decide +kernel) rfl ?_
  refine zwif_lt (q := 23) (nx := 4) (by decide +kernel) (fun c1 => ?_) (fun c1 => ?_)
  · refine zwW_retv (nx := 24) (a := 0) (b := 0) (by decide +kernel) ?_
    exact ⟨C, X.le (by decide) (by decide), by first | exact fun _ _ => rfl | exact W22 | exact fun q hq => W22 q (fun z => hq (z.trans erfl.symm))⟩
  · refine zwW_p [(1, 1, 0), (1, 0, 2)] (q := 6) (ls' := [(2, r), (0, a)]) (st' := [(2, r), (0, a)]) (by decide +kernel) rfl ?_
    refine zwW_get (kd := 11) (bn := 16) (t := 2) (n := 17) (nx := 9) (by decide +kernel) G_r.2.1 rfl ?_
    obtain ⟨v2, ev2⟩ : ∃ z, z = fld h r 16 := ⟨_, rfl⟩
    rw [← ev2]
    have Gv2 : gA 157 h v2 := by rw [ev2]; exact G_r.2.2
    have lv2 := Gv2.1
    refine zwW_len (n := 157) (nx := 10) (by decide +kernel) Gv2.2 rfl ?_
    refine zwic_ge (q := 23) (nx := 13) (by decide +kernel) (fun c3 => ?_) (fun c3 => ?_)
    · refine zwW_retv (nx := 24) (a := 0) (b := 0) (by decide +kernel) ?_
      exact ⟨C, X.le (by decide) (by decide), by first | exact fun _ _ => rfl | exact W22 | exact fun q hq => W22 q (fun z => hq (z.trans erfl.symm))⟩
    · refine zwW_p [(1, 0, 2)] (q := 14) (ls' := [(2, r), (0, a)]) (st' := [(2, r)]) (by decide +kernel) rfl ?_
      refine zwW_get (kd := 11) (bn := 16) (t := 2) (n := 17) (nx := 17) (by decide +kernel) G_r.2.1 rfl ?_
      rw [← ev2]
      refine zwW_p [(1, 1, 0), (1, 0, 2)] (q := 19) (ls' := [(2, r), (0, a)]) (st' := [(2, r), (0, a), (2, v2)]) (by decide +kernel) rfl ?_
      refine zwX_gi C (kd := 11) (bn := 9) (n := 17) (nx := 22) (by decide +kernel) G_r.2.1 G_r.1 rfl ?_
      intro v5 ev5 lv5 uv5
      refine zwX_si C (n := 157) (nx := 23) (by decide +kernel) Gv2.2 Gv2.1 (by first | omega | exact ⟨by omega, by omega⟩) (by first | omega | exact ⟨by omega, by omega⟩) (by omega) ?_
      rintro h6 eh6 Ch6 Qh6
      have W22 : ∀ q : Int, q ≠ fld h r 16 → fld h6 q = fld h q := fun q hq => fld_o eh6 (fun z => hq (z.trans ev2))
      have Xh6 : zXR msx235_v (0) (0) h h6 := X.tr (c2 := 0) (s2 := 0) Qh6 (by decide +kernel) (by decide) (by decide)
      have Gh6_0 : gV h6 r := G_r.x Qh6
      refine zwW_retv (nx := 24) (a := 0) (b := 0) (by decide +kernel) ?_
      exact ⟨Ch6, Xh6.le (by decide) (by decide), by first | exact fun _ _ => rfl | exact W22 | exact fun q hq => W22 q (fun z => hq (z.trans ev2.symm))⟩
def msx193_v : Zms := [(1004, 1004, 14, 15), (1020, 1020, 0, 100000)]
-- WheelLand.beginWeek()V
theorem x193_v {sc : List Int} (h : Hp) (C : CI h) : zwC sc 5 193 [(2, 1)] h (zwRv (fun g => CI g ∧ zXR msx193_v (0) (0) h g ∧ (zKw h g))) := by
  refine zwC_of (D := 4) 2 (by decide +kernel) rfl (ls := [(2, 1), (9, 0)]) rfl ?_
  have X : zXR msx193_v 0 0 h h := zXR.rf _ _
  have K : zKw h h := zKw.rf
  refine zwW_p [(0, 0, 0), (2, 1, 0)] (q := 2) (ls' := [(2, 1), (0, 0)]) (st' := []) (by decide +kernel) rfl ?_
  have L1 : ∀ (n0 : Nat) (v1L1 : Int) (hL1 : Hp), n0 = ((1000 - v1L1)).toNat → (zKw h hL1) → (0 ≤ v1L1 ∧ v1L1 ≤ 1000) → CI hL1 → zXR msx193_v (0) (0) h hL1 → zwW sc (4) 193 2 [(2, 1), (0, v1L1)] [] hL1 (zwRv (fun g => CI g ∧ zXR msx193_v (0) (0) h g ∧ (zKw h g))) := by
    intro n0
    induction n0 using Nat.strongRecOn with
    | ind n0 IHL1 =>
      intro v1L1 hL1 hnL1 iL1_0 iL1_1 ChL1 XhL1
      refine zwW_p [(1, 1, 0), (1, 0, 2)] (q := 4) (ls' := [(2, 1), (0, v1L1)]) (st' := [(2, 1), (0, v1L1)]) (by decide +kernel) rfl ?_
      refine zwW_gc ChL1.1 (kd := 12) (bn := 2) (n := 13) (c := 2) (nx := 7) (by decide +kernel) ?_
      refine zwW_cm ChL1.1 (op := 60) (k' := 96) (n := 0) (kd := 0) (m := 3) (nx := 10) (r := 2) (tl := []) (st' := [(0, v1L1)]) (by decide +kernel) rfl (by decide +kernel) rfl (x96_2 ChL1) ?_
      rintro v2 _ ⟨rfl, ev2⟩
      have bv2 := zLb_2 ChL1
      refine zwic_ge (q := 37) (nx := 13) (by decide +kernel) (fun c3 => ?_) (fun c3 => ?_)
      · refine zwW_p [(0, 0, 0), (2, 1, 0)] (q := 39) (ls' := [(2, 1), (0, 0)]) (st' := []) (by decide +kernel) rfl ?_
        have L4 : ∀ (n0 : Nat) (v1L4 : Int) (hL4 : Hp), n0 = ((1000 - v1L4)).toNat → (zKw h hL4) → (0 ≤ v1L4 ∧ v1L4 ≤ 1000) → CI hL4 → zXR msx193_v (0) (0) h hL4 → zwW sc (4) 193 39 [(2, 1), (0, v1L4)] [] hL4 (zwRv (fun g => CI g ∧ zXR msx193_v (0) (0) h g ∧ (zKw h g))) := by
          intro n0
          induction n0 using Nat.strongRecOn with
          | ind n0 IHL4 =>
            intro v1L4 hL4 hnL4 iL4_0 iL4_1 ChL4 XhL4
            refine zwW_p [(1, 1, 0), (1, 0, 2)] (q := 41) (ls' := [(2, 1), (0, v1L4)]) (st' := [(2, 1), (0, v1L4)]) (by decide +kernel) rfl ?_
            refine zwW_gc ChL4.1 (kd := 12) (bn := 3) (n := 13) (c := 3) (nx := 44) (by decide +kernel) ?_
            refine zwW_cm ChL4.1 (op := 60) (k' := 96) (n := 0) (kd := 0) (m := 3) (nx := 47) (r := 3) (tl := []) (st' := [(0, v1L4)]) (by decide +kernel) rfl (by decide +kernel) rfl (x96_3 ChL4) ?_
            rintro v5 _ ⟨rfl, ev5⟩
            have bv5 := zLb_3 ChL4
            refine zwic_ge (q := 71) (nx := 50) (by decide +kernel) (fun c6 => ?_) (fun c6 => ?_)
            · refine zwW_retv (nx := 72) (a := 0) (b := 0) (by decide +kernel) ?_
              exact ⟨ChL4, XhL4.le (by decide) (by decide), by exact iL4_0⟩
            · refine zwW_p [(1, 0, 2)] (q := 51) (ls' := [(2, 1), (0, v1L4)]) (st' := [(2, 1)]) (by decide +kernel) rfl ?_
              refine zwW_gc ChL4.1 (kd := 12) (bn := 3) (n := 13) (c := 3) (nx := 54) (by decide +kernel) ?_
              refine zwW_p [(1, 1, 0)] (q := 55) (ls' := [(2, 1), (0, v1L4)]) (st' := [(0, v1L4), (2, 3)]) (by decide +kernel) rfl ?_
              refine zwW_cm ChL4.1 (op := 60) (k' := 123) (n := 1) (kd := 0) (m := 3) (nx := 58) (r := 3) (tl := [(0, v1L4)]) (st' := []) (by decide +kernel) rfl (by decide +kernel) rfl (x123_3 ChL4 (i := v1L4) (by first | omega | exact ⟨by omega, by omega⟩)) ?_
              rintro v7 _ ⟨rfl, Gv7, ev7⟩
              have lv7 := Gv7.1
              refine zwW_cast (a := 4) (kd := 4) (n := 19) (nx := 61) (by decide +kernel) rfl (Or.inr Gv7.2.1) ?_
              refine zwW_p [(0, 0, 0)] (q := 62) (ls' := [(2, 1), (0, v1L4)]) (st' := [(0, 0), (2, v7)]) (by decide +kernel) rfl ?_
              refine zwX_pi ChL4 (kd := 4) (bn := 14) (n := 19) (nx := 65) (by decide +kernel) Gv7.2.1 Gv7.1 (by first | decide | exact ⟨by decide, by decide⟩) ?_
              rintro h8 eh8 Ch8 Qh8
              have Xh8 : zXR msx193_v (0) (0) h h8 := XhL4.tr (c2 := 0) (s2 := 0) Qh8 (by decide +kernel) (by decide) (by decide)
              have Kh8 : zKw h h8 := iL4_0.fr Qh8 (by decide +kernel)
              refine zwW_inc (i := 1) (c := 1) (x := v1L4) (nx := 68) (by decide +kernel) rfl (by first | omega | exact ⟨by omega, by omega⟩) (ls' := [(2, 1), (0, (v1L4 + 1))]) rfl ?_
              refine zwW_p [(24, 39, 0)] (q := 39) (ls' := [(2, 1), (0, (v1L4 + 1))]) (st' := []) (by decide +kernel) rfl ?_
              exact IHL4 ((1000 - (v1L4 + 1))).toNat (by omega) (v1L4 + 1) h8 rfl (Kh8) (by omega) Ch8 (Xh8.le (by decide) (by decide))
        exact L4 _ 0 hL1 rfl (iL1_0) (by omega) ChL1 (XhL1.le (by decide) (by decide))
      · refine zwW_p [(1, 0, 2)] (q := 14) (ls' := [(2, 1), (0, v1L1)]) (st' := [(2, 1)]) (by decide +kernel) rfl ?_
        refine zwW_gc ChL1.1 (kd := 12) (bn := 2) (n := 13) (c := 2) (nx := 17) (by decide +kernel) ?_
        refine zwW_p [(1, 1, 0)] (q := 18) (ls' := [(2, 1), (0, v1L1)]) (st' := [(0, v1L1), (2, 2)]) (by decide +kernel) rfl ?_
        refine zwW_cm ChL1.1 (op := 60) (k' := 123) (n := 1) (kd := 0) (m := 3) (nx := 21) (r := 2) (tl := [(0, v1L1)]) (st' := []) (by decide +kernel) rfl (by decide +kernel) rfl (x123_2 ChL1 (i := v1L1) (by first | omega | exact ⟨by omega, by omega⟩)) ?_
        rintro v9 _ ⟨rfl, Gv9, ev9⟩
        have lv9 := Gv9.1
        refine zwW_cast (a := 11) (kd := 11) (n := 17) (nx := 24) (by decide +kernel) rfl (Or.inr Gv9.2.1) ?_
        refine zwW_p [(1, 0, 2)] (q := 25) (ls' := [(2, 1), (0, v1L1)]) (st' := [(2, 1), (2, v9)]) (by decide +kernel) rfl ?_
        refine zwW_gs ChL1.1 (kd := 12) (bn := 0) (n := 13) (t := 0) (lo := 0) (hi := 156) (nx := 28) (by decide +kernel) ?_
        intro v10 ev10 lv10 uv10
        have R28 := XhL1
        have K28 := iL1_0
        refine zwW_cvv (op := 60) (k' := 235) (n := 1) (kd := 11) (m := 17) (nx := 31) (r := v9) (tl := [(0, v10)]) (st' := []) (by decide +kernel) rfl (by decide +kernel) Gv9.2.1 (x235_v hL1 ChL1 v9 v10 Gv9 (by omega)) rfl ?_
        rintro h12 ⟨Ch12, Qh12, f11⟩
        have Xh12 : zXR msx193_v (0) (0) h h12 := XhL1.tr (c2 := 0) (s2 := 0) Qh12 (by decide +kernel) (by decide) (by decide)
        have KN := K28.st C R28 (by decide +kernel) f11 ev9 (by omega) Qh12.1
        refine zwW_inc (i := 1) (c := 1) (x := v1L1) (nx := 34) (by decide +kernel) rfl (by first | omega | exact ⟨by omega, by omega⟩) (ls' := [(2, 1), (0, (v1L1 + 1))]) rfl ?_
        refine zwW_p [(24, 2, 0)] (q := 2) (ls' := [(2, 1), (0, (v1L1 + 1))]) (st' := []) (by decide +kernel) rfl ?_
        exact IHL1 ((1000 - (v1L1 + 1))).toNat (by omega) (v1L1 + 1) h12 rfl (KN) (by omega) Ch12 (Xh12.le (by decide) (by decide))
  exact L1 _ 0 h rfl (K) (by omega) C (X.le (by decide) (by decide))
def msx113_v : Zms := [(1, 1, 0, 1), (1, 1, 1, 2), (4, 4, 0, 3), (17, 17, 0, 13), (18, 18, 0, 400), (34, 34, 2, 3), (35, 35, 0, 936), (36, 36, 0, 8), (1004, 1004, 6, 7), (1004, 1004, 8, 9), (1004, 1004, 9, 10), (1004, 1004, 10, 11), (1004, 1004, 14, 15), (1004, 1004, 15, 16), (1004, 1004, 18, 19), (1011, 1011, 3, 4), (1011, 1011, 4, 5), (1011, 1011, 5, 6), (1011, 1011, 6, 7), (1011, 1011, 7, 8), (1011, 1011, 9, 10), (1011, 1011, 10, 11), (1011, 1011, 13, 14), (1011, 1011, 14, 15), (1011, 1011, 15, 16), (1020, 1020, 0, 100000)]
-- WheelLand.endWeek()V
theorem x113_v {sc : List Int} (h : Hp) (C : CI h) (p1 : fld h 1 0 < 156) (hl : h.length ≤ 999920000) : zwC sc 8 113 [(2, 1)] h (zwRv (fun g => CI g ∧ zXR msx113_v (0) (0) h g ∧ (fld g 1 0 = fld h 1 0 + 1) ∧ (zKw h g))) := by
  refine zwC_of (D := 7) 2 (by decide +kernel) rfl (ls := [(2, 1), (9, 0)]) rfl ?_
  have X : zXR msx113_v 0 0 h h := zXR.rf _ _
  have K : zKw h h := zKw.rf
  refine zwW_p [(1, 0, 2)] (q := 1) (ls' := [(2, 1), (9, 0)]) (st' := [(2, 1)]) (by decide +kernel) rfl ?_
  refine zwW_cm C.1 (op := 60) (k' := 185) (n := 0) (kd := 12) (m := 13) (nx := 4) (r := 1) (tl := []) (st' := []) (by decide +kernel) rfl (by decide +kernel) rfl (x185 h C (by omega)) ?_
  rintro v2 h3 ⟨Ch3, Qh3, f1⟩
  have Xh3 : zXR msx113_v (0) (0) h h3 := X.tr (c2 := 0) (s2 := 0) Qh3 (by decide +kernel) (by decide) (by decide)
  have th3_1_0 : fld h3 1 0 = fld h 1 0 := Qh3.f (a1 := 1) (a2 := 1) (j1 := 0) (j2 := 1) (by decide +kernel) (by first | decide | exact ⟨by decide, by decide⟩) (by first | decide | exact ⟨by decide, by decide⟩) (by first | decide | exact ⟨by decide, by decide⟩)
  have Kh3 : zKw h h3 := K.fr Qh3 (by decide +kernel)
  refine zwW_p [(2, 1, 0), (1, 0, 2)] (q := 6) (ls' := [(2, 1), (0, v2)]) (st' := [(2, 1)]) (by decide +kernel) rfl ?_
  refine zwW_cmv Ch3.1 (op := 60) (k' := 186) (n := 0) (kd := 12) (m := 13) (nx := 9) (r := 1) (tl := []) (st' := []) (by decide +kernel) rfl (by decide +kernel) rfl (x186 h3 Ch3) ?_
  rintro h4 ⟨Ch4, Qh4⟩
  have Xh4 : zXR msx113_v (0) (0) h h4 := Xh3.tr (c2 := 0) (s2 := 0) Qh4 (by decide +kernel) (by decide) (by decide)
  have th4_1_0 : fld h4 1 0 = fld h3 1 0 := Qh4.f (a1 := 1) (a2 := 1) (j1 := 0) (j2 := 1) (by decide +kernel) (by first | decide | exact ⟨by decide, by decide⟩) (by first | decide | exact ⟨by decide, by decide⟩) (by first | decide | exact ⟨by decide, by decide⟩)
  have Kh4 : zKw h h4 := Kh3.fr Qh4 (by decide +kernel)
  refine zwW_p [(1, 0, 2)] (q := 10) (ls' := [(2, 1), (0, v2)]) (st' := [(2, 1)]) (by decide +kernel) rfl ?_
  refine zwW_cmv Ch4.1 (op := 60) (k' := 187) (n := 0) (kd := 12) (m := 13) (nx := 13) (r := 1) (tl := []) (st' := []) (by decide +kernel) rfl (by decide +kernel) rfl (x187 h4 Ch4) ?_
  rintro h5 ⟨Ch5, Qh5⟩
  have Xh5 : zXR msx113_v (0) (0) h h5 := Xh4.tr (c2 := 0) (s2 := 0) Qh5 (by decide +kernel) (by decide) (by decide)
  have th5_1_0 : fld h5 1 0 = fld h4 1 0 := Qh5.f (a1 := 1) (a2 := 1) (j1 := 0) (j2 := 1) (by decide +kernel) (by first | decide | exact ⟨by decide, by decide⟩) (by first | decide | exact ⟨by decide, by decide⟩) (by first | decide | exact ⟨by decide, by decide⟩)
  have Kh5 : zKw h h5 := Kh4.fr Qh5 (by decide +kernel)
  refine zwW_p [(1, 0, 2)] (q := 14) (ls' := [(2, 1), (0, v2)]) (st' := [(2, 1)]) (by decide +kernel) rfl ?_
  refine zwW_gs Ch5.1 (kd := 12) (bn := 0) (n := 13) (t := 0) (lo := 0) (hi := 156) (nx := 17) (by decide +kernel) ?_
  intro v6 ev6 lv6 uv6
  refine zwW_p [(0, 13, 0)] (q := 19) (ls' := [(2, 1), (0, v2)]) (st' := [(0, 13), (0, v6)]) (by decide +kernel) rfl ?_
  refine zwW_rem (nx := 20) (by decide +kernel) (by omega) (by omega) ?_
  refine zwW_p [(0, 12, 0)] (q := 22) (ls' := [(2, 1), (0, v2)]) (st' := [(0, 12), (0, (v6 % 13))]) (by decide +kernel) rfl ?_
  refine zwic_ne (q := 33) (nx := 25) (by decide +kernel) (fun c7 => ?_) (fun c7 => ?_)
  · refine zwW_p [(1, 0, 2)] (q := 34) (ls' := [(2, 1), (0, v2)]) (st' := [(2, 1)]) (by decide +kernel) rfl ?_
    refine zwW_gc Ch5.1 (kd := 12) (bn := 11) (n := 13) (c := 34) (nx := 37) (by decide +kernel) ?_
    refine zwW_p [(1, 0, 2)] (q := 38) (ls' := [(2, 1), (0, v2)]) (st' := [(2, 1), (2, 34)]) (by decide +kernel) rfl ?_
    refine zwW_gs Ch5.1 (kd := 12) (bn := 0) (n := 13) (t := 0) (lo := 0) (hi := 156) (nx := 41) (by decide +kernel) ?_
    intro v8 ev8 lv8 uv8
    refine zwW_p [(1, 0, 2)] (q := 42) (ls' := [(2, 1), (0, v2)]) (st' := [(2, 1), (0, v8), (2, 34)]) (by decide +kernel) rfl ?_
    refine zwW_cm Ch5.1 (op := 60) (k' := 190) (n := 0) (kd := 12) (m := 13) (nx := 45) (r := 1) (tl := []) (st' := [(0, v8), (2, 34)]) (by decide +kernel) rfl (by decide +kernel) rfl (x190 h5 Ch5) ?_
    rintro v9 _ ⟨rfl, f10⟩
    refine zwW_p [(1, 1, 0), (1, 0, 2)] (q := 47) (ls' := [(2, 1), (0, v2)]) (st' := [(2, 1), (0, v2), (0, v9), (0, v8), (2, 34)]) (by decide +kernel) rfl ?_
    refine zwW_cm Ch5.1 (op := 60) (k' := 191) (n := 0) (kd := 12) (m := 13) (nx := 50) (r := 1) (tl := []) (st' := [(0, v2), (0, v9), (0, v8), (2, 34)]) (by decide +kernel) rfl (by decide +kernel) rfl (x191 h5 Ch5) ?_
    rintro v11 _ ⟨rfl, f12⟩
    refine zwW_cmv Ch5.1 (op := 60) (k' := 192) (n := 4) (kd := 5) (m := 4) (nx := 53) (r := 34) (tl := [(0, v8), (0, v9), (0, v2), (0, v11)]) (st' := []) (by decide +kernel) rfl (by decide +kernel) rfl (x192 h5 Ch5 v8 v9 v2 v11 (by omega) (by omega) (by omega) (by omega) (by omega)) ?_
    rintro h13 ⟨Ch13, Qh13⟩
    have Xh13 : zXR msx113_v (0) (0) h h13 := Xh5.tr (c2 := 0) (s2 := 0) Qh13 (by decide +kernel) (by decide) (by decide)
    have th13_1_0 : fld h13 1 0 = fld h5 1 0 := Qh13.f (a1 := 1) (a2 := 1) (j1 := 0) (j2 := 1) (by decide +kernel) (by first | decide | exact ⟨by decide, by decide⟩) (by first | decide | exact ⟨by decide, by decide⟩) (by first | decide | exact ⟨by decide, by decide⟩)
    have Kh13 : zKw h h13 := Kh5.fr Qh13 (by decide +kernel)
    refine zwW_p [(1, 0, 2), (12, 0, 0)] (q := 55) (ls' := [(2, 1), (0, v2)]) (st' := [(2, 1), (2, 1)]) (by decide +kernel) rfl ?_
    refine zwW_gs Ch13.1 (kd := 12) (bn := 0) (n := 13) (t := 0) (lo := 0) (hi := 156) (nx := 58) (by decide +kernel) ?_
    intro v14 ev14 lv14 uv14
    refine zwW_p [(0, 1, 0)] (q := 59) (ls' := [(2, 1), (0, v2)]) (st' := [(0, 1), (0, v14), (2, 1)]) (by decide +kernel) rfl ?_
    refine zwW_add (nx := 60) (by decide +kernel) (by first | omega | exact ⟨by omega, by omega⟩) ?_
    refine zwW_ps Ch13.1 (kd := 12) (bn := 0) (n := 13) (lo := 0) (hi := 156) (nx := 63) (by decide +kernel) (by first | omega | exact ⟨by omega, by omega⟩) ?_
    intro h15 eh15 Ih15
    have Ch15 : CI h15 := Ch13.wc eh15 Ih15 (by decide) (by decide)
    have Qh15 : zXR [(1, 1, 0, 1)] 0 0 h13 h15 := zXR.wc eh15 rfl ⟨by decide, by decide, Or.inl (by decide)⟩ (by first | decide | exact ⟨by decide, by decide⟩)
    have Xh15 : zXR msx113_v (0) (0) h h15 := Xh13.tr (c2 := 0) (s2 := 0) Qh15 (by decide +kernel) (by decide) (by decide)
    have Kh15 : zKw h h15 := Kh13.fr Qh15 (by decide +kernel)
    have th15_1_0 : fld h15 1 0 = (v14 + 1) := by rw [eh15]; exact fld_wr_eq (Ch13.1.s (a1 := 1) (a2 := 1) (k := 12) (n := 13) (by decide +kernel) (by decide) (by decide)) (by decide)
    refine zwW_p [(1, 0, 2)] (q := 64) (ls' := [(2, 1), (0, v2)]) (st' := [(2, 1)]) (by decide +kernel) rfl ?_
    have R64 := Xh15
    have K64 := Kh15
    refine zwW_cmv Ch15.1 (op := 60) (k' := 193) (n := 0) (kd := 12) (m := 13) (nx := 67) (r := 1) (tl := []) (st' := []) (by decide +kernel) rfl (by decide +kernel) rfl (x193_v h15 Ch15) ?_
    rintro h17 ⟨Ch17, Qh17, f16⟩
    have Xh17 : zXR msx113_v (0) (0) h h17 := Xh15.tr (c2 := 0) (s2 := 0) Qh17 (by decide +kernel) (by decide) (by decide)
    have th17_1_0 : fld h17 1 0 = fld h15 1 0 := Qh17.f (a1 := 1) (a2 := 1) (j1 := 0) (j2 := 1) (by decide +kernel) (by first | decide | exact ⟨by decide, by decide⟩) (by first | decide | exact ⟨by decide, by decide⟩) (by first | decide | exact ⟨by decide, by decide⟩)
    have KN := K64.tr C R64 (by decide +kernel) f16
    refine zwW_retv (nx := 68) (a := 0) (b := 0) (by decide +kernel) ?_
    exact ⟨Ch17, Xh17.le (by decide) (by decide), by omega, by exact KN⟩
  · refine zwW_p [(1, 0, 2)] (q := 26) (ls' := [(2, 1), (0, v2)]) (st' := [(2, 1)]) (by decide +kernel) rfl ?_
    refine zwW_cmv Ch5.1 (op := 60) (k' := 188) (n := 0) (kd := 12) (m := 13) (nx := 29) (r := 1) (tl := []) (st' := []) (by decide +kernel) rfl (by decide +kernel) rfl (x188 h5 Ch5) ?_
    rintro h18 ⟨Ch18, Qh18⟩
    have Xh18 : zXR msx113_v (0) (0) h h18 := Xh5.tr (c2 := 0) (s2 := 0) Qh18 (by decide +kernel) (by decide) (by decide)
    have th18_1_0 : fld h18 1 0 = fld h5 1 0 := Qh18.f (a1 := 1) (a2 := 1) (j1 := 0) (j2 := 1) (by decide +kernel) (by first | decide | exact ⟨by decide, by decide⟩) (by first | decide | exact ⟨by decide, by decide⟩) (by first | decide | exact ⟨by decide, by decide⟩)
    have Kh18 : zKw h h18 := Kh5.fr Qh18 (by decide +kernel)
    refine zwW_p [(1, 0, 2)] (q := 30) (ls' := [(2, 1), (0, v2)]) (st' := [(2, 1)]) (by decide +kernel) rfl ?_
    refine zwW_cmv Ch18.1 (op := 60) (k' := 189) (n := 0) (kd := 12) (m := 13) (nx := 33) (r := 1) (tl := []) (st' := []) (by decide +kernel) rfl (by decide +kernel) rfl (x189 h18 Ch18) ?_
    rintro h19 ⟨Ch19, Qh19⟩
    have Xh19 : zXR msx113_v (0) (0) h h19 := Xh18.tr (c2 := 0) (s2 := 0) Qh19 (by decide +kernel) (by decide) (by decide)
    have th19_1_0 : fld h19 1 0 = fld h18 1 0 := Qh19.f (a1 := 1) (a2 := 1) (j1 := 0) (j2 := 1) (by decide +kernel) (by first | decide | exact ⟨by decide, by decide⟩) (by first | decide | exact ⟨by decide, by decide⟩) (by first | decide | exact ⟨by decide, by decide⟩)
    have Kh19 : zKw h h19 := Kh18.fr Qh19 (by decide +kernel)
    refine zwW_p [(1, 0, 2)] (q := 34) (ls' := [(2, 1), (0, v2)]) (st' := [(2, 1)]) (by decide +kernel) rfl ?_
    refine zwW_gc Ch19.1 (kd := 12) (bn := 11) (n := 13) (c := 34) (nx := 37) (by decide +kernel) ?_
    refine zwW_p [(1, 0, 2)] (q := 38) (ls' := [(2, 1), (0, v2)]) (st' := [(2, 1), (2, 34)]) (by decide +kernel) rfl ?_
    refine zwW_gs Ch19.1 (kd := 12) (bn := 0) (n := 13) (t := 0) (lo := 0) (hi := 156) (nx := 41) (by decide +kernel) ?_
    intro v20 ev20 lv20 uv20
    refine zwW_p [(1, 0, 2)] (q := 42) (ls' := [(2, 1), (0, v2)]) (st' := [(2, 1), (0, v20), (2, 34)]) (by decide +kernel) rfl ?_
    refine zwW_cm Ch19.1 (op := 60) (k' := 190) (n := 0) (kd := 12) (m := 13) (nx := 45) (r := 1) (tl := []) (st' := [(0, v20), (2, 34)]) (by decide +kernel) rfl (by decide +kernel) rfl (x190 h19 Ch19) ?_
    rintro v21 _ ⟨rfl, f22⟩
    refine zwW_p [(1, 1, 0), (1, 0, 2)] (q := 47) (ls' := [(2, 1), (0, v2)]) (st' := [(2, 1), (0, v2), (0, v21), (0, v20), (2, 34)]) (by decide +kernel) rfl ?_
    refine zwW_cm Ch19.1 (op := 60) (k' := 191) (n := 0) (kd := 12) (m := 13) (nx := 50) (r := 1) (tl := []) (st' := [(0, v2), (0, v21), (0, v20), (2, 34)]) (by decide +kernel) rfl (by decide +kernel) rfl (x191 h19 Ch19) ?_
    rintro v23 _ ⟨rfl, f24⟩
    refine zwW_cmv Ch19.1 (op := 60) (k' := 192) (n := 4) (kd := 5) (m := 4) (nx := 53) (r := 34) (tl := [(0, v20), (0, v21), (0, v2), (0, v23)]) (st' := []) (by decide +kernel) rfl (by decide +kernel) rfl (x192 h19 Ch19 v20 v21 v2 v23 (by omega) (by omega) (by omega) (by omega) (by omega)) ?_
    rintro h25 ⟨Ch25, Qh25⟩
    have Xh25 : zXR msx113_v (0) (0) h h25 := Xh19.tr (c2 := 0) (s2 := 0) Qh25 (by decide +kernel) (by decide) (by decide)
    have th25_1_0 : fld h25 1 0 = fld h19 1 0 := Qh25.f (a1 := 1) (a2 := 1) (j1 := 0) (j2 := 1) (by decide +kernel) (by first | decide | exact ⟨by decide, by decide⟩) (by first | decide | exact ⟨by decide, by decide⟩) (by first | decide | exact ⟨by decide, by decide⟩)
    have Kh25 : zKw h h25 := Kh19.fr Qh25 (by decide +kernel)
    refine zwW_p [(1, 0, 2), (12, 0, 0)] (q := 55) (ls' := [(2, 1), (0, v2)]) (st' := [(2, 1), (2, 1)]) (by decide +kernel) rfl ?_
    refine zwW_gs Ch25.1 (kd := 12) (bn := 0) (n := 13) (t := 0) (lo := 0) (hi := 156) (nx := 58) (by decide +kernel) ?_
    intro v26 ev26 lv26 uv26
    refine zwW_p [(0, 1, 0)] (q := 59) (ls' := [(2, 1), (0, v2)]) (st' := [(0, 1), (0, v26), (2, 1)]) (by decide +kernel) rfl ?_
    refine zwW_add (nx := 60) (by decide +kernel) (by first | omega | exact ⟨by omega, by omega⟩) ?_
    refine zwW_ps Ch25.1 (kd := 12) (bn := 0) (n := 13) (lo := 0) (hi := 156) (nx := 63) (by decide +kernel) (by first | omega | exact ⟨by omega, by omega⟩) ?_
    intro h27 eh27 Ih27
    have Ch27 : CI h27 := Ch25.wc eh27 Ih27 (by decide) (by decide)
    have Qh27 : zXR [(1, 1, 0, 1)] 0 0 h25 h27 := zXR.wc eh27 rfl ⟨by decide, by decide, Or.inl (by decide)⟩ (by first | decide | exact ⟨by decide, by decide⟩)
    have Xh27 : zXR msx113_v (0) (0) h h27 := Xh25.tr (c2 := 0) (s2 := 0) Qh27 (by decide +kernel) (by decide) (by decide)
    have Kh27 : zKw h h27 := Kh25.fr Qh27 (by decide +kernel)
    have th27_1_0 : fld h27 1 0 = (v26 + 1) := by rw [eh27]; exact fld_wr_eq (Ch25.1.s (a1 := 1) (a2 := 1) (k := 12) (n := 13) (by decide +kernel) (by decide) (by decide)) (by decide)
    refine zwW_p [(1, 0, 2)] (q := 64) (ls' := [(2, 1), (0, v2)]) (st' := [(2, 1)]) (by decide +kernel) rfl ?_
    have R64 := Xh27
    have K64 := Kh27
    refine zwW_cmv Ch27.1 (op := 60) (k' := 193) (n := 0) (kd := 12) (m := 13) (nx := 67) (r := 1) (tl := []) (st' := []) (by decide +kernel) rfl (by decide +kernel) rfl (x193_v h27 Ch27) ?_
    rintro h29 ⟨Ch29, Qh29, f28⟩
    have Xh29 : zXR msx113_v (0) (0) h h29 := Xh27.tr (c2 := 0) (s2 := 0) Qh29 (by decide +kernel) (by decide) (by decide)
    have th29_1_0 : fld h29 1 0 = fld h27 1 0 := Qh29.f (a1 := 1) (a2 := 1) (j1 := 0) (j2 := 1) (by decide +kernel) (by first | decide | exact ⟨by decide, by decide⟩) (by first | decide | exact ⟨by decide, by decide⟩) (by first | decide | exact ⟨by decide, by decide⟩)
    have KN := K64.tr C R64 (by decide +kernel) f28
    refine zwW_retv (nx := 68) (a := 0) (b := 0) (by decide +kernel) ?_
    exact ⟨Ch29, Xh29.le (by decide) (by decide), by omega, by exact KN⟩
def msx19_v : Zms := [(1, 1, 0, 1), (1, 1, 1, 2), (4, 4, 0, 3), (17, 17, 0, 13), (18, 18, 0, 400), (34, 34, 2, 3), (35, 35, 0, 936), (36, 36, 0, 8), (1004, 1004, 6, 7), (1004, 1004, 8, 9), (1004, 1004, 9, 10), (1004, 1004, 10, 11), (1004, 1004, 14, 15), (1004, 1004, 15, 16), (1004, 1004, 18, 19), (1011, 1011, 3, 4), (1011, 1011, 4, 5), (1011, 1011, 5, 6), (1011, 1011, 6, 7), (1011, 1011, 7, 8), (1011, 1011, 9, 10), (1011, 1011, 10, 11), (1011, 1011, 13, 14), (1011, 1011, 14, 15), (1011, 1011, 15, 16), (1020, 1020, 0, 100000)]
-- WheelLand.go(I)I
theorem x19_v {sc : List Int} (h : Hp) (C : CI h) (a : Int) (q_a : -2147483648 ≤ a ∧ a ≤ 2147483647) (hl : h.length ≤ 999910000) : zwC sc 9 19 [(2, 1), (0, a)] h (zwRt 0 (fun x g => CI g ∧ zXR msx19_v (0) (0) h g ∧ (-2147483648 ≤ x ∧ x ≤ 2147483647) ∧ (zKw h g))) := by
  refine zwC_of (D := 8) 3 (by decide +kernel) rfl (ls := [(2, 1), (0, a), (9, 0)]) rfl ?_
  have X : zXR msx19_v 0 0 h h := zXR.rf _ _
  have K : zKw h h := zKw.rf
  refine zwW_p [(1, 1, 0), (0, 0, 0), (0, 26, 0)] (q := 4) (ls' := [(2, 1), (0, a), (9, 0)]) (st' := [(0, 26), (0, 0), (0, a)]) (by decide +kernel) rfl ?_
  refine zwW_cs (k' := 98) (n := 3) (nx := 7) (as := [(0, a), (0, 0), (0, 26)]) (st' := []) (by decide +kernel) rfl (x98 h C a 0 26 (by omega) (by omega) (by omega)) rfl ?_
  rintro x _ ⟨rfl, ⟨rfl, c1⟩ | ⟨rfl, c1⟩⟩
  · refine zwif_eq (q := 12) (nx := 10) (by decide +kernel) (fun c2 => ?_) (fun c2 => ?_)
    · exfalso; omega
    · refine zwW_p [(0, -1, 0)] (q := 11) (ls' := [(2, 1), (0, a), (9, 0)]) (st' := [(0, -1)]) (by decide +kernel) rfl ?_
      refine zwW_ret (nx := 12) (a := 0) (b := 0) (by decide +kernel) rfl (Or.inl rfl) ?_
      exact ⟨C, X.le (by decide) (by decide), by omega, by exact K⟩
  · refine zwif_eq (q := 12) (nx := 10) (by decide +kernel) (fun c3 => ?_) (fun c3 => ?_)
    · refine zwW_p [(0, 0, 0), (2, 2, 0)] (q := 14) (ls' := [(2, 1), (0, a), (0, 0)]) (st' := []) (by decide +kernel) rfl ?_
      have L4 : ∀ (n0 : Nat) (v2L4 : Int) (hL4 : Hp), n0 = ((1000 - v2L4)).toNat → (v2L4 ≤ a) → (fld hL4 1 0 = fld h 1 0 + v2L4) → (zKw h hL4) → (0 ≤ v2L4 ∧ v2L4 ≤ 26) → CI hL4 → zXR msx19_v (0) (0) h hL4 → zwW sc (8) 19 14 [(2, 1), (0, a), (0, v2L4)] [] hL4 (zwRt 0 (fun x g => CI g ∧ zXR msx19_v (0) (0) h g ∧ (-2147483648 ≤ x ∧ x ≤ 2147483647) ∧ (zKw h g))) := by
        intro n0
        induction n0 using Nat.strongRecOn with
        | ind n0 IHL4 =>
          intro v2L4 hL4 hnL4 iL4_0 iL4_1 iL4_2 iL4_3 ChL4 XhL4
          refine zwW_p [(1, 2, 0), (1, 1, 0)] (q := 16) (ls' := [(2, 1), (0, a), (0, v2L4)]) (st' := [(0, a), (0, v2L4)]) (by decide +kernel) rfl ?_
          refine zwic_ge (q := 39) (nx := 19) (by decide +kernel) (fun c5 => ?_) (fun c5 => ?_)
          · refine zwW_p [(1, 0, 2)] (q := 40) (ls' := [(2, 1), (0, a), (0, v2L4)]) (st' := [(2, 1)]) (by decide +kernel) rfl ?_
            refine zwW_gs ChL4.1 (kd := 12) (bn := 0) (n := 13) (t := 0) (lo := 0) (hi := 156) (nx := 43) (by decide +kernel) ?_
            intro v6 ev6 lv6 uv6
            refine zwW_ret (nx := 44) (a := 0) (b := 0) (by decide +kernel) rfl (Or.inl rfl) ?_
            exact ⟨ChL4, XhL4.le (by decide) (by decide), by omega, by exact iL4_2⟩
          · refine zwW_p [(1, 0, 2)] (q := 20) (ls' := [(2, 1), (0, a), (0, v2L4)]) (st' := [(2, 1)]) (by decide +kernel) rfl ?_
            refine zwW_gs ChL4.1 (kd := 12) (bn := 0) (n := 13) (t := 0) (lo := 0) (hi := 156) (nx := 23) (by decide +kernel) ?_
            intro v7 ev7 lv7 uv7
            refine zwW_p [(0, 156, 0)] (q := 26) (ls' := [(2, 1), (0, a), (0, v2L4)]) (st' := [(0, 156), (0, v7)]) (by decide +kernel) rfl ?_
            refine zwic_ge (q := 39) (nx := 29) (by decide +kernel) (fun c8 => ?_) (fun c8 => ?_)
            · refine zwW_p [(1, 0, 2)] (q := 40) (ls' := [(2, 1), (0, a), (0, v2L4)]) (st' := [(2, 1)]) (by decide +kernel) rfl ?_
              refine zwW_gs ChL4.1 (kd := 12) (bn := 0) (n := 13) (t := 0) (lo := 0) (hi := 156) (nx := 43) (by decide +kernel) ?_
              intro v9 ev9 lv9 uv9
              refine zwW_ret (nx := 44) (a := 0) (b := 0) (by decide +kernel) rfl (Or.inl rfl) ?_
              exact ⟨ChL4, XhL4.le (by decide) (by decide), by omega, by exact iL4_2⟩
            · refine zwW_p [(1, 0, 2)] (q := 30) (ls' := [(2, 1), (0, a), (0, v2L4)]) (st' := [(2, 1)]) (by decide +kernel) rfl ?_
              have R30 := XhL4
              have K30 := iL4_2
              refine zwW_cmv ChL4.1 (op := 60) (k' := 113) (n := 0) (kd := 12) (m := 13) (nx := 33) (r := 1) (tl := []) (st' := []) (by decide +kernel) rfl (by decide +kernel) rfl (x113_v hL4 ChL4 (by omega) (by have := XhL4.hl C ChL4 (by decide) hl; omega)) ?_
              rintro h12 ⟨Ch12, Qh12, f10, f11⟩
              have Xh12 : zXR msx19_v (0) (0) h h12 := XhL4.tr (c2 := 0) (s2 := 0) Qh12 (by decide +kernel) (by decide) (by decide)
              have KN := K30.tr C R30 (by decide +kernel) f11
              refine zwW_inc (i := 2) (c := 1) (x := v2L4) (nx := 36) (by decide +kernel) rfl (by first | omega | exact ⟨by omega, by omega⟩) (ls' := [(2, 1), (0, a), (0, (v2L4 + 1))]) rfl ?_
              refine zwW_p [(24, 14, 0)] (q := 14) (ls' := [(2, 1), (0, a), (0, (v2L4 + 1))]) (st' := []) (by decide +kernel) rfl ?_
              exact IHL4 ((1000 - (v2L4 + 1))).toNat (by omega) (v2L4 + 1) h12 rfl (by omega) (by omega) (KN) (by omega) Ch12 (Xh12.le (by decide) (by decide))
      exact L4 _ 0 h rfl (by omega) (by omega) (K) (by omega) C (X.le (by decide) (by decide))
    · exfalso; omega
end
section
/-! contracts of methods -/
def ms30_w : Zms := [(37, 37, 41, 42), (37, 37, 42, 47), (37, 37, 47, 48), (37, 37, 52, 53), (101, 153, 0, 840), (155, 163, 0, 5)]
-- WheelLandModel.sheet()I
theorem m30_w {sc : List Int} (h : Hp) (I : zI h) (t : pT) (n : Nat) (cc : Nat → Int) (B : vB t n h) : zwC sc 233 30 [(2, 37)] h (zwRt 0 (fun x g => zI g ∧ zMR ms30_w h g ∧ (-2147483648 ≤ x ∧ x ≤ 2147483647) ∧ ((x = fld h 37 52 ∧ fld g 37 52 = fld h 37 52 + 1 ∧ fld g 37 41 = 0 ∧ pFa t n cc = -1 ∧ fld h 37 52 < 8) ∨ (x = -1 ∧ fld g 37 52 = fld h 37 52 ∧ fld g 37 41 = fld h 37 41 ∧ (8 ≤ fld h 37 52 ∨ pFa t n cc ≠ -1))) ∧ (zMs (pRead t n cc) (pFa t n cc) h g))) := by
  refine zwC_of (D := 232) 3 (by decide +kernel) rfl (ls := [(2, 37), (9, 0), (9, 0)]) rfl ?_
  have R : zMR ms30_w h h := zMR.rf _ _
  refine zwW_p [(1, 0, 2)] (q := 1) (ls' := [(2, 37), (9, 0), (9, 0)]) (st' := [(2, 37)]) (by decide +kernel) rfl ?_
  refine zwW_gs I (kd := 13) (bn := 52) (n := 97) (t := 0) (lo := 0) (hi := 8) (nx := 4) (by decide +kernel) ?_
  intro v1 ev1 lv1 uv1
  refine zwW_p [(0, 8, 0)] (q := 6) (ls' := [(2, 37), (9, 0), (9, 0)]) (st' := [(0, 8), (0, v1)]) (by decide +kernel) rfl ?_
  refine zwic_ne (q := 11) (nx := 9) (by decide +kernel) (fun c2 => ?_) (fun c2 => ?_)
  · refine zwW_p [(1, 0, 2)] (q := 12) (ls' := [(2, 37), (9, 0), (9, 0)]) (st' := [(2, 37)]) (by decide +kernel) rfl ?_
    refine zwW_cmv I (op := 60) (k' := 121) (n := 0) (kd := 13) (m := 97) (nx := 15) (r := 37) (tl := []) (st' := []) (by decide +kernel) rfl (by decide +kernel) rfl (m121_q h I t n cc B) ?_
    rintro h4 ⟨Ih4, Qh4, f3⟩
    have Rh4 : zMR ms30_w h h4 := R.tr Qh4 (by decide +kernel)
    have th4_37_41 : fld h4 37 41 = fld h 37 41 := Qh4.f (a1 := 37) (a2 := 37) (j1 := 41) (j2 := 42) (by decide +kernel) (by first | decide | exact ⟨by decide, by decide⟩) (by first | decide | exact ⟨by decide, by decide⟩)
    have th4_37_52 : fld h4 37 52 = fld h 37 52 := Qh4.f (a1 := 37) (a2 := 37) (j1 := 52) (j2 := 53) (by decide +kernel) (by first | decide | exact ⟨by decide, by decide⟩) (by first | decide | exact ⟨by decide, by decide⟩)
    have PF := f3.fx
    have ME := f3
    have J12 := (mJo.rf (h := h) (s := fld h 37 52)).fr Qh4 (by decide +kernel)
    have A12 := mJo.all Qh4 (by decide +kernel)
    refine zwW_p [(1, 0, 2)] (q := 16) (ls' := [(2, 37), (9, 0), (9, 0)]) (st' := [(2, 37)]) (by decide +kernel) rfl ?_
    refine zwW_gs Ih4 (kd := 13) (bn := 44) (n := 97) (t := 0) (lo := -1) (hi := 400) (nx := 19) (by decide +kernel) ?_
    intro v5 ev5 lv5 uv5
    refine zwW_p [(0, -1, 0)] (q := 20) (ls' := [(2, 37), (9, 0), (9, 0)]) (st' := [(0, -1), (0, v5)]) (by decide +kernel) rfl ?_
    refine zwic_eq (q := 25) (nx := 23) (by decide +kernel) (fun c6 => ?_) (fun c6 => ?_)
    · have G25 := mE.gd ME (by omega)
      refine zwW_p [(1, 0, 2), (0, 0, 0)] (q := 27) (ls' := [(2, 37), (9, 0), (9, 0)]) (st' := [(0, 0), (2, 37)]) (by decide +kernel) rfl ?_
      refine zwW_ps Ih4 (kd := 13) (bn := 41) (n := 97) (lo := 0) (hi := 400) (nx := 30) (by decide +kernel) (by first | decide | exact ⟨by decide, by decide⟩) ?_
      intro h7 eh7 Ih7
      have th7_37_41 : fld h7 37 41 = 0 := by rw [eh7]; exact fld_wr_eq (Ih4.s (a1 := 37) (a2 := 37) (k := 13) (n := 97) (by decide +kernel) (by decide) (by decide)) (by decide)
      have th7_37_44 : fld h7 37 44 = fld h4 37 44 := by rw [eh7]; exact fld_wr (by decide)
      have th7_37_52 : fld h7 37 52 = fld h4 37 52 := by rw [eh7]; exact fld_wr (by decide)
      have J27 := J12.w eh7 (Or.inl rfl) (by first | omega | exact ⟨by omega, by omega⟩)
      have G27 : mG (pRead t n cc).2.2 (pRead t n cc).2.1 h7 := G25.eq (fun r k1 k2 => fld_o eh7 (by omega)) (fld_o eh7 (by decide))
      have Rh7 : zMR ms30_w h h7 := Rh4.w (a1 := 37) (a2 := 37) (j1 := 41) (j2 := 42) (by decide +kernel) (by first | decide | exact ⟨by decide, by decide⟩) (by first | decide | exact ⟨by decide, by decide⟩) eh7
      refine zwW_p [(0, 0, 0), (2, 1, 0)] (q := 32) (ls' := [(2, 37), (0, 0), (9, 0)]) (st' := []) (by decide +kernel) rfl ?_
      have L8 : ∀ (n0 : Nat) (cL8 : Int) (w2L8 : Vl) (hL8 : Hp), n0 = ((100 - cL8)).toNat → (0 ≤ cL8 ∧ cL8 ≤ 5) → (fld hL8 37 52 = fld h 37 52 ∧ fld hL8 37 41 = 0) → (mG (pRead t n cc).2.2 (pRead t n cc).2.1 hL8) → (mJo h hL8 (fld h 37 52)) → (mJc hL8 (fld h 37 52) cL8) → zI hL8 → zMR ms30_w h hL8 → zwW sc (232) 30 32 [(2, 37), (0, cL8), w2L8] [] hL8 (zwRt 0 (fun x g => zI g ∧ zMR ms30_w h g ∧ (-2147483648 ≤ x ∧ x ≤ 2147483647) ∧ ((x = fld h 37 52 ∧ fld g 37 52 = fld h 37 52 + 1 ∧ fld g 37 41 = 0 ∧ pFa t n cc = -1 ∧ fld h 37 52 < 8) ∨ (x = -1 ∧ fld g 37 52 = fld h 37 52 ∧ fld g 37 41 = fld h 37 41 ∧ (8 ≤ fld h 37 52 ∨ pFa t n cc ≠ -1))) ∧ (zMs (pRead t n cc) (pFa t n cc) h g))) := by
        intro n0
        induction n0 using Nat.strongRecOn with
        | ind n0 IHL8 =>
          intro cL8 w2L8 hL8 hnL8 iL8_0 iL8_1 iL8_2 iL8_3 iL8_4 IhL8 RhL8
          refine zwW_p [(1, 1, 0), (0, 5, 0)] (q := 34) (ls' := [(2, 37), (0, cL8), w2L8]) (st' := [(0, 5), (0, cL8)]) (by decide +kernel) rfl ?_
          refine zwic_ge (q := 110) (nx := 37) (by decide +kernel) (fun c9 => ?_) (fun c9 => ?_)
          · refine zwW_p [(1, 0, 2), (12, 0, 0)] (q := 112) (ls' := [(2, 37), (0, cL8), w2L8]) (st' := [(2, 37), (2, 37)]) (by decide +kernel) rfl ?_
            refine zwW_gs IhL8 (kd := 13) (bn := 52) (n := 97) (t := 0) (lo := 0) (hi := 8) (nx := 115) (by decide +kernel) ?_
            intro v10 ev10 lv10 uv10
            refine zwW_p [(0, 1, 0)] (q := 116) (ls' := [(2, 37), (0, cL8), w2L8]) (st' := [(0, 1), (0, v10), (2, 37)]) (by decide +kernel) rfl ?_
            refine zwW_add (nx := 117) (by decide +kernel) (by first | omega | exact ⟨by omega, by omega⟩) ?_
            refine zwW_ps IhL8 (kd := 13) (bn := 52) (n := 97) (lo := 0) (hi := 8) (nx := 120) (by decide +kernel) (by first | omega | exact ⟨by omega, by omega⟩) ?_
            intro h11 eh11 Ih11
            have th11_37_41 : fld h11 37 41 = fld hL8 37 41 := by rw [eh11]; exact fld_wr (by decide)
            have th11_37_44 : fld h11 37 44 = fld hL8 37 44 := by rw [eh11]; exact fld_wr (by decide)
            have th11_37_52 : fld h11 37 52 = (v10 + 1) := by rw [eh11]; exact fld_wr_eq (IhL8.s (a1 := 37) (a2 := 37) (k := 13) (n := 97) (by decide +kernel) (by decide) (by decide)) (by decide)
            have J117 := iL8_3.w eh11 (Or.inl rfl) (by first | omega | exact ⟨by omega, by omega⟩)
            have G117 : mG (pRead t n cc).2.2 (pRead t n cc).2.1 h11 := iL8_2.eq (fun r k1 k2 => fld_o eh11 (by omega)) (fld_o eh11 (by decide))
            have H117 : mJc hL8 (fld h 37 52) 5 := by have z := iL8_4; rwa [show cL8 = 5 by omega] at z
            have Z117 : zMs (pRead t n cc) (pFa t n cc) h h11 := Or.inl ⟨by omega, by omega, J117, zMr.mk (H117.w5 eh11 (by first | omega | exact ⟨by omega, by omega⟩)) G117⟩
            have Rh11 : zMR ms30_w h h11 := RhL8.w (a1 := 37) (a2 := 37) (j1 := 52) (j2 := 53) (by decide +kernel) (by first | decide | exact ⟨by decide, by decide⟩) (by first | decide | exact ⟨by decide, by decide⟩) eh11
            refine zwW_p [(1, 0, 2)] (q := 121) (ls' := [(2, 37), (0, cL8), w2L8]) (st' := [(2, 37)]) (by decide +kernel) rfl ?_
            refine zwW_gs Ih11 (kd := 13) (bn := 52) (n := 97) (t := 0) (lo := 0) (hi := 8) (nx := 124) (by decide +kernel) ?_
            intro v12 ev12 lv12 uv12
            refine zwW_p [(0, 1, 0)] (q := 125) (ls' := [(2, 37), (0, cL8), w2L8]) (st' := [(0, 1), (0, v12)]) (by decide +kernel) rfl ?_
            refine zwW_sub (nx := 126) (by decide +kernel) (by first | omega | exact ⟨by omega, by omega⟩) ?_
            refine zwW_ret (nx := 127) (a := 0) (b := 0) (by decide +kernel) rfl (Or.inl rfl) ?_
            exact ⟨Ih11, Rh11, by omega, by omega, by first | exact Z117 | exact Or.inr ⟨Or.inl (by omega), A12.1, A12.2⟩ | exact Or.inr ⟨Or.inr (by omega), fun _ _ _ => rfl, fun _ _ _ => rfl⟩⟩
          · refine zwW_p [(1, 0, 2)] (q := 38) (ls' := [(2, 37), (0, cL8), w2L8]) (st' := [(2, 37)]) (by decide +kernel) rfl ?_
            refine zwW_gc IhL8 (kd := 13) (bn := 49) (n := 97) (c := 154) (nx := 41) (by decide +kernel) ?_
            refine zwW_p [(1, 0, 2)] (q := 42) (ls' := [(2, 37), (0, cL8), w2L8]) (st' := [(2, 37), (2, 154)]) (by decide +kernel) rfl ?_
            refine zwW_gs IhL8 (kd := 13) (bn := 52) (n := 97) (t := 0) (lo := 0) (hi := 8) (nx := 45) (by decide +kernel) ?_
            intro v13 ev13 lv13 uv13
            refine zwW_ro IhL8 (a := 154) (n := 9) (kd := 26) (base := 155) (step := 1) (nx := 46) (by decide +kernel) rfl (by first | omega | exact ⟨by omega, by omega⟩) ?_
            rw [show ((155 : Nat) : Int) + ((1 : Nat) : Int) * v13 = (155 + v13) by omega]
            refine zwW_p [(1, 1, 0), (1, 0, 2)] (q := 48) (ls' := [(2, 37), (0, cL8), w2L8]) (st' := [(2, 37), (0, cL8), (2, (155 + v13))]) (by decide +kernel) rfl ?_
            refine zwW_gc IhL8 (kd := 13) (bn := 49) (n := 97) (c := 154) (nx := 51) (by decide +kernel) ?_
            refine zwW_p [(0, 8, 0)] (q := 53) (ls' := [(2, 37), (0, cL8), w2L8]) (st' := [(0, 8), (2, 154), (0, cL8), (2, (155 + v13))]) (by decide +kernel) rfl ?_
            refine zwW_ro IhL8 (a := 154) (n := 9) (kd := 26) (base := 155) (step := 1) (nx := 54) (by decide +kernel) rfl (by first | decide | exact ⟨by decide, by decide⟩) ?_
            rw [show ((155 : Nat) : Int) + ((1 : Nat) : Int) * 8 = 163 from rfl]
            refine zwW_p [(1, 1, 0)] (q := 55) (ls' := [(2, 37), (0, cL8), w2L8]) (st' := [(0, cL8), (2, 163), (0, cL8), (2, (155 + v13))]) (by decide +kernel) rfl ?_
            have ib1 : 0 ≤ cL8 ∧ cL8 < ((5 : Nat) : Int) := (by first | omega | exact ⟨by omega, by omega⟩)
            refine zwW_al IhL8 (a1 := 155) (a2 := 163) (kd := 20) (n := 5) (t := 0) (lo := 0) (hi := 400) (nx := 56) (by decide +kernel) (by first | decide | exact ⟨by decide, by decide⟩) ib1 ?_
            intro v14 ev14 lv14 uv14
            refine zwW_as IhL8 (a1 := 155) (a2 := 163) (n := 5) (lo := 0) (hi := 400) (nx := 57) (by decide +kernel) (by first | omega | exact ⟨by omega, by omega⟩) ib1 (by first | omega | exact ⟨by omega, by omega⟩) ?_
            intro h15 eh15 Ih15
            have rbh15 : ((155 : Nat) : Int) ≤ (155 + v13) ∧ (155 + v13) ≤ ((163 : Nat) : Int) := (by first | omega | exact ⟨by omega, by omega⟩)
            have jbh15 : 0 ≤ cL8.toNat ∧ cL8.toNat < 5 := ⟨Nat.zero_le _, zit ib1⟩
            have th15_37_41 : fld h15 37 41 = fld hL8 37 41 := by rw [eh15]; exact fld_wr (Or.inl (zne_l (by decide) rbh15.1))
            have th15_37_44 : fld h15 37 44 = fld hL8 37 44 := by rw [eh15]; exact fld_wr (Or.inl (zne_l (by decide) rbh15.1))
            have th15_37_52 : fld h15 37 52 = fld hL8 37 52 := by rw [eh15]; exact fld_wr (Or.inl (zne_l (by decide) rbh15.1))
            have J56 := iL8_3.w eh15 (Or.inr (Or.inl (by omega))) (by first | omega | exact ⟨by omega, by omega⟩)
            have H56 := iL8_4.w eh15 (Or.inr (Or.inl (by first | omega | exact ⟨by omega, by omega⟩))) (by first | omega | exact ⟨by omega, by omega⟩) (by first | omega | exact ⟨by omega, by omega⟩)
            have K56 := mJi.z IhL8 (s := fld h 37 52) eh15 (by omega) ev14 (by first | omega | exact ⟨by omega, by omega⟩) (by first | omega | exact ⟨by omega, by omega⟩)
            have G56 : mG (pRead t n cc).2.2 (pRead t n cc).2.1 h15 := iL8_2.eq (fun r k1 k2 => fld_o eh15 (by omega)) (fld_o eh15 (by omega))
            have Rh15 : zMR ms30_w h h15 := RhL8.w (a1 := 155) (a2 := 163) (j1 := 0) (j2 := 5) (by decide +kernel) rbh15 jbh15 eh15
            refine zwW_p [(0, 0, 0), (2, 2, 0)] (q := 59) (ls' := [(2, 37), (0, cL8), (0, 0)]) (st' := []) (by decide +kernel) rfl ?_
            have L16 : ∀ (n0 : Nat) (iL16 : Int) (hL16 : Hp), n0 = ((1000 - iL16)).toNat → (0 ≤ iL16 ∧ iL16 ≤ 800) → (fld hL16 37 52 = fld h 37 52 ∧ fld hL16 37 41 = 0) → (mG (pRead t n cc).2.2 (pRead t n cc).2.1 hL16) → (mJo h hL16 (fld h 37 52)) → (mJc hL16 (fld h 37 52) cL8) → (mJi hL16 (fld h 37 52) cL8 iL16) → zI hL16 → zMR ms30_w h hL16 → zwW sc (232) 30 59 [(2, 37), (0, cL8), (0, iL16)] [] hL16 (zwRt 0 (fun x g => zI g ∧ zMR ms30_w h g ∧ (-2147483648 ≤ x ∧ x ≤ 2147483647) ∧ ((x = fld h 37 52 ∧ fld g 37 52 = fld h 37 52 + 1 ∧ fld g 37 41 = 0 ∧ pFa t n cc = -1 ∧ fld h 37 52 < 8) ∨ (x = -1 ∧ fld g 37 52 = fld h 37 52 ∧ fld g 37 41 = fld h 37 41 ∧ (8 ≤ fld h 37 52 ∨ pFa t n cc ≠ -1))) ∧ (zMs (pRead t n cc) (pFa t n cc) h g))) := by
              intro n0
              induction n0 using Nat.strongRecOn with
              | ind n0 IHL16 =>
                intro iL16 hL16 hnL16 iL16_0 iL16_1 iL16_2 iL16_3 iL16_4 iL16_5 IhL16 RhL16
                refine zwW_p [(1, 2, 0), (0, 2, 0), (1, 0, 2)] (q := 62) (ls' := [(2, 37), (0, cL8), (0, iL16)]) (st' := [(2, 37), (0, 2), (0, iL16)]) (by decide +kernel) rfl ?_
                refine zwW_gc IhL16 (kd := 13) (bn := 49) (n := 97) (c := 154) (nx := 65) (by decide +kernel) ?_
                refine zwW_p [(0, 8, 0)] (q := 67) (ls' := [(2, 37), (0, cL8), (0, iL16)]) (st' := [(0, 8), (2, 154), (0, 2), (0, iL16)]) (by decide +kernel) rfl ?_
                refine zwW_ro IhL16 (a := 154) (n := 9) (kd := 26) (base := 155) (step := 1) (nx := 68) (by decide +kernel) rfl (by first | decide | exact ⟨by decide, by decide⟩) ?_
                rw [show ((155 : Nat) : Int) + ((1 : Nat) : Int) * 8 = 163 from rfl]
                refine zwW_p [(1, 1, 0)] (q := 69) (ls' := [(2, 37), (0, cL8), (0, iL16)]) (st' := [(0, cL8), (2, 163), (0, 2), (0, iL16)]) (by decide +kernel) rfl ?_
                refine zwW_al IhL16 (a1 := 155) (a2 := 163) (kd := 20) (n := 5) (t := 0) (lo := 0) (hi := 400) (nx := 70) (by decide +kernel) (by first | decide | exact ⟨by decide, by decide⟩) ib1 ?_
                intro v17 ev17 lv17 uv17
                refine zwW_mul (nx := 71) (by decide +kernel) (by first | omega | exact ⟨by omega, by omega⟩) ?_
                refine zwic_ge (q := 104) (nx := 74) (by decide +kernel) (fun c18 => ?_) (fun c18 => ?_)
                · refine zwW_inc (i := 1) (c := 1) (x := cL8) (nx := 107) (by decide +kernel) rfl (by first | omega | exact ⟨by omega, by omega⟩) (ls' := [(2, 37), (0, (cL8 + 1)), (0, iL16)]) rfl ?_
                  refine zwW_p [(24, 32, 0)] (q := 32) (ls' := [(2, 37), (0, (cL8 + 1)), (0, iL16)]) (st' := []) (by decide +kernel) rfl ?_
                  exact IHL8 ((100 - (cL8 + 1))).toNat (by omega) (cL8 + 1) (0, iL16) hL16 rfl (by omega) (by omega) (iL16_2) (iL16_3) (iL16_4.e iL16_5 (by first | omega | exact ⟨by omega, by omega⟩) (by omega)) IhL16 RhL16
                · refine zwW_p [(1, 0, 2)] (q := 75) (ls' := [(2, 37), (0, cL8), (0, iL16)]) (st' := [(2, 37)]) (by decide +kernel) rfl ?_
                  refine zwW_gc IhL16 (kd := 13) (bn := 48) (n := 97) (c := 99) (nx := 78) (by decide +kernel) ?_
                  refine zwW_p [(1, 0, 2)] (q := 79) (ls' := [(2, 37), (0, cL8), (0, iL16)]) (st' := [(2, 37), (2, 99)]) (by decide +kernel) rfl ?_
                  refine zwW_gs IhL16 (kd := 13) (bn := 52) (n := 97) (t := 0) (lo := 0) (hi := 8) (nx := 82) (by decide +kernel) ?_
                  intro v19 ev19 lv19 uv19
                  refine zwW_ro IhL16 (a := 99) (n := 9) (kd := 27) (base := 100) (step := 6) (nx := 83) (by decide +kernel) rfl (by first | omega | exact ⟨by omega, by omega⟩) ?_
                  rw [show ((100 : Nat) : Int) + ((6 : Nat) : Int) * v19 = (100 + 6 * v19) by omega]
                  refine zwW_p [(1, 1, 0)] (q := 84) (ls' := [(2, 37), (0, cL8), (0, iL16)]) (st' := [(0, cL8), (2, (100 + 6 * v19))]) (by decide +kernel) rfl ?_
                  refine zwW_ro2 IhL16 (s := v19) (nx := 85) (by decide +kernel) (by omega) (by first | omega | exact ⟨by omega, by omega⟩) (by first | omega | exact ⟨by omega, by omega⟩) ?_
                  refine zwW_p [(1, 2, 0), (1, 0, 2)] (q := 87) (ls' := [(2, 37), (0, cL8), (0, iL16)]) (st' := [(2, 37), (0, iL16), (2, (101 + 6 * v19 + cL8))]) (by decide +kernel) rfl ?_
                  refine zwW_gc IhL16 (kd := 13) (bn := 48) (n := 97) (c := 99) (nx := 90) (by decide +kernel) ?_
                  refine zwW_p [(0, 8, 0)] (q := 92) (ls' := [(2, 37), (0, cL8), (0, iL16)]) (st' := [(0, 8), (2, 99), (0, iL16), (2, (101 + 6 * v19 + cL8))]) (by decide +kernel) rfl ?_
                  refine zwW_ro IhL16 (a := 99) (n := 9) (kd := 27) (base := 100) (step := 6) (nx := 93) (by decide +kernel) rfl (by first | decide | exact ⟨by decide, by decide⟩) ?_
                  rw [show ((100 : Nat) : Int) + ((6 : Nat) : Int) * 8 = 148 from rfl]
                  refine zwW_p [(1, 1, 0)] (q := 94) (ls' := [(2, 37), (0, cL8), (0, iL16)]) (st' := [(0, cL8), (2, 148), (0, iL16), (2, (101 + 6 * v19 + cL8))]) (by decide +kernel) rfl ?_
                  refine zwW_ro IhL16 (a := 148) (n := 5) (kd := 26) (base := 149) (step := 1) (nx := 95) (by decide +kernel) rfl (by first | omega | exact ⟨by omega, by omega⟩) ?_
                  rw [show ((149 : Nat) : Int) + ((1 : Nat) : Int) * cL8 = (149 + cL8) by omega]
                  refine zwW_p [(1, 2, 0)] (q := 96) (ls' := [(2, 37), (0, cL8), (0, iL16)]) (st' := [(0, iL16), (2, (149 + cL8)), (0, iL16), (2, (101 + 6 * v19 + cL8))]) (by decide +kernel) rfl ?_
                  have ib2 : 0 ≤ iL16 ∧ iL16 < ((840 : Nat) : Int) := (by first | omega | exact ⟨by omega, by omega⟩)
                  refine zwW_al IhL16 (a1 := 149) (a2 := 153) (kd := 20) (n := 840) (t := 0) (lo := -2147483648) (hi := 2147483647) (nx := 97) (by decide +kernel) (by first | omega | exact ⟨by omega, by omega⟩) ib2 ?_
                  intro v20 ev20 lv20 uv20
                  refine zwW_as3 IhL16 (s := v19) (c := cL8) (nx := 98) (by decide +kernel) rfl (by first | omega | exact ⟨by omega, by omega⟩) (by first | omega | exact ⟨by omega, by omega⟩) (by first | omega | exact ⟨by omega, by omega⟩) (by first | omega | exact ⟨by omega, by omega⟩) ?_
                  intro h21 eh21 Ih21
                  have rbh21 : ((101 : Nat) : Int) ≤ (101 + 6 * v19 + cL8) ∧ (101 + 6 * v19 + cL8) ≤ ((153 : Nat) : Int) := (by first | omega | exact ⟨by omega, by omega⟩)
                  have jbh21 : 0 ≤ iL16.toNat ∧ iL16.toNat < 840 := (by first | omega | exact ⟨by omega, by omega⟩)
                  have th21_37_41 : fld h21 37 41 = fld hL16 37 41 := by rw [eh21]; exact fld_wr (Or.inl (zne_l (by decide) rbh21.1))
                  have th21_37_44 : fld h21 37 44 = fld hL16 37 44 := by rw [eh21]; exact fld_wr (Or.inl (zne_l (by decide) rbh21.1))
                  have th21_37_52 : fld h21 37 52 = fld hL16 37 52 := by rw [eh21]; exact fld_wr (Or.inl (zne_l (by decide) rbh21.1))
                  have J97 := iL16_3.w eh21 (Or.inr (Or.inr (by first | omega | exact ⟨by omega, by omega⟩))) (by first | omega | exact ⟨by omega, by omega⟩)
                  have H97 := iL16_4.w eh21 (Or.inr (Or.inr (by omega))) (by first | omega | exact ⟨by omega, by omega⟩) (by first | omega | exact ⟨by omega, by omega⟩)
                  have K97 := iL16_5.w IhL16 eh21 (by omega) ev20 (by first | omega | exact ⟨by omega, by omega⟩) (by first | omega | exact ⟨by omega, by omega⟩) (by first | omega | exact ⟨by omega, by omega⟩)
                  have G97 : mG (pRead t n cc).2.2 (pRead t n cc).2.1 h21 := iL16_2.eq (fun r k1 k2 => fld_o eh21 (by omega)) (fld_o eh21 (by omega))
                  have Rh21 : zMR ms30_w h h21 := RhL16.w (a1 := 101) (a2 := 153) (j1 := 0) (j2 := 840) (by decide +kernel) rbh21 jbh21 eh21
                  refine zwW_inc (i := 2) (c := 1) (x := iL16) (nx := 101) (by decide +kernel) rfl (by first | omega | exact ⟨by omega, by omega⟩) (ls' := [(2, 37), (0, cL8), (0, (iL16 + 1))]) rfl ?_
                  refine zwW_p [(24, 59, 0)] (q := 59) (ls' := [(2, 37), (0, cL8), (0, (iL16 + 1))]) (st' := []) (by decide +kernel) rfl ?_
                  exact IHL16 ((1000 - (iL16 + 1))).toNat (by omega) (iL16 + 1) h21 rfl (by omega) (by omega) (G97) (J97) (H97) (K97) Ih21 Rh21
            exact L16 _ 0 h15 rfl (by omega) (by omega) (G56) (J56) (H56) (K56) Ih15 Rh15
      exact L8 _ 0 (9, 0) h7 rfl (by omega) (by omega) (G27) (J27) (fun d hd => by omega) Ih7 Rh7
    · refine zwW_p [(0, -1, 0)] (q := 24) (ls' := [(2, 37), (9, 0), (9, 0)]) (st' := [(0, -1)]) (by decide +kernel) rfl ?_
      refine zwW_ret (nx := 25) (a := 0) (b := 0) (by decide +kernel) rfl (Or.inl rfl) ?_
      exact ⟨Ih4, Rh4, by omega, by omega, by first | exact Z117 | exact Or.inr ⟨Or.inl (by omega), A12.1, A12.2⟩ | exact Or.inr ⟨Or.inr (by omega), fun _ _ _ => rfl, fun _ _ _ => rfl⟩⟩
  · refine zwW_p [(0, -1, 0)] (q := 10) (ls' := [(2, 37), (9, 0), (9, 0)]) (st' := [(0, -1)]) (by decide +kernel) rfl ?_
    refine zwW_ret (nx := 11) (a := 0) (b := 0) (by decide +kernel) rfl (Or.inl rfl) ?_
    exact ⟨I, R, by omega, by omega, by first | exact Z117 | exact Or.inr ⟨Or.inl (by omega), A12.1, A12.2⟩ | exact Or.inr ⟨Or.inr (by omega), fun _ _ _ => rfl, fun _ _ _ => rfl⟩⟩
def ms32_w : Zms := [(37, 37, 53, 54), (164, 164, 0, 12), (165, 165, 0, 12)]
-- WheelLandModel.force(II)I
theorem m32_w {sc : List Int} (h : Hp) (I : zI h) (a b : Int) : zwC sc 2 32 [(2, 37), (0, a), (0, b)] h (zwRt 0 (fun x g => zI g ∧ zMR ms32_w h g ∧ (-2147483648 ≤ x ∧ x ≤ 2147483647) ∧ (((x = fld h 37 53 + 1) ∧ (fld g 37 53 = fld h 37 53 + 1) ∧ (0 ≤ a) ∧ (a < fld h 37 52) ∧ (fld h 37 0 ≤ b) ∧ (b ≤ 155) ∧ (fld h 37 53 < 12) ∧ (fld g 164 = zu (fld h 164) (fld h 37 53).toNat a) ∧ (fld g 165 = zu (fld h 165) (fld h 37 53).toNat b)) ∨ ((x = -1) ∧ (g = h) ∧ (a < 0 ∨ fld h 37 52 ≤ a ∨ b < fld h 37 0 ∨ 155 < b ∨ 12 ≤ fld h 37 53))))) := by
  refine zwC_of (D := 1) 3 (by decide +kernel) rfl (ls := [(2, 37), (0, a), (0, b)]) rfl ?_
  have R : zMR ms32_w h h := zMR.rf _ _
  refine zwW_p [(1, 1, 0), (7, 0, 0), (0, 0, 1), (1, 0, 2)] (q := 4) (ls' := [(2, 37), (0, a), (0, b)]) (st' := [(2, 37), (1, 0), (1, a)]) (by decide +kernel) rfl ?_
  refine zwW_gs I (kd := 13) (bn := 52) (n := 97) (t := 0) (lo := 0) (hi := 8) (nx := 7) (by decide +kernel) ?_
  intro v1 ev1 lv1 uv1
  refine zwW_p [(0, 1, 0)] (q := 8) (ls' := [(2, 37), (0, a), (0, b)]) (st' := [(0, 1), (0, v1), (1, 0), (1, a)]) (by decide +kernel) rfl ?_
  refine zwW_sub (nx := 9) (by decide +kernel) (by first | omega | exact ⟨by omega, by omega⟩) ?_
  refine zwW_p [(7, 0, 0)] (q := 10) (ls' := [(2, 37), (0, a), (0, b)]) (st' := [(1, (v1 - 1)), (1, 0), (1, a)]) (by decide +kernel) rfl ?_
  refine zwW_cs (k' := 101) (n := 3) (nx := 13) (as := [(1, a), (1, 0), (1, (v1 - 1))]) (st' := []) (by decide +kernel) rfl (m101 h a 0 (v1 - 1)) rfl ?_
  rintro x _ ⟨rfl, ⟨rfl, c2⟩ | ⟨rfl, c2⟩⟩
  · refine zwif_eq (q := 41) (nx := 16) (by decide +kernel) (fun c3 => ?_) (fun c3 => ?_)
    · exfalso; omega
    · refine zwW_p [(1, 2, 0), (7, 0, 0), (1, 0, 2)] (q := 19) (ls' := [(2, 37), (0, a), (0, b)]) (st' := [(2, 37), (1, b)]) (by decide +kernel) rfl ?_
      refine zwW_gs I (kd := 13) (bn := 0) (n := 97) (t := 0) (lo := 0) (hi := 156) (nx := 22) (by decide +kernel) ?_
      intro v4 ev4 lv4 uv4
      refine zwW_p [(7, 0, 0), (0, 155, 1)] (q := 26) (ls' := [(2, 37), (0, a), (0, b)]) (st' := [(1, 155), (1, v4), (1, b)]) (by decide +kernel) rfl ?_
      refine zwW_cs (k' := 101) (n := 3) (nx := 29) (as := [(1, b), (1, v4), (1, 155)]) (st' := []) (by decide +kernel) rfl (m101 h b v4 155) rfl ?_
      rintro x _ ⟨rfl, ⟨rfl, c5⟩ | ⟨rfl, c5⟩⟩
      · refine zwif_eq (q := 41) (nx := 32) (by decide +kernel) (fun c6 => ?_) (fun c6 => ?_)
        · exfalso; omega
        · refine zwW_p [(1, 0, 2)] (q := 33) (ls' := [(2, 37), (0, a), (0, b)]) (st' := [(2, 37)]) (by decide +kernel) rfl ?_
          refine zwW_gs I (kd := 13) (bn := 53) (n := 97) (t := 0) (lo := 0) (hi := 12) (nx := 36) (by decide +kernel) ?_
          intro v7 ev7 lv7 uv7
          refine zwW_p [(0, 12, 0)] (q := 38) (ls' := [(2, 37), (0, a), (0, b)]) (st' := [(0, 12), (0, v7)]) (by decide +kernel) rfl ?_
          refine zwic_ne (q := 43) (nx := 41) (by decide +kernel) (fun c8 => ?_) (fun c8 => ?_)
          · refine zwW_p [(1, 0, 2)] (q := 44) (ls' := [(2, 37), (0, a), (0, b)]) (st' := [(2, 37)]) (by decide +kernel) rfl ?_
            refine zwW_gc I (kd := 13) (bn := 50) (n := 97) (c := 164) (nx := 47) (by decide +kernel) ?_
            refine zwW_p [(1, 0, 2)] (q := 48) (ls' := [(2, 37), (0, a), (0, b)]) (st' := [(2, 37), (2, 164)]) (by decide +kernel) rfl ?_
            refine zwW_gs I (kd := 13) (bn := 53) (n := 97) (t := 0) (lo := 0) (hi := 12) (nx := 51) (by decide +kernel) ?_
            intro v9 ev9 lv9 uv9
            refine zwW_p [(1, 1, 0)] (q := 52) (ls' := [(2, 37), (0, a), (0, b)]) (st' := [(0, a), (0, v9), (2, 164)]) (by decide +kernel) rfl ?_
            have ib1 : 0 ≤ v9 ∧ v9 < ((12 : Nat) : Int) := (by first | omega | exact ⟨by omega, by omega⟩)
            refine zwW_as I (a1 := 164) (a2 := 164) (n := 12) (lo := 0) (hi := 7) (nx := 53) (by decide +kernel) (by first | decide | exact ⟨by decide, by decide⟩) ib1 (by first | omega | exact ⟨by omega, by omega⟩) ?_
            intro h10 eh10 Ih10
            have jbh10 : 0 ≤ v9.toNat ∧ v9.toNat < 12 := ⟨Nat.zero_le _, zit ib1⟩
            have th10_37_53 : fld h10 37 53 = fld h 37 53 := by rw [eh10]; exact fld_wr (Or.inl (by decide))
            have W52 : fld h10 164 = zu (fld h 164) (fld h 37 53).toNat a := (fld_zu (I.s (a1 := 164) (a2 := 164) (k := 20) (n := 12) (by decide +kernel) (by decide) (by decide)) (by omega) eh10).trans (by rw [show (v9).toNat = (fld h 37 53).toNat by omega])
            have U52 : fld h10 165 = fld h 165 := fld_o eh10 (by decide)
            have Rh10 : zMR ms32_w h h10 := R.w (a1 := 164) (a2 := 164) (j1 := 0) (j2 := 12) (by decide +kernel) (by first | decide | exact ⟨by decide, by decide⟩) jbh10 eh10
            refine zwW_p [(1, 0, 2)] (q := 54) (ls' := [(2, 37), (0, a), (0, b)]) (st' := [(2, 37)]) (by decide +kernel) rfl ?_
            refine zwW_gc Ih10 (kd := 13) (bn := 51) (n := 97) (c := 165) (nx := 57) (by decide +kernel) ?_
            refine zwW_p [(1, 0, 2)] (q := 58) (ls' := [(2, 37), (0, a), (0, b)]) (st' := [(2, 37), (2, 165)]) (by decide +kernel) rfl ?_
            refine zwW_gs Ih10 (kd := 13) (bn := 53) (n := 97) (t := 0) (lo := 0) (hi := 12) (nx := 61) (by decide +kernel) ?_
            intro v11 ev11 lv11 uv11
            refine zwW_p [(1, 2, 0)] (q := 62) (ls' := [(2, 37), (0, a), (0, b)]) (st' := [(0, b), (0, v11), (2, 165)]) (by decide +kernel) rfl ?_
            have ib2 : 0 ≤ v11 ∧ v11 < ((12 : Nat) : Int) := (by first | omega | exact ⟨by omega, by omega⟩)
            refine zwW_as Ih10 (a1 := 165) (a2 := 165) (n := 12) (lo := 0) (hi := 155) (nx := 63) (by decide +kernel) (by first | decide | exact ⟨by decide, by decide⟩) ib2 (by first | omega | exact ⟨by omega, by omega⟩) ?_
            intro h12 eh12 Ih12
            have jbh12 : 0 ≤ v11.toNat ∧ v11.toNat < 12 := ⟨Nat.zero_le _, zit ib2⟩
            have th12_37_53 : fld h12 37 53 = fld h10 37 53 := by rw [eh12]; exact fld_wr (Or.inl (by decide))
            have W62 : fld h12 165 = zu (fld h10 165) (fld h 37 53).toNat b := (fld_zu (Ih10.s (a1 := 165) (a2 := 165) (k := 20) (n := 12) (by decide +kernel) (by decide) (by decide)) (by omega) eh12).trans (by rw [show (v11).toNat = (fld h 37 53).toNat by omega])
            have V62 : fld h12 164 = fld h10 164 := fld_o eh12 (by decide)
            have Rh12 : zMR ms32_w h h12 := Rh10.w (a1 := 165) (a2 := 165) (j1 := 0) (j2 := 12) (by decide +kernel) (by first | decide | exact ⟨by decide, by decide⟩) jbh12 eh12
            refine zwW_p [(1, 0, 2), (12, 0, 0)] (q := 65) (ls' := [(2, 37), (0, a), (0, b)]) (st' := [(2, 37), (2, 37)]) (by decide +kernel) rfl ?_
            refine zwW_gs Ih12 (kd := 13) (bn := 53) (n := 97) (t := 0) (lo := 0) (hi := 12) (nx := 68) (by decide +kernel) ?_
            intro v13 ev13 lv13 uv13
            refine zwW_p [(0, 1, 0)] (q := 69) (ls' := [(2, 37), (0, a), (0, b)]) (st' := [(0, 1), (0, v13), (2, 37)]) (by decide +kernel) rfl ?_
            refine zwW_add (nx := 70) (by decide +kernel) (by first | omega | exact ⟨by omega, by omega⟩) ?_
            refine zwW_ps Ih12 (kd := 13) (bn := 53) (n := 97) (lo := 0) (hi := 12) (nx := 73) (by decide +kernel) (by first | omega | exact ⟨by omega, by omega⟩) ?_
            intro h14 eh14 Ih14
            have th14_37_53 : fld h14 37 53 = (v13 + 1) := by rw [eh14]; exact fld_wr_eq (Ih12.s (a1 := 37) (a2 := 37) (k := 13) (n := 97) (by decide +kernel) (by decide) (by decide)) (by decide)
            have V70 : fld h14 164 = fld h12 164 := fld_o eh14 (by decide)
            have U70 : fld h14 165 = fld h12 165 := fld_o eh14 (by decide)
            have Rh14 : zMR ms32_w h h14 := Rh12.w (a1 := 37) (a2 := 37) (j1 := 53) (j2 := 54) (by decide +kernel) (by first | decide | exact ⟨by decide, by decide⟩) (by first | decide | exact ⟨by decide, by decide⟩) eh14
            refine zwW_p [(1, 0, 2)] (q := 74) (ls' := [(2, 37), (0, a), (0, b)]) (st' := [(2, 37)]) (by decide +kernel) rfl ?_
            refine zwW_gs Ih14 (kd := 13) (bn := 53) (n := 97) (t := 0) (lo := 0) (hi := 12) (nx := 77) (by decide +kernel) ?_
            intro v15 ev15 lv15 uv15
            refine zwW_ret (nx := 78) (a := 0) (b := 0) (by decide +kernel) rfl (Or.inl rfl) ?_
            exact ⟨Ih14, Rh14, by omega, by exact Or.inl ⟨by omega, by omega, by omega, by omega, by omega, by omega, by omega, by exact V70.trans (V62.trans W52), by exact U70.trans (W62.trans (by rw [U52]))⟩⟩
          · refine zwW_p [(0, -1, 0)] (q := 42) (ls' := [(2, 37), (0, a), (0, b)]) (st' := [(0, -1)]) (by decide +kernel) rfl ?_
            refine zwW_ret (nx := 43) (a := 0) (b := 0) (by decide +kernel) rfl (Or.inl rfl) ?_
            exact ⟨I, R, by omega, by exact Or.inr ⟨by omega, by rfl, by omega⟩⟩
      · refine zwif_eq (q := 41) (nx := 32) (by decide +kernel) (fun c16 => ?_) (fun c16 => ?_)
        · refine zwW_p [(0, -1, 0)] (q := 42) (ls' := [(2, 37), (0, a), (0, b)]) (st' := [(0, -1)]) (by decide +kernel) rfl ?_
          refine zwW_ret (nx := 43) (a := 0) (b := 0) (by decide +kernel) rfl (Or.inl rfl) ?_
          exact ⟨I, R, by omega, by exact Or.inr ⟨by omega, by rfl, by omega⟩⟩
        · exfalso; omega
  · refine zwif_eq (q := 41) (nx := 16) (by decide +kernel) (fun c17 => ?_) (fun c17 => ?_)
    · refine zwW_p [(0, -1, 0)] (q := 42) (ls' := [(2, 37), (0, a), (0, b)]) (st' := [(0, -1)]) (by decide +kernel) rfl ?_
      refine zwW_ret (nx := 43) (a := 0) (b := 0) (by decide +kernel) rfl (Or.inl rfl) ?_
      exact ⟨I, R, by omega, by exact Or.inr ⟨by omega, by rfl, by omega⟩⟩
    · exfalso; omega
-- WheelLandModel.why(II)I
theorem m34_w {sc : List Int} (h : Hp) (I : zI h) (a b : Int) (hF : ∀ k : Nat, (k : Int) < fld h 37 53 → fld h 164 k < fld h 37 52) (hn : fld h 13 1 = fld h 37 53) : zwC sc 2 34 [(2, 37), (0, a), (0, b)] h (zwRt 0 (fun x g => h = g ∧ (-2147483648 ≤ x ∧ x ≤ 2147483647) ∧ (x = zWhy h a b))) := by
  refine zwC_of (D := 1) 3 (by decide +kernel) rfl (ls := [(2, 37), (0, a), (0, b)]) rfl ?_
  refine zwW_p [(1, 1, 0), (7, 0, 0), (0, 0, 1), (0, 4, 1)] (q := 6) (ls' := [(2, 37), (0, a), (0, b)]) (st' := [(1, 4), (1, 0), (1, a)]) (by decide +kernel) rfl ?_
  refine zwW_cs (k' := 101) (n := 3) (nx := 9) (as := [(1, a), (1, 0), (1, 4)]) (st' := []) (by decide +kernel) rfl (m101 h a 0 4) rfl ?_
  rintro x _ ⟨rfl, ⟨rfl, c1⟩ | ⟨rfl, c1⟩⟩
  · refine zwif_eq (q := 33) (nx := 12) (by decide +kernel) (fun c2 => ?_) (fun c2 => ?_)
    · exfalso; omega
    · refine zwW_p [(1, 2, 0), (7, 0, 0), (0, 0, 1), (0, 155, 1)] (q := 18) (ls' := [(2, 37), (0, a), (0, b)]) (st' := [(1, 155), (1, 0), (1, b)]) (by decide +kernel) rfl ?_
      refine zwW_cs (k' := 101) (n := 3) (nx := 21) (as := [(1, b), (1, 0), (1, 155)]) (st' := []) (by decide +kernel) rfl (m101 h b 0 155) rfl ?_
      rintro x _ ⟨rfl, ⟨rfl, c3⟩ | ⟨rfl, c3⟩⟩
      · refine zwif_eq (q := 33) (nx := 24) (by decide +kernel) (fun c4 => ?_) (fun c4 => ?_)
        · exfalso; omega
        · refine zwW_p [(1, 0, 2), (1, 1, 0), (1, 2, 0)] (q := 27) (ls' := [(2, 37), (0, a), (0, b)]) (st' := [(0, b), (0, a), (2, 37)]) (by decide +kernel) rfl ?_
          refine zwW_cm I (op := 60) (k' := 126) (n := 2) (kd := 13) (m := 97) (nx := 30) (r := 37) (tl := [(0, a), (0, b)]) (st' := []) (by decide +kernel) rfl (by decide +kernel) rfl (m126_w h I a b (by omega) (by omega) hF) ?_
          rintro v5 _ ⟨rfl, f6, f7⟩
          refine zwW_p [(24, 34, 0)] (q := 34) (ls' := [(2, 37), (0, a), (0, b)]) (st' := [(0, v5)]) (by decide +kernel) rfl ?_
          refine zwW_ret (nx := 35) (a := 0) (b := 0) (by decide +kernel) rfl (Or.inl rfl) ?_
          exact ⟨rfl, by omega, by first | exact zWhy_o (by omega) | exact zWhy_m ⟨(by first | omega | exact ⟨by omega, by omega⟩), by omega, by omega⟩ (by assumption) hn⟩
      · refine zwif_eq (q := 33) (nx := 24) (by decide +kernel) (fun c8 => ?_) (fun c8 => ?_)
        · refine zwW_p [(0, -1, 0)] (q := 34) (ls' := [(2, 37), (0, a), (0, b)]) (st' := [(0, -1)]) (by decide +kernel) rfl ?_
          refine zwW_ret (nx := 35) (a := 0) (b := 0) (by decide +kernel) rfl (Or.inl rfl) ?_
          exact ⟨rfl, by omega, by first | exact zWhy_o (by omega) | exact zWhy_m ⟨(by first | omega | exact ⟨by omega, by omega⟩), by omega, by omega⟩ (by assumption) hn⟩
        · exfalso; omega
  · refine zwif_eq (q := 33) (nx := 12) (by decide +kernel) (fun c9 => ?_) (fun c9 => ?_)
    · refine zwW_p [(0, -1, 0)] (q := 34) (ls' := [(2, 37), (0, a), (0, b)]) (st' := [(0, -1)]) (by decide +kernel) rfl ?_
      refine zwW_ret (nx := 35) (a := 0) (b := 0) (by decide +kernel) rfl (Or.inl rfl) ?_
      exact ⟨rfl, by omega, by first | exact zWhy_o (by omega) | exact zWhy_m ⟨(by first | omega | exact ⟨by omega, by omega⟩), by omega, by omega⟩ (by assumption) hn⟩
    · exfalso; omega
end
section
/-! what a clause answers: stacks against the pure run -/
section EE
variable {N c : Nat → Int} {p : eT} {h g : Hp} {A d x y z : Int} {i k m n L : Nat} {P : Int → Prop}
abbrev eP0 : eT := ((fun _ => 0), 0)
theorem eRn_s (p : eT) : eRn N c 0 (m + 1) p = eSt N (c m) (eRn N c 0 m p) := by
  show eSt N (c (0 + m)) _ = _
  rw [Nat.zero_add]
theorem eSt_le : (eSt N x p).2 ≤ p.2 + 1 := by
  unfold eSt
  split
  · exact Nat.le_refl _
  · split
    · exact Nat.le_refl _
    · split
      · show p.2 ≤ p.2 + 1
        omega
      · show p.2 - 1 ≤ p.2 + 1
        omega
theorem eRn_le : ∀ m : Nat, (eRn N c 0 m eP0).2 ≤ m
  | 0 => Nat.le_refl _
  | m + 1 => by
    have q := eRn_le m
    have w := eSt_le (N := N) (x := c m) (p := eRn N c 0 m eP0)
    rw [eRn_s]
    omega
theorem eSg.ok (S : eSg N c P 0 L) (hm : m < L) : eOk (c m) (eRn N c 0 m eP0) := by
  have w := ((S.2 (fun _ => 0) 0).1 m (by omega)).1
  rw [Nat.zero_add] at w
  exact w
theorem eSg.fin (S : eSg N c P 0 L) : (eRn N c 0 L eP0).2 = 1 ∧ P ((eRn N c 0 L eP0).1 0) := by
  obtain ⟨-, w1, w2, -⟩ := S.2 (fun _ => 0) 0
  rw [Nat.sub_zero] at w1 w2
  exact ⟨w1, w2⟩
/-- a stack in a row of numbers -/
def eV (h : Hp) (A : Int) (p : eT) (d : Int) : Prop := d = (p.2 : Int) ∧ ∀ r, r < p.2 → fld h A r = p.1 r
theorem eV_0 : eV h A eP0 0 := ⟨rfl, fun r hr => absurd hr (Nat.not_lt_zero _)⟩
theorem eV.pu (V : eV h A p d) (e : g = wr h A i x) (s : sh h A = some (20, n)) (hi : i = d.toNat) (hd : d < n) : eV g A (zu p.1 p.2 x, p.2 + 1) (d + 1) := by
  obtain ⟨v1, v2⟩ := V
  have hi : i = p.2 := by omega
  subst hi
  refine ⟨by show d + 1 = ((p.2 + 1 : Nat) : Int); omega, fun r hr => ?_⟩
  have hr : r < p.2 + 1 := hr
  show fld g A r = zu p.1 p.2 x r
  rw [e]
  by_cases w : r = p.2
  · rw [w, zu_eq]
    exact fld_wr_eq s (by omega)
  · rw [zu_ne w, fld_wr (Or.inr w)]
    exact v2 r (by omega)
theorem eV.num (V : eV h A p d) (e : g = wr h A i x) (s : sh h A = some (20, n)) (hi : i = d.toNat) (hd : d < n) (hy : 0 ≤ y) (hx : x = y) : eV g A (eSt N y p) (d + 1) := by
  subst hx
  unfold eSt
  rw [if_pos hy]
  exact V.pu e s hi hd
theorem eV.nam (V : eV h A p d) (e : g = wr h A i x) (s : sh h A = some (20, n)) (hi : i = d.toNat) (hd : d < n) (hy : -13 ≤ y ∧ y < 0) (hx : x = N (-1 - y).toNat) : eV g A (eSt N y p) (d + 1) := by
  subst hx
  unfold eSt
  rw [if_neg (by omega), if_pos hy.1]
  exact V.pu e s hi hd
theorem eV.not (V : eV h A p d) (e : g = wr h A i x) (s : sh h A = some (20, n)) (hi : i = (d - 1).toNat) (hd : d ≤ n) (hp : 1 ≤ p.2) (hy : y = -20) (hx : x = 1 - fld h A (d - 1).toNat) : eV g A (eSt N y p) d := by
  obtain ⟨v1, v2⟩ := V
  have hi : i = p.2 - 1 := by omega
  subst hi
  unfold eSt
  rw [if_neg (by omega), if_neg (by omega), if_pos hy]
  refine ⟨v1, fun r hr => ?_⟩
  have hr : r < p.2 := hr
  show fld g A r = zu p.1 (p.2 - 1) (1 - p.1 (p.2 - 1)) r
  rw [e]
  by_cases w : r = p.2 - 1
  · rw [w, zu_eq, fld_wr_eq s (by omega), hx, show (d - 1).toNat = p.2 - 1 by omega, v2 _ (by omega)]
  · rw [zu_ne w, fld_wr (Or.inr w)]
    exact v2 r (by omega)
theorem eV.bin (V : eV h A p d) (e : g = wr h A i x) (s : sh h A = some (20, n)) (hi : i = (d - 2).toNat) (hd : d ≤ n) (hp : 2 ≤ p.2) (hy : y < -13 ∧ y ≠ -20) (hx : x = eJn (-y) (fld h A (d - 2).toNat) (fld h A (d - 1).toNat)) : eV g A (eSt N y p) (d - 1) := by
  obtain ⟨v1, v2⟩ := V
  have hi : i = p.2 - 2 := by omega
  subst hi
  unfold eSt
  rw [if_neg (by omega), if_neg (by omega), if_neg hy.2]
  refine ⟨by show d - 1 = ((p.2 - 1 : Nat) : Int); omega, fun r hr => ?_⟩
  have hr : r < p.2 - 1 := hr
  show fld g A r = zu p.1 (p.2 - 2) (eJn (-y) (p.1 (p.2 - 2)) (p.1 (p.2 - 1))) r
  rw [e]
  by_cases w : r = p.2 - 2
  · rw [w, zu_eq, fld_wr_eq s (by omega), hx, show (d - 2).toNat = p.2 - 2 by omega, show (d - 1).toNat = p.2 - 1 by omega, v2 _ (by omega), v2 _ (by omega)]
  · rw [zu_ne w, fld_wr (Or.inr w)]
    exact v2 r (by omega)
/-- what a step finds -/
theorem eV.t1 (V : eV h A p d) (hp : 1 ≤ p.2) : fld h A (d - 1).toNat = p.1 (p.2 - 1) := by
  have v := V.1
  rw [show (d - 1).toNat = p.2 - 1 by omega]
  exact V.2 _ (by omega)
theorem eV.t2 (V : eV h A p d) (hp : 2 ≤ p.2) : fld h A (d - 2).toNat = p.1 (p.2 - 2) := by
  have v := V.1
  rw [show (d - 2).toNat = p.2 - 2 by omega]
  exact V.2 _ (by omega)
theorem eOk.not (O : eOk (-20) p) : 1 ≤ p.2 ∧ eBit (p.1 (p.2 - 1)) := by
  rcases O with o | ⟨o1, o2, o3⟩ | ⟨o, -⟩ | ⟨o, -⟩ <;> first | omega | exact ⟨o2, o3⟩
theorem eOk.nw (O : eOk y p) : y ≠ -21 := by
  rcases O with o | ⟨o, -⟩ | ⟨o, -⟩ | ⟨o, -⟩ <;> omega
theorem eBit.num (B : eBit x) : eNum x := by
  unfold eBit at B
  unfold eNum
  omega
/-- signs of two, as the class joins them -/
def eOp (y : Int) : Prop := y = -18 ∨ y = -19 ∨ y = -43 ∨ y = -45 ∨ y = -42 ∨ y = -47 ∨ y = -60 ∨ y = -62 ∨ y = -61
theorem eOp.neg (O : eOp y) : -y = 18 ∨ -y = 19 ∨ -y = 42 ∨ -y = 43 ∨ -y = 45 ∨ -y = 47 ∨ -y = 60 ∨ -y = 61 ∨ -y = 62 := by
  unfold eOp at O
  omega
/-- the model's signs -/
def mOp (op v : Int) : Prop := (op = 110 ∧ 0 ≤ v) ∨ (op = 118 ∧ 0 ≤ v ∧ v ≤ 12) ∨ (op = 33 ∨ op = 38 ∨ op = 124 ∨ op = 43 ∨ op = 45 ∨ op = 42 ∨ op = 47 ∨ op = 60 ∨ op = 62 ∨ op = 61)
theorem mCd.op {F : Nat → Int} {j : Nat} {x : Int} (M : mCd F j x) : mOp (F (2 * j)) (F (2 * j + 1)) := M.2
theorem mOp.nn {op v : Int} (O : mOp op v) (e : op = 110) : 0 ≤ v := by
  unfold mOp at O
  omega
theorem mOp.v {op v : Int} (O : mOp op v) (e : op = 118) : 0 ≤ v ∧ v ≤ 12 := by
  unfold mOp at O
  omega
theorem mOp.b {op v : Int} (O : mOp op v) (n1 : op ≠ 110) (n2 : op ≠ 118) (n3 : op ≠ 33) : op = 38 ∨ op = 124 ∨ op = 43 ∨ op = 45 ∨ op = 42 ∨ op = 47 ∨ op = 60 ∨ op = 62 ∨ op = 61 := by
  unfold mOp at O
  omega
theorem eOk.bin (O : eOk y p) (hy : y < -13 ∧ y ≠ -20) : 2 ≤ p.2 ∧ (eNum (p.1 (p.2 - 2)) ∧ eNum (p.1 (p.2 - 1))) ∧ ((y = -18 ∨ y = -19) → eBit (p.1 (p.2 - 2)) ∧ eBit (p.1 (p.2 - 1))) ∧ eOp y := by
  unfold eOp
  rcases O with o | ⟨o1, o2, o3⟩ | ⟨o1, o2, o3, o4⟩ | ⟨o1, o2, o3, o4⟩
  · omega
  · omega
  · exact ⟨o2, ⟨o3.num, o4.num⟩, fun _ => ⟨o3, o4⟩, by omega⟩
  · exact ⟨o2, ⟨o3, o4⟩, fun _ => by omega, by omega⟩
theorem l_or_b {a b z : Int} (ha : eBit a) (hb : eBit b) (e : z = l_or a b) : z = i_or a b ∧ (z = 0 ∨ z = 1) := by
  obtain ⟨-, w1, -, w2⟩ := l_bit ha hb
  exact ⟨e.trans w1, by rw [e, w1]; exact w2⟩
theorem l_and_b {a b z : Int} (ha : eBit a) (hb : eBit b) (e : z = l_and a b) : z = i_and a b ∧ (z = 0 ∨ z = 1) := by
  obtain ⟨w1, -, w2, -⟩ := l_bit ha hb
  exact ⟨e.trans w1, by rw [e, w1]; exact w2⟩
/-! codes of the model's rows -/
theorem eEq_n {v : Int} (e : x = 110) : eEn x v = v := if_pos e
theorem eEq_v {v : Int} (e : x = 118) : eEn x v = -1 - v := by subst e; rfl
theorem eEq_x {v : Int} (e : x = 33) : eEn x v = -20 := by subst e; rfl
def eMs (op : Int) : Int := if op = 38 then 19 else if op = 124 then 18 else op
theorem eEn_m {v : Int} (e : x = 38 ∨ x = 124 ∨ x = 43 ∨ x = 45 ∨ x = 42 ∨ x = 47 ∨ x = 60 ∨ x = 62 ∨ x = 61) : eEn x v = -(eMs x) ∧ eMs x ≠ 20 ∧ 13 < eMs x := by
  rcases e with rfl | rfl | rfl | rfl | rfl | rfl | rfl | rfl | rfl <;> exact ⟨rfl, by decide, by decide⟩
def mCc (h : Hp) (s c : Int) : Nat → Int := fun k => eEn (fld h (101 + 6 * s + c) (2 * k)) (fld h (101 + 6 * s + c) (2 * k + 1))
/-- all clauses of the model's sheets can be run -/
def zCk (h : Hp) : Prop := ∀ s c : Int, 0 ≤ s → s < fld h 37 52 → 0 ≤ c → c < 5 → 0 < fld h (155 + s) c.toNat → (fld h (155 + s) c.toNat < 400 ∧ (∀ N, eNs N → eSg N (mCc h s c) (if c < 3 then eNum else eBit) 0 (fld h (155 + s) c.toNat).toNat)) ∧ ∀ k : Nat, (k : Int) < fld h (155 + s) c.toNat → mCd (fld h (101 + 6 * s + c)) k (mCc h s c k)
/-- the sheet that counts now -/
def zWn (h : Hp) (c w : Int) : Int := pWhy (fld h 164) (fld h 165) (fun s => fld h (155 + s) c.toNat) w (fld h 37 53).toNat
def zTl (h : Hp) (c w : Int) (N : Nat → Int) : Int := if zWn h c w = -1 then (if c = 0 ∨ c = 2 then 0 else 1) else (eRn N (mCc h (zWn h c w) c) 0 (fld h (155 + zWn h c w) c.toNat).toNat eP0).1 0
theorem pBw_l {fs ff : Nat → Int} {Lc : Int → Int} {w : Int} : ∀ n : Nat, pBw fs ff Lc w n ≠ -1 → 0 < Lc (fs (pBw fs ff Lc w n).toNat)
  | 0, h => absurd rfl h
  | n + 1, h => by
    unfold pBw at h ⊢
    split
    · rename_i q
      rw [Int.toNat_natCast]
      exact q.2.1
    · rename_i q
      rw [if_neg q] at h
      exact pBw_l n h
/-- the sheet that counts has the clause -/
theorem zWn_l {c w : Int} (hF : ∀ k : Nat, (k : Int) < fld h 37 53 → 0 ≤ fld h 164 k ∧ fld h 164 k < fld h 37 52) (hw : zWn h c w ≠ -1) : 0 ≤ zWn h c w ∧ zWn h c w < fld h 37 52 ∧ 0 < fld h (155 + zWn h c w) c.toNat := by
  unfold zWn pWhy at hw ⊢
  have b := pBw_b (fs := fld h 164) (ff := fld h 165) (Lc := fun s => fld h (155 + s) c.toNat) (w := w) (fld h 37 53).toNat
  split at hw
  · exact absurd rfl hw
  · rename_i q
    rw [if_neg q]
    have l := pBw_l (fs := fld h 164) (ff := fld h 165) (Lc := fun s => fld h (155 + s) c.toNat) (w := w) (fld h 37 53).toNat q
    have w := hF (pBw (fld h 164) (fld h 165) (fun s => fld h (155 + s) c.toNat) w (fld h 37 53).toNat).toNat (by omega)
    exact ⟨w.1, w.2, l⟩
theorem zTl_n {c w : Int} (e : zWn h c w = -1) : zTl h c w N = if c = 0 ∨ c = 2 then 0 else 1 := if_pos e
theorem zTl_y {c w : Int} (e : zWn h c w ≠ -1) : zTl h c w N = (eRn N (mCc h (zWn h c w) c) 0 (fld h (155 + zWn h c w) c.toNat).toNat eP0).1 0 := if_neg e
end EE
section EX
variable {h g : Hp} {a r w : Int}
theorem zWn_n (hn : fld h 13 1 = fld h 37 53) (z : zBw h a w (fld h 13 1).toNat = -1) : zWn h a w = -1 := by
  unfold zWn pWhy
  rw [← hn]
  exact if_pos z
/-- the class's sheet that counts, as the model's rows have it -/
theorem zShe.run (C : CI h) (P : zShe h) (F : zFo h) (K : zCk h) (hN : eNs (fld h 17)) (ha : 0 ≤ a ∧ a ≤ 4) (hn : fld h 13 1 = fld h 37 53) (hs : fld h 14 2 = fld h 37 52) (z : 0 ≤ zBw h a w (fld h 13 1).toNat ∧ r = fld h 15 (zBw h a w (fld h 13 1).toNat).toNat) : zWn h a w ≠ -1 ∧ ∃ B L N : Nat, fld h (fld h r 2) a.toNat = (B : Int) ∧ sh h (fld h r 1) = some (20, N) ∧ (B + L < N ∧ N ≤ 1000 ∧ L < 400) ∧ (∀ k : Nat, k < L → fld h (fld h r 1) (B + k) = mCc h (zWn h a w) a k) ∧ fld h (fld h r 1) (B + L) = -21 ∧ eSg (fld h 17) (mCc h (zWn h a w) a) (if a < 3 then eNum else eBit) 0 L ∧ L = (fld h (155 + zWn h a w) a.toNat).toNat := by
  obtain ⟨z0, z1⟩ := z
  have b := pBw_b (fs := fld h 164) (ff := fld h 165) (Lc := fun s => fld h (155 + s) a.toNat) (w := w) (fld h 13 1).toNat
  have b1 : zBw h a w (fld h 13 1).toNat < ((fld h 13 1).toNat : Nat) := b.2
  have l : 0 < fld h (155 + fld h 164 (zBw h a w (fld h 13 1).toNat).toNat) a.toNat := pBw_l (fs := fld h 164) (ff := fld h 165) (Lc := fun s => fld h (155 + s) a.toNat) (w := w) (fld h 13 1).toNat (by show zBw h a w (fld h 13 1).toNat ≠ -1; omega)
  have e : zWn h a w = fld h 164 (zBw h a w (fld h 13 1).toNat).toNat := by
    unfold zWn pWhy
    rw [← hn]
    exact if_neg (show zBw h a w (fld h 13 1).toNat ≠ -1 by omega)
  obtain ⟨⟨f0, f1⟩, f2, -, -⟩ := F (zBw h a w (fld h 13 1).toNat).toNat (by omega)
  rw [← e] at l f0 f1 f2
  have es : (((zWn h a w).toNat : Nat) : Int) = zWn h a w := by omega
  have ea : ((a.toNat : Nat) : Int) = a := by omega
  obtain ⟨-, N, ⟨p1, pN⟩, p2, -⟩ := P (zWn h a w).toNat (by omega)
  obtain ⟨⟨k1, k2⟩, -⟩ := K (zWn h a w) a f0 (by omega) ha.1 (by omega) l
  have er : r = zv h 14 (zWn h a w).toNat := z1.trans f2
  have p2 := p2 a.toNat (by omega)
  dsimp only at p2
  rw [es, ea] at p2
  unfold zMa zWo at p2
  unfold zWo at p1
  rw [← er] at p1 p2
  rcases p2 with ⟨w1, w2⟩ | ⟨B, L, w1, w2, w3, w4, w5, w6⟩
  · exfalso
    omega
  · have eL : L = (fld h (155 + zWn h a w) a.toNat).toNat := by omega
    refine ⟨by omega, B, L, N, w1, p1, ⟨w4, by omega, by omega⟩, fun k hk => (w6 k hk).1.symm, w5, ?_, eL⟩
    rw [eL]
    exact k2 _ hN
end EX
end
section
/-! contracts of methods -/
-- WheelLandModel.done(III)I
theorem m209_e {sc : List Int} (h : Hp) (a b c : Int) (q_b : -2147483648 ≤ b ∧ b ≤ 2147483647) (q_c : -2147483648 ≤ c ∧ c ≤ 2147483647) (pa : a = 38 ∨ a = 124 ∨ a = 43 ∨ a = 45 ∨ a = 42 ∨ a = 47 ∨ a = 60 ∨ a = 62 ∨ a = 61) (pb : eNum b) (pc : eNum c) : zwC sc 2 209 [(0, a), (0, b), (0, c)] h (zwRt 0 (fun x g => h = g ∧ (-2147483648 ≤ x ∧ x ≤ 2147483647) ∧ (x = eJn (eMs a) b c))) := by
  refine zwC_of (D := 1) 3 (by decide +kernel) rfl (ls := [(0, a), (0, b), (0, c)]) rfl ?_
  have W1 := w64_mul pb pc
  have W2 := tdiv_n (b := c) pb
  have W3 : w32 (b.tdiv c) = b.tdiv c := by unfold eNum at W2; unfold w32; omega
  have W5 : -2147483648 ≤ i_and b c ∧ i_and b c ≤ 2147483647 := by unfold i_and w32; omega
  have W6 : -2147483648 ≤ i_or b c ∧ i_or b c ≤ 2147483647 := by unfold i_or w32; omega
  unfold eNum at pb pc W2
  refine zwW_p [(1, 0, 0)] (q := 1) (ls' := [(0, a), (0, b), (0, c)]) (st' := [(0, a)]) (by decide +kernel) rfl ?_
  refine zwW_sw (d := 192) (os := [38, 188, 39, 192, 40, 192, 41, 192, 42, 134, 43, 116, 44, 192, 45, 125, 46, 192, 47, 143, 48, 192, 49, 192, 50, 192, 51, 192, 52, 192, 53, 192, 54, 192, 55, 192, 56, 192, 57, 192, 58, 192, 59, 192, 60, 155, 61, 177, 62, 166]) (by decide +kernel) ?_
  refine ⟨fun c1 => ?_, fun c1 => ?_⟩
  · show zwW _ _ _ 188 _ _ _ _
    refine zwW_p [(1, 1, 0), (1, 2, 0)] (q := 190) (ls' := [(0, a), (0, b), (0, c)]) (st' := [(0, c), (0, b)]) (by decide +kernel) rfl ?_
    refine zwW_ib (a := 5) (nx := 191) (by decide +kernel) rfl ?_
    refine zwW_ret (nx := 192) (a := 0) (b := 0) (by decide +kernel) rfl (Or.inl rfl) ?_
    exact ⟨rfl, by omega, by first | (exfalso; omega) | (unfold eMs; (repeat' (first | rw [if_pos (by omega)] | rw [if_neg (by omega)])); unfold eJn eBr; (repeat' (first | rw [if_pos (by omega)] | rw [if_neg (by omega)])); all_goals (first | rfl | omega))⟩
  refine ⟨fun c2 => ?_, fun c2 => ?_⟩
  · show zwW _ _ _ 192 _ _ _ _
    refine zwW_p [(1, 1, 0), (1, 2, 0)] (q := 194) (ls' := [(0, a), (0, b), (0, c)]) (st' := [(0, c), (0, b)]) (by decide +kernel) rfl ?_
    refine zwW_ib (a := 6) (nx := 195) (by decide +kernel) rfl ?_
    refine zwW_ret (nx := 196) (a := 0) (b := 0) (by decide +kernel) rfl (Or.inl rfl) ?_
    exact ⟨rfl, by omega, by first | (exfalso; omega) | (unfold eMs; (repeat' (first | rw [if_pos (by omega)] | rw [if_neg (by omega)])); unfold eJn eBr; (repeat' (first | rw [if_pos (by omega)] | rw [if_neg (by omega)])); all_goals (first | rfl | omega))⟩
  refine ⟨fun c3 => ?_, fun c3 => ?_⟩
  · show zwW _ _ _ 192 _ _ _ _
    refine zwW_p [(1, 1, 0), (1, 2, 0)] (q := 194) (ls' := [(0, a), (0, b), (0, c)]) (st' := [(0, c), (0, b)]) (by decide +kernel) rfl ?_
    refine zwW_ib (a := 6) (nx := 195) (by decide +kernel) rfl ?_
    refine zwW_ret (nx := 196) (a := 0) (b := 0) (by decide +kernel) rfl (Or.inl rfl) ?_
    exact ⟨rfl, by omega, by first | (exfalso; omega) | (unfold eMs; (repeat' (first | rw [if_pos (by omega)] | rw [if_neg (by omega)])); unfold eJn eBr; (repeat' (first | rw [if_pos (by omega)] | rw [if_neg (by omega)])); all_goals (first | rfl | omega))⟩
  refine ⟨fun c4 => ?_, fun c4 => ?_⟩
  · show zwW _ _ _ 192 _ _ _ _
    refine zwW_p [(1, 1, 0), (1, 2, 0)] (q := 194) (ls' := [(0, a), (0, b), (0, c)]) (st' := [(0, c), (0, b)]) (by decide +kernel) rfl ?_
    refine zwW_ib (a := 6) (nx := 195) (by decide +kernel) rfl ?_
    refine zwW_ret (nx := 196) (a := 0) (b := 0) (by decide +kernel) rfl (Or.inl rfl) ?_
    exact ⟨rfl, by omega, by first | (exfalso; omega) | (unfold eMs; (repeat' (first | rw [if_pos (by omega)] | rw [if_neg (by omega)])); unfold eJn eBr; (repeat' (first | rw [if_pos (by omega)] | rw [if_neg (by omega)])); all_goals (first | rfl | omega))⟩
  refine ⟨fun c5 => ?_, fun c5 => ?_⟩
  · show zwW _ _ _ 134 _ _ _ _
    refine zwW_p [(1, 1, 0), (7, 0, 0), (1, 2, 0), (7, 0, 0)] (q := 138) (ls' := [(0, a), (0, b), (0, c)]) (st' := [(1, c), (1, b)]) (by decide +kernel) rfl ?_
    refine zwW_lmw (nx := 139) (by decide +kernel) ?_
    intro v6 ev6 lv6 uv6
    refine zwW_cs (k' := 252) (n := 1) (nx := 142) (as := [(1, v6)]) (st' := []) (by decide +kernel) rfl (m252 h v6) rfl ?_
    rintro v7 _ ⟨rfl, f8, f9, f10, f11⟩
    refine zwW_ret (nx := 143) (a := 0) (b := 0) (by decide +kernel) rfl (Or.inl rfl) ?_
    exact ⟨rfl, by omega, by first | (exfalso; omega) | (unfold eMs; (repeat' (first | rw [if_pos (by omega)] | rw [if_neg (by omega)])); unfold eJn eBr; (repeat' (first | rw [if_pos (by omega)] | rw [if_neg (by omega)])); all_goals (first | rfl | omega))⟩
  refine ⟨fun c12 => ?_, fun c12 => ?_⟩
  · show zwW _ _ _ 116 _ _ _ _
    refine zwW_p [(1, 1, 0), (7, 0, 0), (1, 2, 0), (7, 0, 0)] (q := 120) (ls' := [(0, a), (0, b), (0, c)]) (st' := [(1, c), (1, b)]) (by decide +kernel) rfl ?_
    refine zwW_ladd (nx := 121) (by decide +kernel) (by first | omega | exact ⟨by omega, by omega⟩) ?_
    refine zwW_cs (k' := 252) (n := 1) (nx := 124) (as := [(1, (b + c))]) (st' := []) (by decide +kernel) rfl (m252 h (b + c)) rfl ?_
    rintro v13 _ ⟨rfl, f14, f15, f16, f17⟩
    refine zwW_ret (nx := 125) (a := 0) (b := 0) (by decide +kernel) rfl (Or.inl rfl) ?_
    exact ⟨rfl, by omega, by first | (exfalso; omega) | (unfold eMs; (repeat' (first | rw [if_pos (by omega)] | rw [if_neg (by omega)])); unfold eJn eBr; (repeat' (first | rw [if_pos (by omega)] | rw [if_neg (by omega)])); all_goals (first | rfl | omega))⟩
  refine ⟨fun c18 => ?_, fun c18 => ?_⟩
  · show zwW _ _ _ 192 _ _ _ _
    refine zwW_p [(1, 1, 0), (1, 2, 0)] (q := 194) (ls' := [(0, a), (0, b), (0, c)]) (st' := [(0, c), (0, b)]) (by decide +kernel) rfl ?_
    refine zwW_ib (a := 6) (nx := 195) (by decide +kernel) rfl ?_
    refine zwW_ret (nx := 196) (a := 0) (b := 0) (by decide +kernel) rfl (Or.inl rfl) ?_
    exact ⟨rfl, by omega, by first | (exfalso; omega) | (unfold eMs; (repeat' (first | rw [if_pos (by omega)] | rw [if_neg (by omega)])); unfold eJn eBr; (repeat' (first | rw [if_pos (by omega)] | rw [if_neg (by omega)])); all_goals (first | rfl | omega))⟩
  refine ⟨fun c19 => ?_, fun c19 => ?_⟩
  · show zwW _ _ _ 125 _ _ _ _
    refine zwW_p [(1, 1, 0), (7, 0, 0), (1, 2, 0), (7, 0, 0)] (q := 129) (ls' := [(0, a), (0, b), (0, c)]) (st' := [(1, c), (1, b)]) (by decide +kernel) rfl ?_
    refine zwW_lsub (nx := 130) (by decide +kernel) (by first | omega | exact ⟨by omega, by omega⟩) ?_
    refine zwW_cs (k' := 252) (n := 1) (nx := 133) (as := [(1, (b - c))]) (st' := []) (by decide +kernel) rfl (m252 h (b - c)) rfl ?_
    rintro v20 _ ⟨rfl, f21, f22, f23, f24⟩
    refine zwW_ret (nx := 134) (a := 0) (b := 0) (by decide +kernel) rfl (Or.inl rfl) ?_
    exact ⟨rfl, by omega, by first | (exfalso; omega) | (unfold eMs; (repeat' (first | rw [if_pos (by omega)] | rw [if_neg (by omega)])); unfold eJn eBr; (repeat' (first | rw [if_pos (by omega)] | rw [if_neg (by omega)])); all_goals (first | rfl | omega))⟩
  refine ⟨fun c25 => ?_, fun c25 => ?_⟩
  · show zwW _ _ _ 192 _ _ _ _
    refine zwW_p [(1, 1, 0), (1, 2, 0)] (q := 194) (ls' := [(0, a), (0, b), (0, c)]) (st' := [(0, c), (0, b)]) (by decide +kernel) rfl ?_
    refine zwW_ib (a := 6) (nx := 195) (by decide +kernel) rfl ?_
    refine zwW_ret (nx := 196) (a := 0) (b := 0) (by decide +kernel) rfl (Or.inl rfl) ?_
    exact ⟨rfl, by omega, by first | (exfalso; omega) | (unfold eMs; (repeat' (first | rw [if_pos (by omega)] | rw [if_neg (by omega)])); unfold eJn eBr; (repeat' (first | rw [if_pos (by omega)] | rw [if_neg (by omega)])); all_goals (first | rfl | omega))⟩
  refine ⟨fun c26 => ?_, fun c26 => ?_⟩
  · show zwW _ _ _ 143 _ _ _ _
    refine zwW_p [(1, 2, 0)] (q := 144) (ls' := [(0, a), (0, b), (0, c)]) (st' := [(0, c)]) (by decide +kernel) rfl ?_
    refine zwif_ne (q := 151) (nx := 147) (by decide +kernel) (fun c27 => ?_) (fun c27 => ?_)
    · refine zwW_p [(1, 1, 0), (1, 2, 0)] (q := 153) (ls' := [(0, a), (0, b), (0, c)]) (st' := [(0, c), (0, b)]) (by decide +kernel) rfl ?_
      refine zwW_tdw (nx := 154) (by decide +kernel) (by omega) ?_
      intro v28 ev28 lv28 uv28
      refine zwW_ret (nx := 155) (a := 0) (b := 0) (by decide +kernel) rfl (Or.inl rfl) ?_
      exact ⟨rfl, by omega, by first | (exfalso; omega) | (unfold eMs; (repeat' (first | rw [if_pos (by omega)] | rw [if_neg (by omega)])); unfold eJn eBr; (repeat' (first | rw [if_pos (by omega)] | rw [if_neg (by omega)])); all_goals (first | rfl | omega))⟩
    · refine zwW_p [(0, 0, 0), (24, 154, 0)] (q := 154) (ls' := [(0, a), (0, b), (0, c)]) (st' := [(0, 0)]) (by decide +kernel) rfl ?_
      refine zwW_ret (nx := 155) (a := 0) (b := 0) (by decide +kernel) rfl (Or.inl rfl) ?_
      exact ⟨rfl, by omega, by first | (exfalso; omega) | (unfold eMs; (repeat' (first | rw [if_pos (by omega)] | rw [if_neg (by omega)])); unfold eJn eBr; (repeat' (first | rw [if_pos (by omega)] | rw [if_neg (by omega)])); all_goals (first | rfl | omega))⟩
  refine ⟨fun c29 => ?_, fun c29 => ?_⟩
  · show zwW _ _ _ 192 _ _ _ _
    refine zwW_p [(1, 1, 0), (1, 2, 0)] (q := 194) (ls' := [(0, a), (0, b), (0, c)]) (st' := [(0, c), (0, b)]) (by decide +kernel) rfl ?_
    refine zwW_ib (a := 6) (nx := 195) (by decide +kernel) rfl ?_
    refine zwW_ret (nx := 196) (a := 0) (b := 0) (by decide +kernel) rfl (Or.inl rfl) ?_
    exact ⟨rfl, by omega, by first | (exfalso; omega) | (unfold eMs; (repeat' (first | rw [if_pos (by omega)] | rw [if_neg (by omega)])); unfold eJn eBr; (repeat' (first | rw [if_pos (by omega)] | rw [if_neg (by omega)])); all_goals (first | rfl | omega))⟩
  refine ⟨fun c30 => ?_, fun c30 => ?_⟩
  · show zwW _ _ _ 192 _ _ _ _
    refine zwW_p [(1, 1, 0), (1, 2, 0)] (q := 194) (ls' := [(0, a), (0, b), (0, c)]) (st' := [(0, c), (0, b)]) (by decide +kernel) rfl ?_
    refine zwW_ib (a := 6) (nx := 195) (by decide +kernel) rfl ?_
    refine zwW_ret (nx := 196) (a := 0) (b := 0) (by decide +kernel) rfl (Or.inl rfl) ?_
    exact ⟨rfl, by omega, by first | (exfalso; omega) | (unfold eMs; (repeat' (first | rw [if_pos (by omega)] | rw [if_neg (by omega)])); unfold eJn eBr; (repeat' (first | rw [if_pos (by omega)] | rw [if_neg (by omega)])); all_goals (first | rfl | omega))⟩
  refine ⟨fun c31 => ?_, fun c31 => ?_⟩
  · show zwW _ _ _ 192 _ _ _ _
    refine zwW_p [(1, 1, 0), (1, 2, 0)] (q := 194) (ls' := [(0, a), (0, b), (0, c)]) (st' := [(0, c), (0, b)]) (by decide +kernel) rfl ?_
    refine zwW_ib (a := 6) (nx := 195) (by decide +kernel) rfl ?_
    refine zwW_ret (nx := 196) (a := 0) (b := 0) (by decide +kernel) rfl (Or.inl rfl) ?_
    exact ⟨rfl, by omega, by first | (exfalso; omega) | (unfold eMs; (repeat' (first | rw [if_pos (by omega)] | rw [if_neg (by omega)])); unfold eJn eBr; (repeat' (first | rw [if_pos (by omega)] | rw [if_neg (by omega)])); all_goals (first | rfl | omega))⟩
  refine ⟨fun c32 => ?_, fun c32 => ?_⟩
  · show zwW _ _ _ 192 _ _ _ _
    refine zwW_p [(1, 1, 0), (1, 2, 0)] (q := 194) (ls' := [(0, a), (0, b), (0, c)]) (st' := [(0, c), (0, b)]) (by decide +kernel) rfl ?_
    refine zwW_ib (a := 6) (nx := 195) (by decide +kernel) rfl ?_
    refine zwW_ret (nx := 196) (a := 0) (b := 0) (by decide +kernel) rfl (Or.inl rfl) ?_
    exact ⟨rfl, by omega, by first | (exfalso; omega) | (unfold eMs; (repeat' (first | rw [if_pos (by omega)] | rw [if_neg (by omega)])); unfold eJn eBr; (repeat' (first | rw [if_pos (by omega)] | rw [if_neg (by omega)])); all_goals (first | rfl | omega))⟩
  refine ⟨fun c33 => ?_, fun c33 => ?_⟩
  · show zwW _ _ _ 192 _ _ _ _
    refine zwW_p [(1, 1, 0), (1, 2, 0)] (q := 194) (ls' := [(0, a), (0, b), (0, c)]) (st' := [(0, c), (0, b)]) (by decide +kernel) rfl ?_
    refine zwW_ib (a := 6) (nx := 195) (by decide +kernel) rfl ?_
    refine zwW_ret (nx := 196) (a := 0) (b := 0) (by decide +kernel) rfl (Or.inl rfl) ?_
    exact ⟨rfl, by omega, by first | (exfalso; omega) | (unfold eMs; (repeat' (first | rw [if_pos (by omega)] | rw [if_neg (by omega)])); unfold eJn eBr; (repeat' (first | rw [if_pos (by omega)] | rw [if_neg (by omega)])); all_goals (first | rfl | omega))⟩
  refine ⟨fun c34 => ?_, fun c34 => ?_⟩
  · show zwW _ _ _ 192 _ _ _ _
    refine zwW_p [(1, 1, 0), (1, 2, 0)] (q := 194) (ls' := [(0, a), (0, b), (0, c)]) (st' := [(0, c), (0, b)]) (by decide +kernel) rfl ?_
    refine zwW_ib (a := 6) (nx := 195) (by decide +kernel) rfl ?_
    refine zwW_ret (nx := 196) (a := 0) (b := 0) (by decide +kernel) rfl (Or.inl rfl) ?_
    exact ⟨rfl, by omega, by first | (exfalso; omega) | (unfold eMs; (repeat' (first | rw [if_pos (by omega)] | rw [if_neg (by omega)])); unfold eJn eBr; (repeat' (first | rw [if_pos (by omega)] | rw [if_neg (by omega)])); all_goals (first | rfl | omega))⟩
  refine ⟨fun c35 => ?_, fun c35 => ?_⟩
  · show zwW _ _ _ 192 _ _ _ _
    refine zwW_p [(1, 1, 0), (1, 2, 0)] (q := 194) (ls' := [(0, a), (0, b), (0, c)]) (st' := [(0, c), (0, b)]) (by decide +kernel) rfl ?_
    refine zwW_ib (a := 6) (nx := 195) (by decide +kernel) rfl ?_
    refine zwW_ret (nx := 196) (a := 0) (b := 0) (by decide +kernel) rfl (Or.inl rfl) ?_
    exact ⟨rfl, by omega, by first | (exfalso; omega) | (unfold eMs; (repeat' (first | rw [if_pos (by omega)] | rw [if_neg (by omega)])); unfold eJn eBr; (repeat' (first | rw [if_pos (by omega)] | rw [if_neg (by omega)])); all_goals (first | rfl | omega))⟩
  refine ⟨fun c36 => ?_, fun c36 => ?_⟩
  · show zwW _ _ _ 192 _ _ _ _
    refine zwW_p [(1, 1, 0), (1, 2, 0)] (q := 194) (ls' := [(0, a), (0, b), (0, c)]) (st' := [(0, c), (0, b)]) (by decide +kernel) rfl ?_
    refine zwW_ib (a := 6) (nx := 195) (by decide +kernel) rfl ?_
    refine zwW_ret (nx := 196) (a := 0) (b := 0) (by decide +kernel) rfl (Or.inl rfl) ?_
    exact ⟨rfl, by omega, by first | (exfalso; omega) | (unfold eMs; (repeat' (first | rw [if_pos (by omega)] | rw [if_neg (by omega)])); unfold eJn eBr; (repeat' (first | rw [if_pos (by omega)] | rw [if_neg (by omega)])); all_goals (first | rfl | omega))⟩
  refine ⟨fun c37 => ?_, fun c37 => ?_⟩
  · show zwW _ _ _ 192 _ _ _ _
    refine zwW_p [(1, 1, 0), (1, 2, 0)] (q := 194) (ls' := [(0, a), (0, b), (0, c)]) (st' := [(0, c), (0, b)]) (by decide +kernel) rfl ?_
    refine zwW_ib (a := 6) (nx := 195) (by decide +kernel) rfl ?_
    refine zwW_ret (nx := 196) (a := 0) (b := 0) (by decide +kernel) rfl (Or.inl rfl) ?_
    exact ⟨rfl, by omega, by first | (exfalso; omega) | (unfold eMs; (repeat' (first | rw [if_pos (by omega)] | rw [if_neg (by omega)])); unfold eJn eBr; (repeat' (first | rw [if_pos (by omega)] | rw [if_neg (by omega)])); all_goals (first | rfl | omega))⟩
  refine ⟨fun c38 => ?_, fun c38 => ?_⟩
  · show zwW _ _ _ 192 _ _ _ _
    refine zwW_p [(1, 1, 0), (1, 2, 0)] (q := 194) (ls' := [(0, a), (0, b), (0, c)]) (st' := [(0, c), (0, b)]) (by decide +kernel) rfl ?_
    refine zwW_ib (a := 6) (nx := 195) (by decide +kernel) rfl ?_
    refine zwW_ret (nx := 196) (a := 0) (b := 0) (by decide +kernel) rfl (Or.inl rfl) ?_
    exact ⟨rfl, by omega, by first | (exfalso; omega) | (unfold eMs; (repeat' (first | rw [if_pos (by omega)] | rw [if_neg (by omega)])); unfold eJn eBr; (repeat' (first | rw [if_pos (by omega)] | rw [if_neg (by omega)])); all_goals (first | rfl | omega))⟩
  refine ⟨fun c39 => ?_, fun c39 => ?_⟩
  · show zwW _ _ _ 192 _ _ _ _
    refine zwW_p [(1, 1, 0), (1, 2, 0)] (q := 194) (ls' := [(0, a), (0, b), (0, c)]) (st' := [(0, c), (0, b)]) (by decide +kernel) rfl ?_
    refine zwW_ib (a := 6) (nx := 195) (by decide +kernel) rfl ?_
    refine zwW_ret (nx := 196) (a := 0) (b := 0) (by decide +kernel) rfl (Or.inl rfl) ?_
    exact ⟨rfl, by omega, by first | (exfalso; omega) | (unfold eMs; (repeat' (first | rw [if_pos (by omega)] | rw [if_neg (by omega)])); unfold eJn eBr; (repeat' (first | rw [if_pos (by omega)] | rw [if_neg (by omega)])); all_goals (first | rfl | omega))⟩
  refine ⟨fun c40 => ?_, fun c40 => ?_⟩
  · show zwW _ _ _ 192 _ _ _ _
    refine zwW_p [(1, 1, 0), (1, 2, 0)] (q := 194) (ls' := [(0, a), (0, b), (0, c)]) (st' := [(0, c), (0, b)]) (by decide +kernel) rfl ?_
    refine zwW_ib (a := 6) (nx := 195) (by decide +kernel) rfl ?_
    refine zwW_ret (nx := 196) (a := 0) (b := 0) (by decide +kernel) rfl (Or.inl rfl) ?_
    exact ⟨rfl, by omega, by first | (exfalso; omega) | (unfold eMs; (repeat' (first | rw [if_pos (by omega)] | rw [if_neg (by omega)])); unfold eJn eBr; (repeat' (first | rw [if_pos (by omega)] | rw [if_neg (by omega)])); all_goals (first | rfl | omega))⟩
  refine ⟨fun c41 => ?_, fun c41 => ?_⟩
  · show zwW _ _ _ 155 _ _ _ _
    refine zwW_p [(1, 1, 0), (1, 2, 0)] (q := 157) (ls' := [(0, a), (0, b), (0, c)]) (st' := [(0, c), (0, b)]) (by decide +kernel) rfl ?_
    refine zwic_ge (q := 164) (nx := 160) (by decide +kernel) (fun c42 => ?_) (fun c42 => ?_)
    · refine zwW_p [(0, 0, 0)] (q := 165) (ls' := [(0, a), (0, b), (0, c)]) (st' := [(0, 0)]) (by decide +kernel) rfl ?_
      refine zwW_ret (nx := 166) (a := 0) (b := 0) (by decide +kernel) rfl (Or.inl rfl) ?_
      exact ⟨rfl, by omega, by first | (exfalso; omega) | (unfold eMs; (repeat' (first | rw [if_pos (by omega)] | rw [if_neg (by omega)])); unfold eJn eBr; (repeat' (first | rw [if_pos (by omega)] | rw [if_neg (by omega)])); all_goals (first | rfl | omega))⟩
    · refine zwW_p [(0, 1, 0), (24, 165, 0)] (q := 165) (ls' := [(0, a), (0, b), (0, c)]) (st' := [(0, 1)]) (by decide +kernel) rfl ?_
      refine zwW_ret (nx := 166) (a := 0) (b := 0) (by decide +kernel) rfl (Or.inl rfl) ?_
      exact ⟨rfl, by omega, by first | (exfalso; omega) | (unfold eMs; (repeat' (first | rw [if_pos (by omega)] | rw [if_neg (by omega)])); unfold eJn eBr; (repeat' (first | rw [if_pos (by omega)] | rw [if_neg (by omega)])); all_goals (first | rfl | omega))⟩
  refine ⟨fun c43 => ?_, fun c43 => ?_⟩
  · show zwW _ _ _ 177 _ _ _ _
    refine zwW_p [(1, 1, 0), (1, 2, 0)] (q := 179) (ls' := [(0, a), (0, b), (0, c)]) (st' := [(0, c), (0, b)]) (by decide +kernel) rfl ?_
    refine zwic_ne (q := 186) (nx := 182) (by decide +kernel) (fun c44 => ?_) (fun c44 => ?_)
    · refine zwW_p [(0, 0, 0)] (q := 187) (ls' := [(0, a), (0, b), (0, c)]) (st' := [(0, 0)]) (by decide +kernel) rfl ?_
      refine zwW_ret (nx := 188) (a := 0) (b := 0) (by decide +kernel) rfl (Or.inl rfl) ?_
      exact ⟨rfl, by omega, by first | (exfalso; omega) | (unfold eMs; (repeat' (first | rw [if_pos (by omega)] | rw [if_neg (by omega)])); unfold eJn eBr; (repeat' (first | rw [if_pos (by omega)] | rw [if_neg (by omega)])); all_goals (first | rfl | omega))⟩
    · refine zwW_p [(0, 1, 0), (24, 187, 0)] (q := 187) (ls' := [(0, a), (0, b), (0, c)]) (st' := [(0, 1)]) (by decide +kernel) rfl ?_
      refine zwW_ret (nx := 188) (a := 0) (b := 0) (by decide +kernel) rfl (Or.inl rfl) ?_
      exact ⟨rfl, by omega, by first | (exfalso; omega) | (unfold eMs; (repeat' (first | rw [if_pos (by omega)] | rw [if_neg (by omega)])); unfold eJn eBr; (repeat' (first | rw [if_pos (by omega)] | rw [if_neg (by omega)])); all_goals (first | rfl | omega))⟩
  refine ⟨fun c45 => ?_, fun c45 => ?_⟩
  · show zwW _ _ _ 166 _ _ _ _
    refine zwW_p [(1, 1, 0), (1, 2, 0)] (q := 168) (ls' := [(0, a), (0, b), (0, c)]) (st' := [(0, c), (0, b)]) (by decide +kernel) rfl ?_
    refine zwic_le (q := 175) (nx := 171) (by decide +kernel) (fun c46 => ?_) (fun c46 => ?_)
    · refine zwW_p [(0, 0, 0)] (q := 176) (ls' := [(0, a), (0, b), (0, c)]) (st' := [(0, 0)]) (by decide +kernel) rfl ?_
      refine zwW_ret (nx := 177) (a := 0) (b := 0) (by decide +kernel) rfl (Or.inl rfl) ?_
      exact ⟨rfl, by omega, by first | (exfalso; omega) | (unfold eMs; (repeat' (first | rw [if_pos (by omega)] | rw [if_neg (by omega)])); unfold eJn eBr; (repeat' (first | rw [if_pos (by omega)] | rw [if_neg (by omega)])); all_goals (first | rfl | omega))⟩
    · refine zwW_p [(0, 1, 0), (24, 176, 0)] (q := 176) (ls' := [(0, a), (0, b), (0, c)]) (st' := [(0, 1)]) (by decide +kernel) rfl ?_
      refine zwW_ret (nx := 177) (a := 0) (b := 0) (by decide +kernel) rfl (Or.inl rfl) ?_
      exact ⟨rfl, by omega, by first | (exfalso; omega) | (unfold eMs; (repeat' (first | rw [if_pos (by omega)] | rw [if_neg (by omega)])); unfold eJn eBr; (repeat' (first | rw [if_pos (by omega)] | rw [if_neg (by omega)])); all_goals (first | rfl | omega))⟩
  show zwW _ _ _ 192 _ _ _ _
  refine zwW_p [(1, 1, 0), (1, 2, 0)] (q := 194) (ls' := [(0, a), (0, b), (0, c)]) (st' := [(0, c), (0, b)]) (by decide +kernel) rfl ?_
  refine zwW_ib (a := 6) (nx := 195) (by decide +kernel) rfl ?_
  refine zwW_ret (nx := 196) (a := 0) (b := 0) (by decide +kernel) rfl (Or.inl rfl) ?_
  exact ⟨rfl, by omega, by first | (exfalso; omega) | (unfold eMs; (repeat' (first | rw [if_pos (by omega)] | rw [if_neg (by omega)])); unfold eJn eBr; (repeat' (first | rw [if_pos (by omega)] | rw [if_neg (by omega)])); all_goals (first | rfl | omega))⟩
def ms137_e : Zms := [(169, 169, 0, 420)]
-- WheelLandModel.tells(I)I
theorem m137_e {sc : List Int} (h : Hp) (I : zI h) (a : Int) (p1 : 0 ≤ a) (p2 : a ≤ 4) (hF : ∀ k : Nat, (k : Int) < fld h 37 53 → 0 ≤ fld h 164 k ∧ fld h 164 k < fld h 37 52) (hK : zCk h) (hN : eNs (fld h 168)) : zwC sc 3 137 [(2, 37), (0, a)] h (zwRt 0 (fun x g => zI g ∧ zMR ms137_e h g ∧ (-2147483648 ≤ x ∧ x ≤ 2147483647) ∧ (x = zTl h a (fld h 37 0) (fld h 168)))) := by
  refine zwC_of (D := 2) 7 (by decide +kernel) rfl (ls := [(2, 37), (0, a), (9, 0), (9, 0), (9, 0), (9, 0), (9, 0)]) rfl ?_
  have R : zMR ms137_e h h := zMR.rf _ _
  refine zwW_p [(1, 0, 2), (1, 1, 0), (1, 0, 2)] (q := 3) (ls' := [(2, 37), (0, a), (9, 0), (9, 0), (9, 0), (9, 0), (9, 0)]) (st' := [(2, 37), (0, a), (2, 37)]) (by decide +kernel) rfl ?_
  refine zwW_gs I (kd := 13) (bn := 0) (n := 97) (t := 0) (lo := 0) (hi := 156) (nx := 6) (by decide +kernel) ?_
  intro v1 ev1 lv1 uv1
  refine zwW_cm I (op := 60) (k' := 126) (n := 2) (kd := 13) (m := 97) (nx := 9) (r := 37) (tl := [(0, a), (0, v1)]) (st' := []) (by decide +kernel) rfl (by decide +kernel) rfl (m126_w h I a v1 (by omega) (by omega) (fun k hk => (hF k hk).2)) ?_
  rintro v2 _ ⟨rfl, f3, f4⟩
  refine zwW_p [(2, 2, 0), (1, 2, 0), (0, -1, 0)] (q := 12) (ls' := [(2, 37), (0, a), (0, v2), (9, 0), (9, 0), (9, 0), (9, 0)]) (st' := [(0, -1), (0, v2)]) (by decide +kernel) rfl ?_
  have S12 : v2 = zWn h a (fld h 37 0) := by have z := f4; rw [ev1] at z; exact z
  refine zwic_ne (q := 30) (nx := 15) (by decide +kernel) (fun c5 => ?_) (fun c5 => ?_)
  · have B30 : zWn h a (fld h 37 0) ≠ -1 := by omega
    have S30 := zWn_l hF B30
    have B52 := (I.b (a1 := 37) (a2 := 37) (j1 := 52) (j2 := 53) (lo := 0) (hi := 8) (by decide +kernel) (r := 37) (j := 52) (by decide) (by decide) (by decide) (by decide)).2
    rw [← S12] at S30
    obtain ⟨⟨L30, W30⟩, K30⟩ := hK v2 a S30.1 S30.2.1 (by omega) (by omega) S30.2.2
    have W30 := W30 _ hN
    refine zwW_p [(0, 0, 0), (2, 3, 0), (0, 0, 0), (2, 4, 0)] (q := 35) (ls' := [(2, 37), (0, a), (0, v2), (0, 0), (0, 0), (9, 0), (9, 0)]) (st' := []) (by decide +kernel) rfl ?_
    have L6 : ∀ (n0 : Nat) (dL6 kL6 : Int) (w5L6 w6L6 : Vl) (hL6 : Hp), n0 = ((1000 - kL6)).toNat → (0 ≤ kL6 ∧ kL6 ≤ fld h (155 + v2) a.toNat) → (eV hL6 169 (eRn (fld h 168) (mCc h v2 a) 0 (kL6).toNat eP0) dL6) → zI hL6 → zMR ms137_e h hL6 → zwW sc (2) 137 35 [(2, 37), (0, a), (0, v2), (0, dL6), (0, kL6), w5L6, w6L6] [] hL6 (zwRt 0 (fun x g => zI g ∧ zMR ms137_e h g ∧ (-2147483648 ≤ x ∧ x ≤ 2147483647) ∧ (x = zTl h a (fld h 37 0) (fld h 168)))) := by
      intro n0
      induction n0 using Nat.strongRecOn with
      | ind n0 IHL6 =>
        intro dL6 kL6 w5L6 w6L6 hL6 hnL6 iL6_0 iL6_1 IhL6 RhL6
        have DD := eRn_le (N := fld h 168) (c := mCc h v2 a) (kL6).toNat
        have DE := iL6_1.1
        refine zwW_p [(1, 4, 0), (1, 0, 2)] (q := 38) (ls' := [(2, 37), (0, a), (0, v2), (0, dL6), (0, kL6), w5L6, w6L6]) (st' := [(2, 37), (0, kL6)]) (by decide +kernel) rfl ?_
        refine zwW_gc IhL6 (kd := 13) (bn := 49) (n := 97) (c := 154) (nx := 41) (by decide +kernel) ?_
        refine zwW_p [(1, 2, 0)] (q := 42) (ls' := [(2, 37), (0, a), (0, v2), (0, dL6), (0, kL6), w5L6, w6L6]) (st' := [(0, v2), (2, 154), (0, kL6)]) (by decide +kernel) rfl ?_
        refine zwW_ro IhL6 (a := 154) (n := 9) (kd := 26) (base := 155) (step := 1) (nx := 43) (by decide +kernel) rfl (by first | omega | exact ⟨by omega, by omega⟩) ?_
        rw [show ((155 : Nat) : Int) + ((1 : Nat) : Int) * v2 = (155 + v2) by omega]
        refine zwW_p [(1, 1, 0)] (q := 44) (ls' := [(2, 37), (0, a), (0, v2), (0, dL6), (0, kL6), w5L6, w6L6]) (st' := [(0, a), (2, (155 + v2)), (0, kL6)]) (by decide +kernel) rfl ?_
        have ib1 : 0 ≤ a ∧ a < ((5 : Nat) : Int) := (by first | omega | exact ⟨by omega, by omega⟩)
        refine zwW_al IhL6 (a1 := 155) (a2 := 163) (kd := 20) (n := 5) (t := 0) (lo := 0) (hi := 400) (nx := 45) (by decide +kernel) (by first | omega | exact ⟨by omega, by omega⟩) ib1 ?_
        intro v7 ev7 lv7 uv7
        refine zwic_ge (q := 191) (nx := 48) (by decide +kernel) (fun c8 => ?_) (fun c8 => ?_)
        · have V191 := iL6_1
          have P191 : (kL6).toNat = (fld h (155 + v2) a.toNat).toNat := by have C191 := RhL6.f (a1 := 155) (a2 := 163) (j1 := 0) (j2 := 5) (by decide +kernel) (r := 155 + v2) (j := a.toNat) (by first | omega | exact ⟨by omega, by omega⟩) (by first | omega | exact ⟨by omega, by omega⟩); omega
          rw [P191] at V191
          have Q191 := W30.fin
          have Z191 : fld hL6 169 ((0 : Int)).toNat = _ := V191.2 0 (by omega)
          refine zwW_p [(1, 0, 2)] (q := 192) (ls' := [(2, 37), (0, a), (0, v2), (0, dL6), (0, kL6), w5L6, w6L6]) (st' := [(2, 37)]) (by decide +kernel) rfl ?_
          refine zwW_gc IhL6 (kd := 13) (bn := 57) (n := 97) (c := 169) (nx := 195) (by decide +kernel) ?_
          refine zwW_p [(0, 0, 0)] (q := 196) (ls' := [(2, 37), (0, a), (0, v2), (0, dL6), (0, kL6), w5L6, w6L6]) (st' := [(0, 0), (2, 169)]) (by decide +kernel) rfl ?_
          refine zwW_al IhL6 (a1 := 169) (a2 := 169) (kd := 20) (n := 420) (t := 0) (lo := -2147483648) (hi := 2147483647) (nx := 197) (by decide +kernel) (by first | decide | exact ⟨by decide, by decide⟩) (by first | decide | exact ⟨by decide, by decide⟩) ?_
          intro v9 ev9 lv9 uv9
          refine zwW_ret (nx := 198) (a := 0) (b := 0) (by decide +kernel) rfl (Or.inl rfl) ?_
          exact ⟨IhL6, RhL6, by omega, by first | (rw [zTl_n (by omega)]; first | rw [if_pos (by omega)] | rw [if_neg (by omega)]) | (rw [zTl_y B30, ← S12]; omega)⟩
        · have C48 := RhL6.f (a1 := 155) (a2 := 163) (j1 := 0) (j2 := 5) (by decide +kernel) (r := 155 + v2) (j := a.toNat) (by first | omega | exact ⟨by omega, by omega⟩) (by first | omega | exact ⟨by omega, by omega⟩)
          refine zwW_p [(1, 0, 2)] (q := 49) (ls' := [(2, 37), (0, a), (0, v2), (0, dL6), (0, kL6), w5L6, w6L6]) (st' := [(2, 37)]) (by decide +kernel) rfl ?_
          refine zwW_gc IhL6 (kd := 13) (bn := 48) (n := 97) (c := 99) (nx := 52) (by decide +kernel) ?_
          refine zwW_p [(1, 2, 0)] (q := 53) (ls' := [(2, 37), (0, a), (0, v2), (0, dL6), (0, kL6), w5L6, w6L6]) (st' := [(0, v2), (2, 99)]) (by decide +kernel) rfl ?_
          refine zwW_ro IhL6 (a := 99) (n := 9) (kd := 27) (base := 100) (step := 6) (nx := 54) (by decide +kernel) rfl (by first | omega | exact ⟨by omega, by omega⟩) ?_
          rw [show ((100 : Nat) : Int) + ((6 : Nat) : Int) * v2 = (100 + 6 * v2) by omega]
          refine zwW_p [(1, 1, 0)] (q := 55) (ls' := [(2, 37), (0, a), (0, v2), (0, dL6), (0, kL6), w5L6, w6L6]) (st' := [(0, a), (2, (100 + 6 * v2))]) (by decide +kernel) rfl ?_
          refine zwW_ro2 IhL6 (s := v2) (nx := 56) (by decide +kernel) (by omega) (by first | omega | exact ⟨by omega, by omega⟩) (by first | omega | exact ⟨by omega, by omega⟩) ?_
          refine zwW_p [(0, 2, 0), (1, 4, 0)] (q := 59) (ls' := [(2, 37), (0, a), (0, v2), (0, dL6), (0, kL6), w5L6, w6L6]) (st' := [(0, kL6), (0, 2), (2, (101 + 6 * v2 + a))]) (by decide +kernel) rfl ?_
          refine zwW_mul (nx := 60) (by decide +kernel) (by first | omega | exact ⟨by omega, by omega⟩) ?_
          refine zwW_al3 IhL6 (s := v2) (c := a) (nx := 61) (by decide +kernel) rfl (by first | omega | exact ⟨by omega, by omega⟩) (by first | omega | exact ⟨by omega, by omega⟩) (by first | omega | exact ⟨by omega, by omega⟩) ?_
          intro v10 ev10 lv10 uv10
          refine zwW_p [(2, 5, 0), (1, 0, 2)] (q := 64) (ls' := [(2, 37), (0, a), (0, v2), (0, dL6), (0, kL6), (0, v10), w6L6]) (st' := [(2, 37)]) (by decide +kernel) rfl ?_
          refine zwW_gc IhL6 (kd := 13) (bn := 48) (n := 97) (c := 99) (nx := 67) (by decide +kernel) ?_
          refine zwW_p [(1, 2, 0)] (q := 68) (ls' := [(2, 37), (0, a), (0, v2), (0, dL6), (0, kL6), (0, v10), w6L6]) (st' := [(0, v2), (2, 99)]) (by decide +kernel) rfl ?_
          refine zwW_ro IhL6 (a := 99) (n := 9) (kd := 27) (base := 100) (step := 6) (nx := 69) (by decide +kernel) rfl (by first | omega | exact ⟨by omega, by omega⟩) ?_
          rw [show ((100 : Nat) : Int) + ((6 : Nat) : Int) * v2 = (100 + 6 * v2) by omega]
          refine zwW_p [(1, 1, 0)] (q := 70) (ls' := [(2, 37), (0, a), (0, v2), (0, dL6), (0, kL6), (0, v10), w6L6]) (st' := [(0, a), (2, (100 + 6 * v2))]) (by decide +kernel) rfl ?_
          refine zwW_ro2 IhL6 (s := v2) (nx := 71) (by decide +kernel) (by omega) (by first | omega | exact ⟨by omega, by omega⟩) (by first | omega | exact ⟨by omega, by omega⟩) ?_
          refine zwW_p [(0, 2, 0), (1, 4, 0)] (q := 74) (ls' := [(2, 37), (0, a), (0, v2), (0, dL6), (0, kL6), (0, v10), w6L6]) (st' := [(0, kL6), (0, 2), (2, (101 + 6 * v2 + a))]) (by decide +kernel) rfl ?_
          refine zwW_mul (nx := 75) (by decide +kernel) (by first | omega | exact ⟨by omega, by omega⟩) ?_
          refine zwW_p [(0, 1, 0)] (q := 76) (ls' := [(2, 37), (0, a), (0, v2), (0, dL6), (0, kL6), (0, v10), w6L6]) (st' := [(0, 1), (0, (2 * kL6)), (2, (101 + 6 * v2 + a))]) (by decide +kernel) rfl ?_
          refine zwW_add (nx := 77) (by decide +kernel) (by first | omega | exact ⟨by omega, by omega⟩) ?_
          refine zwW_al3 IhL6 (s := v2) (c := a) (nx := 78) (by decide +kernel) rfl (by first | omega | exact ⟨by omega, by omega⟩) (by first | omega | exact ⟨by omega, by omega⟩) (by first | omega | exact ⟨by omega, by omega⟩) ?_
          intro v11 ev11 lv11 uv11
          refine zwW_p [(2, 6, 0)] (q := 80) (ls' := [(2, 37), (0, a), (0, v2), (0, dL6), (0, kL6), (0, v10), (0, v11)]) (st' := []) (by decide +kernel) rfl ?_
          have F80 : ∀ j : Nat, j < 840 → fld hL6 (101 + 6 * v2 + a) j = fld h (101 + 6 * v2 + a) j := fun j hj => RhL6.f (a1 := 101) (a2 := 153) (j1 := 0) (j2 := 840) (by decide +kernel) (by first | omega | exact ⟨by omega, by omega⟩) (by first | omega | exact ⟨by omega, by omega⟩)
          have N80 : ∀ j : Nat, j < 13 → fld hL6 168 j = fld h 168 j := fun j hj => RhL6.f (a1 := 168) (a2 := 168) (j1 := 0) (j2 := 13) (by decide +kernel) (by first | omega | exact ⟨by omega, by omega⟩) (by first | omega | exact ⟨by omega, by omega⟩)
          have G1 : fld h (101 + 6 * v2 + a) (2 * (kL6).toNat) = v10 := by rw [← F80 _ (by omega), show 2 * (kL6).toNat = (2 * kL6).toNat by omega]; omega
          have G2 : fld h (101 + 6 * v2 + a) (2 * (kL6).toNat + 1) = v11 := by rw [← F80 _ (by omega), show 2 * (kL6).toNat + 1 = (2 * kL6 + 1).toNat by omega]; omega
          have O80 := W30.ok (m := (kL6).toNat) (by omega)
          have M80 := (K30 (kL6).toNat (by omega)).op
          rw [G1, G2] at M80
          have E80 : mCc h v2 a (kL6).toNat = eEn v10 v11 := by unfold mCc; rw [G1, G2]
          rw [E80] at O80
          refine zwW_p [(1, 5, 0), (0, 110, 0)] (q := 84) (ls' := [(2, 37), (0, a), (0, v2), (0, dL6), (0, kL6), (0, v10), (0, v11)]) (st' := [(0, 110), (0, v10)]) (by decide +kernel) rfl ?_
          refine zwic_eq (q := 94) (nx := 87) (by decide +kernel) (fun c12 => ?_) (fun c12 => ?_)
          · refine zwW_p [(1, 0, 2)] (q := 95) (ls' := [(2, 37), (0, a), (0, v2), (0, dL6), (0, kL6), (0, v10), (0, v11)]) (st' := [(2, 37)]) (by decide +kernel) rfl ?_
            refine zwW_gc IhL6 (kd := 13) (bn := 57) (n := 97) (c := 169) (nx := 98) (by decide +kernel) ?_
            refine zwW_p [(1, 3, 0), (1, 5, 0), (0, 110, 0)] (q := 103) (ls' := [(2, 37), (0, a), (0, v2), (0, dL6), (0, kL6), (0, v10), (0, v11)]) (st' := [(0, 110), (0, v10), (0, dL6), (2, 169)]) (by decide +kernel) rfl ?_
            refine zwic_ne (q := 111) (nx := 106) (by decide +kernel) (fun c13 => ?_) (fun c13 => ?_)
            · exfalso; omega
            · refine zwW_p [(1, 6, 0), (24, 118, 0)] (q := 118) (ls' := [(2, 37), (0, a), (0, v2), (0, dL6), (0, kL6), (0, v10), (0, v11)]) (st' := [(0, v11), (0, dL6), (2, 169)]) (by decide +kernel) rfl ?_
              have ib2 : 0 ≤ dL6 ∧ dL6 < ((420 : Nat) : Int) := (by first | omega | exact ⟨by omega, by omega⟩)
              refine zwW_as IhL6 (a1 := 169) (a2 := 169) (n := 420) (lo := -2147483648) (hi := 2147483647) (nx := 119) (by decide +kernel) (by first | decide | exact ⟨by decide, by decide⟩) ib2 (by first | omega | exact ⟨by omega, by omega⟩) ?_
              intro h14 eh14 Ih14
              have jbh14 : 0 ≤ dL6.toNat ∧ dL6.toNat < 420 := ⟨Nat.zero_le _, zit ib2⟩
              have VB : eV h14 169 (eRn (fld h 168) (mCc h v2 a) 0 (kL6 + 1).toNat eP0) (dL6 + 1) := by
                rw [show (kL6 + 1).toNat = (kL6).toNat + 1 by omega, eRn_s, E80]
                first
                | exact iL6_1.num eh14 (IhL6.s (a1 := 169) (a2 := 169) (k := 20) (n := 420) (by decide +kernel) (by decide) (by decide)) rfl (by omega) (by rw [eEq_n (by omega)]; exact M80.nn (by omega)) (by rw [eEq_n (by omega)])
                | exact iL6_1.nam eh14 (IhL6.s (a1 := 169) (a2 := 169) (k := 20) (n := 420) (by decide +kernel) (by decide) (by decide)) rfl (by omega) (by rw [eEq_v (by omega)]; have := M80.v (by omega); omega) (by rw [eEq_v (by omega), show (-1 - (-1 - v11)).toNat = (v11).toNat by omega, ← N80 _ (by have := M80.v (by omega); omega)]; assumption)
              have Rh14 : zMR ms137_e h h14 := RhL6.w (a1 := 169) (a2 := 169) (j1 := 0) (j2 := 420) (by decide +kernel) (by first | decide | exact ⟨by decide, by decide⟩) jbh14 eh14
              refine zwW_inc (i := 3) (c := 1) (x := dL6) (nx := 122) (by decide +kernel) rfl (by first | omega | exact ⟨by omega, by omega⟩) (ls' := [(2, 37), (0, a), (0, v2), (0, (dL6 + 1)), (0, kL6), (0, v10), (0, v11)]) rfl ?_
              refine zwW_p [(24, 185, 0)] (q := 185) (ls' := [(2, 37), (0, a), (0, v2), (0, (dL6 + 1)), (0, kL6), (0, v10), (0, v11)]) (st' := []) (by decide +kernel) rfl ?_
              refine zwW_inc (i := 4) (c := 1) (x := kL6) (nx := 188) (by decide +kernel) rfl (by first | omega | exact ⟨by omega, by omega⟩) (ls' := [(2, 37), (0, a), (0, v2), (0, (dL6 + 1)), (0, (kL6 + 1)), (0, v10), (0, v11)]) rfl ?_
              refine zwW_p [(24, 35, 0)] (q := 35) (ls' := [(2, 37), (0, a), (0, v2), (0, (dL6 + 1)), (0, (kL6 + 1)), (0, v10), (0, v11)]) (st' := []) (by decide +kernel) rfl ?_
              exact IHL6 ((1000 - (kL6 + 1))).toNat (by omega) (dL6 + 1) (kL6 + 1) (0, v10) (0, v11) h14 rfl (by omega) (VB) Ih14 Rh14
          · refine zwW_p [(1, 5, 0), (0, 118, 0)] (q := 91) (ls' := [(2, 37), (0, a), (0, v2), (0, dL6), (0, kL6), (0, v10), (0, v11)]) (st' := [(0, 118), (0, v10)]) (by decide +kernel) rfl ?_
            refine zwic_ne (q := 125) (nx := 94) (by decide +kernel) (fun c15 => ?_) (fun c15 => ?_)
            · refine zwW_p [(1, 5, 0), (0, 33, 0)] (q := 129) (ls' := [(2, 37), (0, a), (0, v2), (0, dL6), (0, kL6), (0, v10), (0, v11)]) (st' := [(0, 33), (0, v10)]) (by decide +kernel) rfl ?_
              refine zwic_ne (q := 153) (nx := 132) (by decide +kernel) (fun c16 => ?_) (fun c16 => ?_)
              · have B153 := M80.b (by omega) (by omega) (by omega)
                have Y153 := eEn_m (v := v11) B153
                clear B153
                have T153 := O80
                rw [Y153.1] at T153
                have T153 := T153.bin (by first | omega | exact ⟨by omega, by omega⟩)
                have D153 := T153.1
                have A153 := iL6_1.t2 T153.1
                have C153 := iL6_1.t1 (by omega)
                refine zwW_p [(1, 0, 2)] (q := 154) (ls' := [(2, 37), (0, a), (0, v2), (0, dL6), (0, kL6), (0, v10), (0, v11)]) (st' := [(2, 37)]) (by decide +kernel) rfl ?_
                refine zwW_gc IhL6 (kd := 13) (bn := 57) (n := 97) (c := 169) (nx := 157) (by decide +kernel) ?_
                refine zwW_p [(1, 3, 0), (0, 2, 0)] (q := 159) (ls' := [(2, 37), (0, a), (0, v2), (0, dL6), (0, kL6), (0, v10), (0, v11)]) (st' := [(0, 2), (0, dL6), (2, 169)]) (by decide +kernel) rfl ?_
                refine zwW_sub (nx := 160) (by decide +kernel) (by first | omega | exact ⟨by omega, by omega⟩) ?_
                refine zwW_p [(1, 5, 0), (1, 0, 2)] (q := 163) (ls' := [(2, 37), (0, a), (0, v2), (0, dL6), (0, kL6), (0, v10), (0, v11)]) (st' := [(2, 37), (0, v10), (0, (dL6 - 2)), (2, 169)]) (by decide +kernel) rfl ?_
                refine zwW_gc IhL6 (kd := 13) (bn := 57) (n := 97) (c := 169) (nx := 166) (by decide +kernel) ?_
                refine zwW_p [(1, 3, 0), (0, 2, 0)] (q := 168) (ls' := [(2, 37), (0, a), (0, v2), (0, dL6), (0, kL6), (0, v10), (0, v11)]) (st' := [(0, 2), (0, dL6), (2, 169), (0, v10), (0, (dL6 - 2)), (2, 169)]) (by decide +kernel) rfl ?_
                refine zwW_sub (nx := 169) (by decide +kernel) (by first | omega | exact ⟨by omega, by omega⟩) ?_
                have ib3 : 0 ≤ (dL6 - 2) ∧ (dL6 - 2) < ((420 : Nat) : Int) := (by first | omega | exact ⟨by omega, by omega⟩)
                refine zwW_al IhL6 (a1 := 169) (a2 := 169) (kd := 20) (n := 420) (t := 0) (lo := -2147483648) (hi := 2147483647) (nx := 170) (by decide +kernel) (by first | decide | exact ⟨by decide, by decide⟩) ib3 ?_
                intro v17 ev17 lv17 uv17
                refine zwW_p [(1, 0, 2)] (q := 171) (ls' := [(2, 37), (0, a), (0, v2), (0, dL6), (0, kL6), (0, v10), (0, v11)]) (st' := [(2, 37), (0, v17), (0, v10), (0, (dL6 - 2)), (2, 169)]) (by decide +kernel) rfl ?_
                refine zwW_gc IhL6 (kd := 13) (bn := 57) (n := 97) (c := 169) (nx := 174) (by decide +kernel) ?_
                refine zwW_p [(1, 3, 0), (0, 1, 0)] (q := 176) (ls' := [(2, 37), (0, a), (0, v2), (0, dL6), (0, kL6), (0, v10), (0, v11)]) (st' := [(0, 1), (0, dL6), (2, 169), (0, v17), (0, v10), (0, (dL6 - 2)), (2, 169)]) (by decide +kernel) rfl ?_
                refine zwW_sub (nx := 177) (by decide +kernel) (by first | omega | exact ⟨by omega, by omega⟩) ?_
                have ib4 : 0 ≤ (dL6 - 1) ∧ (dL6 - 1) < ((420 : Nat) : Int) := (by first | omega | exact ⟨by omega, by omega⟩)
                refine zwW_al IhL6 (a1 := 169) (a2 := 169) (kd := 20) (n := 420) (t := 0) (lo := -2147483648) (hi := 2147483647) (nx := 178) (by decide +kernel) (by first | decide | exact ⟨by decide, by decide⟩) ib4 ?_
                intro v18 ev18 lv18 uv18
                refine zwW_cs (k' := 209) (n := 3) (nx := 181) (as := [(0, v10), (0, v17), (0, v18)]) (st' := [(0, (dL6 - 2)), (2, 169)]) (by decide +kernel) rfl (m209_e hL6 v10 v17 v18 (by omega) (by omega) (M80.b (by omega) (by omega) (by omega)) (by rw [ev17, A153]; exact T153.2.1.1) (by rw [ev18, C153]; exact T153.2.1.2)) rfl ?_
                rintro v19 _ ⟨rfl, f20, f21⟩
                refine zwW_as IhL6 (a1 := 169) (a2 := 169) (n := 420) (lo := -2147483648) (hi := 2147483647) (nx := 182) (by decide +kernel) (by first | decide | exact ⟨by decide, by decide⟩) ib3 (by first | omega | exact ⟨by omega, by omega⟩) ?_
                intro h22 eh22 Ih22
                have jbh22 : 0 ≤ (dL6 - 2).toNat ∧ (dL6 - 2).toNat < 420 := ⟨Nat.zero_le _, zit ib3⟩
                have VB : eV h22 169 (eRn (fld h 168) (mCc h v2 a) 0 (kL6 + 1).toNat eP0) (dL6 + (-1)) := by
                  rw [show (kL6 + 1).toNat = (kL6).toNat + 1 by omega, eRn_s, E80]
                  rw [Y153.1, show dL6 + (-1) = dL6 - 1 by omega]
                  exact iL6_1.bin eh22 (IhL6.s (a1 := 169) (a2 := 169) (k := 20) (n := 420) (by decide +kernel) (by decide) (by decide)) rfl (by omega) T153.1 (by first | omega | exact ⟨by omega, by omega⟩) (by rw [Int.neg_neg, ← ev17, ← ev18]; assumption)
                have Rh22 : zMR ms137_e h h22 := RhL6.w (a1 := 169) (a2 := 169) (j1 := 0) (j2 := 420) (by decide +kernel) (by first | decide | exact ⟨by decide, by decide⟩) jbh22 eh22
                refine zwW_inc (i := 3) (c := -1) (x := dL6) (nx := 185) (by decide +kernel) rfl (by first | omega | exact ⟨by omega, by omega⟩) (ls' := [(2, 37), (0, a), (0, v2), (0, (dL6 + (-1))), (0, kL6), (0, v10), (0, v11)]) rfl ?_
                refine zwW_inc (i := 4) (c := 1) (x := kL6) (nx := 188) (by decide +kernel) rfl (by first | omega | exact ⟨by omega, by omega⟩) (ls' := [(2, 37), (0, a), (0, v2), (0, (dL6 + (-1))), (0, (kL6 + 1)), (0, v10), (0, v11)]) rfl ?_
                refine zwW_p [(24, 35, 0)] (q := 35) (ls' := [(2, 37), (0, a), (0, v2), (0, (dL6 + (-1))), (0, (kL6 + 1)), (0, v10), (0, v11)]) (st' := []) (by decide +kernel) rfl ?_
                exact IHL6 ((1000 - (kL6 + 1))).toNat (by omega) (dL6 + (-1)) (kL6 + 1) (0, v10) (0, v11) h22 rfl (by omega) (VB) Ih22 Rh22
              · have T132 := O80
                rw [eEq_x (by omega)] at T132
                have T132 := T132.not
                have D132 := T132.1
                refine zwW_p [(1, 0, 2)] (q := 133) (ls' := [(2, 37), (0, a), (0, v2), (0, dL6), (0, kL6), (0, v10), (0, v11)]) (st' := [(2, 37)]) (by decide +kernel) rfl ?_
                refine zwW_gc IhL6 (kd := 13) (bn := 57) (n := 97) (c := 169) (nx := 136) (by decide +kernel) ?_
                refine zwW_p [(1, 3, 0), (0, 1, 0)] (q := 138) (ls' := [(2, 37), (0, a), (0, v2), (0, dL6), (0, kL6), (0, v10), (0, v11)]) (st' := [(0, 1), (0, dL6), (2, 169)]) (by decide +kernel) rfl ?_
                refine zwW_sub (nx := 139) (by decide +kernel) (by first | omega | exact ⟨by omega, by omega⟩) ?_
                refine zwW_p [(0, 1, 0), (1, 0, 2)] (q := 141) (ls' := [(2, 37), (0, a), (0, v2), (0, dL6), (0, kL6), (0, v10), (0, v11)]) (st' := [(2, 37), (0, 1), (0, (dL6 - 1)), (2, 169)]) (by decide +kernel) rfl ?_
                refine zwW_gc IhL6 (kd := 13) (bn := 57) (n := 97) (c := 169) (nx := 144) (by decide +kernel) ?_
                refine zwW_p [(1, 3, 0), (0, 1, 0)] (q := 146) (ls' := [(2, 37), (0, a), (0, v2), (0, dL6), (0, kL6), (0, v10), (0, v11)]) (st' := [(0, 1), (0, dL6), (2, 169), (0, 1), (0, (dL6 - 1)), (2, 169)]) (by decide +kernel) rfl ?_
                refine zwW_sub (nx := 147) (by decide +kernel) (by first | omega | exact ⟨by omega, by omega⟩) ?_
                have ib5 : 0 ≤ (dL6 - 1) ∧ (dL6 - 1) < ((420 : Nat) : Int) := (by first | omega | exact ⟨by omega, by omega⟩)
                refine zwW_al IhL6 (a1 := 169) (a2 := 169) (kd := 20) (n := 420) (t := 0) (lo := -2147483648) (hi := 2147483647) (nx := 148) (by decide +kernel) (by first | decide | exact ⟨by decide, by decide⟩) ib5 ?_
                intro v23 ev23 lv23 uv23
                refine zwW_sbw (nx := 149) (by decide +kernel) ?_
                intro v24 ev24 lv24 uv24
                refine zwW_as IhL6 (a1 := 169) (a2 := 169) (n := 420) (lo := -2147483648) (hi := 2147483647) (nx := 150) (by decide +kernel) (by first | decide | exact ⟨by decide, by decide⟩) ib5 (by first | omega | exact ⟨by omega, by omega⟩) ?_
                intro h25 eh25 Ih25
                have jbh25 : 0 ≤ (dL6 - 1).toNat ∧ (dL6 - 1).toNat < 420 := ⟨Nat.zero_le _, zit ib5⟩
                have VB : eV h25 169 (eRn (fld h 168) (mCc h v2 a) 0 (kL6 + 1).toNat eP0) dL6 := by
                  rw [show (kL6 + 1).toNat = (kL6).toNat + 1 by omega, eRn_s, E80]
                  have B149 : fld hL6 169 (dL6 - 1).toNat = 0 ∨ fld hL6 169 (dL6 - 1).toNat = 1 := by rw [iL6_1.t1 T132.1]; exact T132.2
                  exact iL6_1.not eh25 (IhL6.s (a1 := 169) (a2 := 169) (k := 20) (n := 420) (by decide +kernel) (by decide) (by decide)) rfl (by omega) T132.1 (eEq_x (by omega)) (by rw [ev24]; unfold w32; omega)
                have Rh25 : zMR ms137_e h h25 := RhL6.w (a1 := 169) (a2 := 169) (j1 := 0) (j2 := 420) (by decide +kernel) (by first | decide | exact ⟨by decide, by decide⟩) jbh25 eh25
                refine zwW_p [(24, 185, 0)] (q := 185) (ls' := [(2, 37), (0, a), (0, v2), (0, dL6), (0, kL6), (0, v10), (0, v11)]) (st' := []) (by decide +kernel) rfl ?_
                refine zwW_inc (i := 4) (c := 1) (x := kL6) (nx := 188) (by decide +kernel) rfl (by first | omega | exact ⟨by omega, by omega⟩) (ls' := [(2, 37), (0, a), (0, v2), (0, dL6), (0, (kL6 + 1)), (0, v10), (0, v11)]) rfl ?_
                refine zwW_p [(24, 35, 0)] (q := 35) (ls' := [(2, 37), (0, a), (0, v2), (0, dL6), (0, (kL6 + 1)), (0, v10), (0, v11)]) (st' := []) (by decide +kernel) rfl ?_
                exact IHL6 ((1000 - (kL6 + 1))).toNat (by omega) dL6 (kL6 + 1) (0, v10) (0, v11) h25 rfl (by omega) (VB) Ih25 Rh25
            · refine zwW_p [(1, 0, 2)] (q := 95) (ls' := [(2, 37), (0, a), (0, v2), (0, dL6), (0, kL6), (0, v10), (0, v11)]) (st' := [(2, 37)]) (by decide +kernel) rfl ?_
              refine zwW_gc IhL6 (kd := 13) (bn := 57) (n := 97) (c := 169) (nx := 98) (by decide +kernel) ?_
              refine zwW_p [(1, 3, 0), (1, 5, 0), (0, 110, 0)] (q := 103) (ls' := [(2, 37), (0, a), (0, v2), (0, dL6), (0, kL6), (0, v10), (0, v11)]) (st' := [(0, 110), (0, v10), (0, dL6), (2, 169)]) (by decide +kernel) rfl ?_
              refine zwic_ne (q := 111) (nx := 106) (by decide +kernel) (fun c26 => ?_) (fun c26 => ?_)
              · have V111 := M80.v (by omega)
                refine zwW_p [(1, 0, 2)] (q := 112) (ls' := [(2, 37), (0, a), (0, v2), (0, dL6), (0, kL6), (0, v10), (0, v11)]) (st' := [(2, 37), (0, dL6), (2, 169)]) (by decide +kernel) rfl ?_
                refine zwW_gc IhL6 (kd := 13) (bn := 56) (n := 97) (c := 168) (nx := 115) (by decide +kernel) ?_
                refine zwW_p [(1, 6, 0)] (q := 117) (ls' := [(2, 37), (0, a), (0, v2), (0, dL6), (0, kL6), (0, v10), (0, v11)]) (st' := [(0, v11), (2, 168), (0, dL6), (2, 169)]) (by decide +kernel) rfl ?_
                have ib6 : 0 ≤ v11 ∧ v11 < ((13 : Nat) : Int) := (by first | omega | exact ⟨by omega, by omega⟩)
                refine zwW_al IhL6 (a1 := 168) (a2 := 168) (kd := 20) (n := 13) (t := 0) (lo := -2147483648) (hi := 2147483647) (nx := 118) (by decide +kernel) (by first | decide | exact ⟨by decide, by decide⟩) ib6 ?_
                intro v27 ev27 lv27 uv27
                have ib7 : 0 ≤ dL6 ∧ dL6 < ((420 : Nat) : Int) := (by first | omega | exact ⟨by omega, by omega⟩)
                refine zwW_as IhL6 (a1 := 169) (a2 := 169) (n := 420) (lo := -2147483648) (hi := 2147483647) (nx := 119) (by decide +kernel) (by first | decide | exact ⟨by decide, by decide⟩) ib7 (by first | omega | exact ⟨by omega, by omega⟩) ?_
                intro h28 eh28 Ih28
                have jbh28 : 0 ≤ dL6.toNat ∧ dL6.toNat < 420 := ⟨Nat.zero_le _, zit ib7⟩
                have VB : eV h28 169 (eRn (fld h 168) (mCc h v2 a) 0 (kL6 + 1).toNat eP0) (dL6 + 1) := by
                  rw [show (kL6 + 1).toNat = (kL6).toNat + 1 by omega, eRn_s, E80]
                  first
                  | exact iL6_1.num eh28 (IhL6.s (a1 := 169) (a2 := 169) (k := 20) (n := 420) (by decide +kernel) (by decide) (by decide)) rfl (by omega) (by rw [eEq_n (by omega)]; exact M80.nn (by omega)) (by rw [eEq_n (by omega)])
                  | exact iL6_1.nam eh28 (IhL6.s (a1 := 169) (a2 := 169) (k := 20) (n := 420) (by decide +kernel) (by decide) (by decide)) rfl (by omega) (by rw [eEq_v (by omega)]; have := M80.v (by omega); omega) (by rw [eEq_v (by omega), show (-1 - (-1 - v11)).toNat = (v11).toNat by omega, ← N80 _ (by have := M80.v (by omega); omega)]; assumption)
                have Rh28 : zMR ms137_e h h28 := RhL6.w (a1 := 169) (a2 := 169) (j1 := 0) (j2 := 420) (by decide +kernel) (by first | decide | exact ⟨by decide, by decide⟩) jbh28 eh28
                refine zwW_inc (i := 3) (c := 1) (x := dL6) (nx := 122) (by decide +kernel) rfl (by first | omega | exact ⟨by omega, by omega⟩) (ls' := [(2, 37), (0, a), (0, v2), (0, (dL6 + 1)), (0, kL6), (0, v10), (0, v11)]) rfl ?_
                refine zwW_p [(24, 185, 0)] (q := 185) (ls' := [(2, 37), (0, a), (0, v2), (0, (dL6 + 1)), (0, kL6), (0, v10), (0, v11)]) (st' := []) (by decide +kernel) rfl ?_
                refine zwW_inc (i := 4) (c := 1) (x := kL6) (nx := 188) (by decide +kernel) rfl (by first | omega | exact ⟨by omega, by omega⟩) (ls' := [(2, 37), (0, a), (0, v2), (0, (dL6 + 1)), (0, (kL6 + 1)), (0, v10), (0, v11)]) rfl ?_
                refine zwW_p [(24, 35, 0)] (q := 35) (ls' := [(2, 37), (0, a), (0, v2), (0, (dL6 + 1)), (0, (kL6 + 1)), (0, v10), (0, v11)]) (st' := []) (by decide +kernel) rfl ?_
                exact IHL6 ((1000 - (kL6 + 1))).toNat (by omega) (dL6 + 1) (kL6 + 1) (0, v10) (0, v11) h28 rfl (by omega) (VB) Ih28 Rh28
              · exfalso; omega
    exact L6 _ 0 0 (9, 0) (9, 0) h rfl (by omega) (eV_0) I R
  · refine zwW_p [(1, 1, 0)] (q := 16) (ls' := [(2, 37), (0, a), (0, v2), (9, 0), (9, 0), (9, 0), (9, 0)]) (st' := [(0, a)]) (by decide +kernel) rfl ?_
    refine zwif_eq (q := 24) (nx := 19) (by decide +kernel) (fun c29 => ?_) (fun c29 => ?_)
    · refine zwW_p [(0, 0, 0), (24, 29, 0)] (q := 29) (ls' := [(2, 37), (0, a), (0, v2), (9, 0), (9, 0), (9, 0), (9, 0)]) (st' := [(0, 0)]) (by decide +kernel) rfl ?_
      refine zwW_ret (nx := 30) (a := 0) (b := 0) (by decide +kernel) rfl (Or.inl rfl) ?_
      exact ⟨I, R, by omega, by first | (rw [zTl_n (by omega)]; first | rw [if_pos (by omega)] | rw [if_neg (by omega)]) | (rw [zTl_y B30, ← S12]; omega)⟩
    · refine zwW_p [(1, 1, 0), (0, 2, 0)] (q := 21) (ls' := [(2, 37), (0, a), (0, v2), (9, 0), (9, 0), (9, 0), (9, 0)]) (st' := [(0, 2), (0, a)]) (by decide +kernel) rfl ?_
      refine zwic_ne (q := 28) (nx := 24) (by decide +kernel) (fun c30 => ?_) (fun c30 => ?_)
      · refine zwW_p [(0, 1, 0)] (q := 29) (ls' := [(2, 37), (0, a), (0, v2), (9, 0), (9, 0), (9, 0), (9, 0)]) (st' := [(0, 1)]) (by decide +kernel) rfl ?_
        refine zwW_ret (nx := 30) (a := 0) (b := 0) (by decide +kernel) rfl (Or.inl rfl) ?_
        exact ⟨I, R, by omega, by first | (rw [zTl_n (by omega)]; first | rw [if_pos (by omega)] | rw [if_neg (by omega)]) | (rw [zTl_y B30, ← S12]; omega)⟩
      · refine zwW_p [(0, 0, 0), (24, 29, 0)] (q := 29) (ls' := [(2, 37), (0, a), (0, v2), (9, 0), (9, 0), (9, 0), (9, 0)]) (st' := [(0, 0)]) (by decide +kernel) rfl ?_
        refine zwW_ret (nx := 30) (a := 0) (b := 0) (by decide +kernel) rfl (Or.inl rfl) ?_
        exact ⟨I, R, by omega, by first | (rw [zTl_n (by omega)]; first | rw [if_pos (by omega)] | rw [if_neg (by omega)]) | (rw [zTl_y B30, ← S12]; omega)⟩
end
section
/-! contracts of the class -/
-- WheelLand$Rules.joined(IJJ)I
theorem x256_e {sc : List Int} (h : Hp) (C : CI h) (a b c : Int) (q_a : -2147483648 ≤ a ∧ a ≤ 2147483647) (q_b : -2147483648 ≤ b ∧ b ≤ 2147483647) (q_c : -2147483648 ≤ c ∧ c ≤ 2147483647) (pa : a = 18 ∨ a = 19 ∨ a = 42 ∨ a = 43 ∨ a = 45 ∨ a = 47 ∨ a = 60 ∨ a = 61 ∨ a = 62) (pb : eNum b ∧ eNum c) (pz : (a = 18 ∨ a = 19) → eBit b ∧ eBit c) : zwC sc 1 256 [(0, a), (1, b), (1, c)] h (zwRt 0 (fun x g => h = g ∧ (-2147483648 ≤ x ∧ x ≤ 2147483647) ∧ (x = eJn a b c))) := by
  refine zwC_of (D := 0) 7 (by decide +kernel) rfl (ls := [(0, a), (1, b), (9, 0), (1, c), (9, 0), (9, 0), (9, 0)]) rfl ?_
  have W1 := w64_mul pb.1 pb.2
  have W2 := tdiv_n (b := c) pb.1
  have W4 : w64 (b.tdiv c) = b.tdiv c := by unfold eNum at W2; unfold w64; omega
  have pb1 := pb.1
  have pb2 := pb.2
  unfold eNum at pb1 pb2 W2
  refine zwW_p [(0, 0, 1), (2, 5, 1), (1, 0, 0)] (q := 4) (ls' := [(0, a), (1, b), (9, 0), (1, c), (9, 0), (1, 0), (9, 0)]) (st' := [(0, a)]) (by decide +kernel) rfl ?_
  refine zwW_sw (d := 194) (os := [18, 178, 19, 186, 42, 104, 43, 88, 45, 96, 47, 112, 60, 130, 61, 162, 62, 146]) (by decide +kernel) ?_
  refine ⟨fun c1 => ?_, fun c1 => ?_⟩
  · show zwW _ _ _ 178 _ _ _ _
    refine zwW_p [(1, 1, 1), (1, 3, 1)] (q := 180) (ls' := [(0, a), (1, b), (9, 0), (1, c), (9, 0), (1, 0), (9, 0)]) (st' := [(1, c), (1, b)]) (by decide +kernel) rfl ?_
    refine zwW_lb (a := 6) (nx := 181) (z := l_or b c) (by decide +kernel) (rfl) ?_
    obtain ⟨v2, ev2⟩ : ∃ z, z = l_or b c := ⟨_, rfl⟩
    rw [← ev2]
    have E181 : v2 = i_or b c ∧ (v2 = 0 ∨ v2 = 1) := l_or_b (pz (Or.inl (by omega))).1 (pz (Or.inl (by omega))).2 ev2
    clear ev2
    refine zwW_p [(2, 5, 1), (24, 194, 0), (1, 5, 1), (0, 1000000, 1)] (q := 199) (ls' := [(0, a), (1, b), (9, 0), (1, c), (9, 0), (1, v2), (9, 0)]) (st' := [(1, 1000000), (1, v2)]) (by decide +kernel) rfl ?_
    refine zwW_lmin (nx := 202) (by decide +kernel) rfl ?_
    intro v3 ev3
    refine zwW_p [(0, -1000000, 1)] (q := 205) (ls' := [(0, a), (1, b), (9, 0), (1, c), (9, 0), (1, v2), (9, 0)]) (st' := [(1, -1000000), (1, v3)]) (by decide +kernel) rfl ?_
    refine zwW_lmax (nx := 208) (by decide +kernel) rfl ?_
    intro v4 ev4
    refine zwW_l2i (nx := 209) (by decide +kernel) (by first | omega | exact ⟨by omega, by omega⟩) ?_
    refine zwW_ret (nx := 210) (a := 0) (b := 0) (by decide +kernel) rfl (Or.inl rfl) ?_
    exact ⟨rfl, by omega, by first | (exfalso; omega) | (unfold eJn eBr; (repeat' (first | rw [if_pos (by omega)] | rw [if_neg (by omega)])); all_goals (first | omega | rfl))⟩
  refine ⟨fun c5 => ?_, fun c5 => ?_⟩
  · show zwW _ _ _ 186 _ _ _ _
    refine zwW_p [(1, 1, 1), (1, 3, 1)] (q := 188) (ls' := [(0, a), (1, b), (9, 0), (1, c), (9, 0), (1, 0), (9, 0)]) (st' := [(1, c), (1, b)]) (by decide +kernel) rfl ?_
    refine zwW_lb (a := 5) (nx := 189) (z := l_and b c) (by decide +kernel) (rfl) ?_
    obtain ⟨v6, ev6⟩ : ∃ z, z = l_and b c := ⟨_, rfl⟩
    rw [← ev6]
    have E189 : v6 = i_and b c ∧ (v6 = 0 ∨ v6 = 1) := l_and_b (pz (Or.inr (by omega))).1 (pz (Or.inr (by omega))).2 ev6
    clear ev6
    refine zwW_p [(2, 5, 1), (24, 194, 0), (1, 5, 1), (0, 1000000, 1)] (q := 199) (ls' := [(0, a), (1, b), (9, 0), (1, c), (9, 0), (1, v6), (9, 0)]) (st' := [(1, 1000000), (1, v6)]) (by decide +kernel) rfl ?_
    refine zwW_lmin (nx := 202) (by decide +kernel) rfl ?_
    intro v7 ev7
    refine zwW_p [(0, -1000000, 1)] (q := 205) (ls' := [(0, a), (1, b), (9, 0), (1, c), (9, 0), (1, v6), (9, 0)]) (st' := [(1, -1000000), (1, v7)]) (by decide +kernel) rfl ?_
    refine zwW_lmax (nx := 208) (by decide +kernel) rfl ?_
    intro v8 ev8
    refine zwW_l2i (nx := 209) (by decide +kernel) (by first | omega | exact ⟨by omega, by omega⟩) ?_
    refine zwW_ret (nx := 210) (a := 0) (b := 0) (by decide +kernel) rfl (Or.inl rfl) ?_
    exact ⟨rfl, by omega, by first | (exfalso; omega) | (unfold eJn eBr; (repeat' (first | rw [if_pos (by omega)] | rw [if_neg (by omega)])); all_goals (first | omega | rfl))⟩
  refine ⟨fun c9 => ?_, fun c9 => ?_⟩
  · show zwW _ _ _ 104 _ _ _ _
    refine zwW_p [(1, 1, 1), (1, 3, 1)] (q := 106) (ls' := [(0, a), (1, b), (9, 0), (1, c), (9, 0), (1, 0), (9, 0)]) (st' := [(1, c), (1, b)]) (by decide +kernel) rfl ?_
    refine zwW_lmw (nx := 107) (by decide +kernel) ?_
    intro v10 ev10 lv10 uv10
    refine zwW_p [(2, 5, 1), (24, 194, 0), (1, 5, 1), (0, 1000000, 1)] (q := 199) (ls' := [(0, a), (1, b), (9, 0), (1, c), (9, 0), (1, v10), (9, 0)]) (st' := [(1, 1000000), (1, v10)]) (by decide +kernel) rfl ?_
    refine zwW_lmin (nx := 202) (by decide +kernel) rfl ?_
    intro v11 ev11
    refine zwW_p [(0, -1000000, 1)] (q := 205) (ls' := [(0, a), (1, b), (9, 0), (1, c), (9, 0), (1, v10), (9, 0)]) (st' := [(1, -1000000), (1, v11)]) (by decide +kernel) rfl ?_
    refine zwW_lmax (nx := 208) (by decide +kernel) rfl ?_
    intro v12 ev12
    refine zwW_l2i (nx := 209) (by decide +kernel) (by first | omega | exact ⟨by omega, by omega⟩) ?_
    refine zwW_ret (nx := 210) (a := 0) (b := 0) (by decide +kernel) rfl (Or.inl rfl) ?_
    exact ⟨rfl, by omega, by first | (exfalso; omega) | (unfold eJn eBr; (repeat' (first | rw [if_pos (by omega)] | rw [if_neg (by omega)])); all_goals (first | omega | rfl))⟩
  refine ⟨fun c13 => ?_, fun c13 => ?_⟩
  · show zwW _ _ _ 88 _ _ _ _
    refine zwW_p [(1, 1, 1), (1, 3, 1)] (q := 90) (ls' := [(0, a), (1, b), (9, 0), (1, c), (9, 0), (1, 0), (9, 0)]) (st' := [(1, c), (1, b)]) (by decide +kernel) rfl ?_
    refine zwW_ladd (nx := 91) (by decide +kernel) (by first | omega | exact ⟨by omega, by omega⟩) ?_
    refine zwW_p [(2, 5, 1), (24, 194, 0), (1, 5, 1), (0, 1000000, 1)] (q := 199) (ls' := [(0, a), (1, b), (9, 0), (1, c), (9, 0), (1, (b + c)), (9, 0)]) (st' := [(1, 1000000), (1, (b + c))]) (by decide +kernel) rfl ?_
    refine zwW_lmin (nx := 202) (by decide +kernel) rfl ?_
    intro v15 ev15
    refine zwW_p [(0, -1000000, 1)] (q := 205) (ls' := [(0, a), (1, b), (9, 0), (1, c), (9, 0), (1, (b + c)), (9, 0)]) (st' := [(1, -1000000), (1, v15)]) (by decide +kernel) rfl ?_
    refine zwW_lmax (nx := 208) (by decide +kernel) rfl ?_
    intro v16 ev16
    refine zwW_l2i (nx := 209) (by decide +kernel) (by first | omega | exact ⟨by omega, by omega⟩) ?_
    refine zwW_ret (nx := 210) (a := 0) (b := 0) (by decide +kernel) rfl (Or.inl rfl) ?_
    exact ⟨rfl, by omega, by first | (exfalso; omega) | (unfold eJn eBr; (repeat' (first | rw [if_pos (by omega)] | rw [if_neg (by omega)])); all_goals (first | omega | rfl))⟩
  refine ⟨fun c17 => ?_, fun c17 => ?_⟩
  · show zwW _ _ _ 96 _ _ _ _
    refine zwW_p [(1, 1, 1), (1, 3, 1)] (q := 98) (ls' := [(0, a), (1, b), (9, 0), (1, c), (9, 0), (1, 0), (9, 0)]) (st' := [(1, c), (1, b)]) (by decide +kernel) rfl ?_
    refine zwW_lsub (nx := 99) (by decide +kernel) (by first | omega | exact ⟨by omega, by omega⟩) ?_
    refine zwW_p [(2, 5, 1), (24, 194, 0), (1, 5, 1), (0, 1000000, 1)] (q := 199) (ls' := [(0, a), (1, b), (9, 0), (1, c), (9, 0), (1, (b - c)), (9, 0)]) (st' := [(1, 1000000), (1, (b - c))]) (by decide +kernel) rfl ?_
    refine zwW_lmin (nx := 202) (by decide +kernel) rfl ?_
    intro v19 ev19
    refine zwW_p [(0, -1000000, 1)] (q := 205) (ls' := [(0, a), (1, b), (9, 0), (1, c), (9, 0), (1, (b - c)), (9, 0)]) (st' := [(1, -1000000), (1, v19)]) (by decide +kernel) rfl ?_
    refine zwW_lmax (nx := 208) (by decide +kernel) rfl ?_
    intro v20 ev20
    refine zwW_l2i (nx := 209) (by decide +kernel) (by first | omega | exact ⟨by omega, by omega⟩) ?_
    refine zwW_ret (nx := 210) (a := 0) (b := 0) (by decide +kernel) rfl (Or.inl rfl) ?_
    exact ⟨rfl, by omega, by first | (exfalso; omega) | (unfold eJn eBr; (repeat' (first | rw [if_pos (by omega)] | rw [if_neg (by omega)])); all_goals (first | omega | rfl))⟩
  refine ⟨fun c21 => ?_, fun c21 => ?_⟩
  · show zwW _ _ _ 112 _ _ _ _
    refine zwW_p [(1, 3, 1), (0, 0, 1)] (q := 114) (ls' := [(0, a), (1, b), (9, 0), (1, c), (9, 0), (1, 0), (9, 0)]) (st' := [(1, 0), (1, c)]) (by decide +kernel) rfl ?_
    refine zwlc_ne (q := 122) (nx := 118) (m := 115) (by decide +kernel) (by decide +kernel) (fun c22 => ?_) (fun c22 => ?_)
    · refine zwW_p [(1, 1, 1), (1, 3, 1)] (q := 124) (ls' := [(0, a), (1, b), (9, 0), (1, c), (9, 0), (1, 0), (9, 0)]) (st' := [(1, c), (1, b)]) (by decide +kernel) rfl ?_
      refine zwW_lb (a := 3) (nx := 125) (z := w64 (b.tdiv c)) (by decide +kernel) (show (if c = 0 then none else some (w64 (b.tdiv c))) = _ by rw [if_neg (by omega)]) ?_
      obtain ⟨v23, ev23⟩ : ∃ z, z = w64 (b.tdiv c) := ⟨_, rfl⟩
      rw [← ev23]
      refine zwW_p [(2, 5, 1), (24, 194, 0), (1, 5, 1), (0, 1000000, 1)] (q := 199) (ls' := [(0, a), (1, b), (9, 0), (1, c), (9, 0), (1, v23), (9, 0)]) (st' := [(1, 1000000), (1, v23)]) (by decide +kernel) rfl ?_
      refine zwW_lmin (nx := 202) (by decide +kernel) rfl ?_
      intro v24 ev24
      refine zwW_p [(0, -1000000, 1)] (q := 205) (ls' := [(0, a), (1, b), (9, 0), (1, c), (9, 0), (1, v23), (9, 0)]) (st' := [(1, -1000000), (1, v24)]) (by decide +kernel) rfl ?_
      refine zwW_lmax (nx := 208) (by decide +kernel) rfl ?_
      intro v25 ev25
      refine zwW_l2i (nx := 209) (by decide +kernel) (by first | omega | exact ⟨by omega, by omega⟩) ?_
      refine zwW_ret (nx := 210) (a := 0) (b := 0) (by decide +kernel) rfl (Or.inl rfl) ?_
      exact ⟨rfl, by omega, by first | (exfalso; omega) | (unfold eJn eBr; (repeat' (first | rw [if_pos (by omega)] | rw [if_neg (by omega)])); all_goals (first | omega | rfl))⟩
    · refine zwW_p [(0, 0, 1), (24, 125, 0), (2, 5, 1), (24, 194, 0), (1, 5, 1), (0, 1000000, 1)] (q := 199) (ls' := [(0, a), (1, b), (9, 0), (1, c), (9, 0), (1, 0), (9, 0)]) (st' := [(1, 1000000), (1, 0)]) (by decide +kernel) rfl ?_
      refine zwW_lmin (nx := 202) (by decide +kernel) rfl ?_
      intro v26 ev26
      refine zwW_p [(0, -1000000, 1)] (q := 205) (ls' := [(0, a), (1, b), (9, 0), (1, c), (9, 0), (1, 0), (9, 0)]) (st' := [(1, -1000000), (1, v26)]) (by decide +kernel) rfl ?_
      refine zwW_lmax (nx := 208) (by decide +kernel) rfl ?_
      intro v27 ev27
      refine zwW_l2i (nx := 209) (by decide +kernel) (by first | omega | exact ⟨by omega, by omega⟩) ?_
      refine zwW_ret (nx := 210) (a := 0) (b := 0) (by decide +kernel) rfl (Or.inl rfl) ?_
      exact ⟨rfl, by omega, by first | (exfalso; omega) | (unfold eJn eBr; (repeat' (first | rw [if_pos (by omega)] | rw [if_neg (by omega)])); all_goals (first | omega | rfl))⟩
  refine ⟨fun c28 => ?_, fun c28 => ?_⟩
  · show zwW _ _ _ 130 _ _ _ _
    refine zwW_p [(1, 1, 1), (1, 3, 1)] (q := 132) (ls' := [(0, a), (1, b), (9, 0), (1, c), (9, 0), (1, 0), (9, 0)]) (st' := [(1, c), (1, b)]) (by decide +kernel) rfl ?_
    refine zwlc_ge (q := 140) (nx := 136) (m := 133) (by decide +kernel) (by decide +kernel) (fun c29 => ?_) (fun c29 => ?_)
    · refine zwW_p [(0, 0, 1), (2, 5, 1), (24, 194, 0), (1, 5, 1), (0, 1000000, 1)] (q := 199) (ls' := [(0, a), (1, b), (9, 0), (1, c), (9, 0), (1, 0), (9, 0)]) (st' := [(1, 1000000), (1, 0)]) (by decide +kernel) rfl ?_
      refine zwW_lmin (nx := 202) (by decide +kernel) rfl ?_
      intro v30 ev30
      refine zwW_p [(0, -1000000, 1)] (q := 205) (ls' := [(0, a), (1, b), (9, 0), (1, c), (9, 0), (1, 0), (9, 0)]) (st' := [(1, -1000000), (1, v30)]) (by decide +kernel) rfl ?_
      refine zwW_lmax (nx := 208) (by decide +kernel) rfl ?_
      intro v31 ev31
      refine zwW_l2i (nx := 209) (by decide +kernel) (by first | omega | exact ⟨by omega, by omega⟩) ?_
      refine zwW_ret (nx := 210) (a := 0) (b := 0) (by decide +kernel) rfl (Or.inl rfl) ?_
      exact ⟨rfl, by omega, by first | (exfalso; omega) | (unfold eJn eBr; (repeat' (first | rw [if_pos (by omega)] | rw [if_neg (by omega)])); all_goals (first | omega | rfl))⟩
    · refine zwW_p [(0, 1, 1), (24, 141, 0), (2, 5, 1), (24, 194, 0), (1, 5, 1), (0, 1000000, 1)] (q := 199) (ls' := [(0, a), (1, b), (9, 0), (1, c), (9, 0), (1, 1), (9, 0)]) (st' := [(1, 1000000), (1, 1)]) (by decide +kernel) rfl ?_
      refine zwW_lmin (nx := 202) (by decide +kernel) rfl ?_
      intro v32 ev32
      refine zwW_p [(0, -1000000, 1)] (q := 205) (ls' := [(0, a), (1, b), (9, 0), (1, c), (9, 0), (1, 1), (9, 0)]) (st' := [(1, -1000000), (1, v32)]) (by decide +kernel) rfl ?_
      refine zwW_lmax (nx := 208) (by decide +kernel) rfl ?_
      intro v33 ev33
      refine zwW_l2i (nx := 209) (by decide +kernel) (by first | omega | exact ⟨by omega, by omega⟩) ?_
      refine zwW_ret (nx := 210) (a := 0) (b := 0) (by decide +kernel) rfl (Or.inl rfl) ?_
      exact ⟨rfl, by omega, by first | (exfalso; omega) | (unfold eJn eBr; (repeat' (first | rw [if_pos (by omega)] | rw [if_neg (by omega)])); all_goals (first | omega | rfl))⟩
  refine ⟨fun c34 => ?_, fun c34 => ?_⟩
  · show zwW _ _ _ 162 _ _ _ _
    refine zwW_p [(1, 1, 1), (1, 3, 1)] (q := 164) (ls' := [(0, a), (1, b), (9, 0), (1, c), (9, 0), (1, 0), (9, 0)]) (st' := [(1, c), (1, b)]) (by decide +kernel) rfl ?_
    refine zwlc_ne (q := 172) (nx := 168) (m := 165) (by decide +kernel) (by decide +kernel) (fun c35 => ?_) (fun c35 => ?_)
    · refine zwW_p [(0, 0, 1), (2, 5, 1), (24, 194, 0), (1, 5, 1), (0, 1000000, 1)] (q := 199) (ls' := [(0, a), (1, b), (9, 0), (1, c), (9, 0), (1, 0), (9, 0)]) (st' := [(1, 1000000), (1, 0)]) (by decide +kernel) rfl ?_
      refine zwW_lmin (nx := 202) (by decide +kernel) rfl ?_
      intro v36 ev36
      refine zwW_p [(0, -1000000, 1)] (q := 205) (ls' := [(0, a), (1, b), (9, 0), (1, c), (9, 0), (1, 0), (9, 0)]) (st' := [(1, -1000000), (1, v36)]) (by decide +kernel) rfl ?_
      refine zwW_lmax (nx := 208) (by decide +kernel) rfl ?_
      intro v37 ev37
      refine zwW_l2i (nx := 209) (by decide +kernel) (by first | omega | exact ⟨by omega, by omega⟩) ?_
      refine zwW_ret (nx := 210) (a := 0) (b := 0) (by decide +kernel) rfl (Or.inl rfl) ?_
      exact ⟨rfl, by omega, by first | (exfalso; omega) | (unfold eJn eBr; (repeat' (first | rw [if_pos (by omega)] | rw [if_neg (by omega)])); all_goals (first | omega | rfl))⟩
    · refine zwW_p [(0, 1, 1), (24, 173, 0), (2, 5, 1), (24, 194, 0), (1, 5, 1), (0, 1000000, 1)] (q := 199) (ls' := [(0, a), (1, b), (9, 0), (1, c), (9, 0), (1, 1), (9, 0)]) (st' := [(1, 1000000), (1, 1)]) (by decide +kernel) rfl ?_
      refine zwW_lmin (nx := 202) (by decide +kernel) rfl ?_
      intro v38 ev38
      refine zwW_p [(0, -1000000, 1)] (q := 205) (ls' := [(0, a), (1, b), (9, 0), (1, c), (9, 0), (1, 1), (9, 0)]) (st' := [(1, -1000000), (1, v38)]) (by decide +kernel) rfl ?_
      refine zwW_lmax (nx := 208) (by decide +kernel) rfl ?_
      intro v39 ev39
      refine zwW_l2i (nx := 209) (by decide +kernel) (by first | omega | exact ⟨by omega, by omega⟩) ?_
      refine zwW_ret (nx := 210) (a := 0) (b := 0) (by decide +kernel) rfl (Or.inl rfl) ?_
      exact ⟨rfl, by omega, by first | (exfalso; omega) | (unfold eJn eBr; (repeat' (first | rw [if_pos (by omega)] | rw [if_neg (by omega)])); all_goals (first | omega | rfl))⟩
  refine ⟨fun c40 => ?_, fun c40 => ?_⟩
  · show zwW _ _ _ 146 _ _ _ _
    refine zwW_p [(1, 1, 1), (1, 3, 1)] (q := 148) (ls' := [(0, a), (1, b), (9, 0), (1, c), (9, 0), (1, 0), (9, 0)]) (st' := [(1, c), (1, b)]) (by decide +kernel) rfl ?_
    refine zwlc_le (q := 156) (nx := 152) (m := 149) (by decide +kernel) (by decide +kernel) (fun c41 => ?_) (fun c41 => ?_)
    · refine zwW_p [(0, 0, 1), (2, 5, 1), (24, 194, 0), (1, 5, 1), (0, 1000000, 1)] (q := 199) (ls' := [(0, a), (1, b), (9, 0), (1, c), (9, 0), (1, 0), (9, 0)]) (st' := [(1, 1000000), (1, 0)]) (by decide +kernel) rfl ?_
      refine zwW_lmin (nx := 202) (by decide +kernel) rfl ?_
      intro v42 ev42
      refine zwW_p [(0, -1000000, 1)] (q := 205) (ls' := [(0, a), (1, b), (9, 0), (1, c), (9, 0), (1, 0), (9, 0)]) (st' := [(1, -1000000), (1, v42)]) (by decide +kernel) rfl ?_
      refine zwW_lmax (nx := 208) (by decide +kernel) rfl ?_
      intro v43 ev43
      refine zwW_l2i (nx := 209) (by decide +kernel) (by first | omega | exact ⟨by omega, by omega⟩) ?_
      refine zwW_ret (nx := 210) (a := 0) (b := 0) (by decide +kernel) rfl (Or.inl rfl) ?_
      exact ⟨rfl, by omega, by first | (exfalso; omega) | (unfold eJn eBr; (repeat' (first | rw [if_pos (by omega)] | rw [if_neg (by omega)])); all_goals (first | omega | rfl))⟩
    · refine zwW_p [(0, 1, 1), (24, 157, 0), (2, 5, 1), (24, 194, 0), (1, 5, 1), (0, 1000000, 1)] (q := 199) (ls' := [(0, a), (1, b), (9, 0), (1, c), (9, 0), (1, 1), (9, 0)]) (st' := [(1, 1000000), (1, 1)]) (by decide +kernel) rfl ?_
      refine zwW_lmin (nx := 202) (by decide +kernel) rfl ?_
      intro v44 ev44
      refine zwW_p [(0, -1000000, 1)] (q := 205) (ls' := [(0, a), (1, b), (9, 0), (1, c), (9, 0), (1, 1), (9, 0)]) (st' := [(1, -1000000), (1, v44)]) (by decide +kernel) rfl ?_
      refine zwW_lmax (nx := 208) (by decide +kernel) rfl ?_
      intro v45 ev45
      refine zwW_l2i (nx := 209) (by decide +kernel) (by first | omega | exact ⟨by omega, by omega⟩) ?_
      refine zwW_ret (nx := 210) (a := 0) (b := 0) (by decide +kernel) rfl (Or.inl rfl) ?_
      exact ⟨rfl, by omega, by first | (exfalso; omega) | (unfold eJn eBr; (repeat' (first | rw [if_pos (by omega)] | rw [if_neg (by omega)])); all_goals (first | omega | rfl))⟩
  show zwW _ _ _ 194 _ _ _ _
  refine zwW_p [(1, 5, 1), (0, 1000000, 1)] (q := 199) (ls' := [(0, a), (1, b), (9, 0), (1, c), (9, 0), (1, 0), (9, 0)]) (st' := [(1, 1000000), (1, 0)]) (by decide +kernel) rfl ?_
  refine zwW_lmin (nx := 202) (by decide +kernel) rfl ?_
  intro v46 ev46
  refine zwW_p [(0, -1000000, 1)] (q := 205) (ls' := [(0, a), (1, b), (9, 0), (1, c), (9, 0), (1, 0), (9, 0)]) (st' := [(1, -1000000), (1, v46)]) (by decide +kernel) rfl ?_
  refine zwW_lmax (nx := 208) (by decide +kernel) rfl ?_
  intro v47 ev47
  refine zwW_l2i (nx := 209) (by decide +kernel) (by first | omega | exact ⟨by omega, by omega⟩) ?_
  refine zwW_ret (nx := 210) (a := 0) (b := 0) (by decide +kernel) rfl (Or.inl rfl) ?_
  exact ⟨rfl, by omega, by first | (exfalso; omega) | (unfold eJn eBr; (repeat' (first | rw [if_pos (by omega)] | rw [if_neg (by omega)])); all_goals (first | omega | rfl))⟩
-- WheelLand$Sheet.stepAt(I)I
theorem x255_e {sc : List Int} (h : Hp) (C : CI h) (r a : Int) (N : Nat) (G_r : gS h r) (q_a : -2147483648 ≤ a ∧ a ≤ 2147483647) (hS : sh h (fld h r 1) = some (20, N)) (hN : 0 ≤ a ∧ a < N) : zwC sc 1 255 [(2, r), (0, a)] h (zwRt 0 (fun x g => h = g ∧ (-2147483648 ≤ x ∧ x ≤ 2147483647) ∧ (x = fld h (fld h r 1) a.toNat))) := by
  refine zwC_of (D := 0) 2 (by decide +kernel) rfl (ls := [(2, r), (0, a)]) rfl ?_
  have lw_r := G_r.1
  refine zwW_p [(1, 1, 0)] (q := 1) (ls' := [(2, r), (0, a)]) (st' := [(0, a)]) (by decide +kernel) rfl ?_
  refine zwif_lt (q := 22) (nx := 4) (by decide +kernel) (fun c1 => ?_) (fun c1 => ?_)
  · refine zwW_p [(0, -21, 0)] (q := 24) (ls' := [(2, r), (0, a)]) (st' := [(0, -21)]) (by decide +kernel) rfl ?_
    refine zwW_ret (nx := 25) (a := 0) (b := 0) (by decide +kernel) rfl (Or.inl rfl) ?_
    exact ⟨rfl, by omega, by first | (exfalso; omega) | (subst_vars; rfl)⟩
  · refine zwW_p [(1, 1, 0), (1, 0, 2)] (q := 6) (ls' := [(2, r), (0, a)]) (st' := [(2, r), (0, a)]) (by decide +kernel) rfl ?_
    refine zwW_get (kd := 10) (bn := 1) (t := 2) (n := 3) (nx := 9) (by decide +kernel) G_r.2.1 rfl ?_
    obtain ⟨v2, ev2⟩ : ∃ z, z = fld h r 1 := ⟨_, rfl⟩
    rw [← ev2]
    obtain ⟨lv2, nv2, sv2⟩ : 365 < v2 ∧ ∃ n, sh h v2 = some (20, n) := by rw [ev2]; exact G_r.2.2.1
    have Gv2 : gA nv2 h v2 := ⟨lv2, sv2⟩
    refine zwW_len (n := nv2) (nx := 10) (by decide +kernel) Gv2.2 rfl ?_
    have NN : nv2 = N := by
      have z := sv2
      rw [ev2, hS] at z
      exact (congrArg Prod.snd (Option.some.inj z)).symm
    refine zwic_ge (q := 22) (nx := 13) (by decide +kernel) (fun c3 => ?_) (fun c3 => ?_)
    · refine zwW_p [(0, -21, 0)] (q := 24) (ls' := [(2, r), (0, a)]) (st' := [(0, -21)]) (by decide +kernel) rfl ?_
      refine zwW_ret (nx := 25) (a := 0) (b := 0) (by decide +kernel) rfl (Or.inl rfl) ?_
      exact ⟨rfl, by omega, by first | (exfalso; omega) | (subst_vars; rfl)⟩
    · refine zwW_p [(1, 0, 2)] (q := 14) (ls' := [(2, r), (0, a)]) (st' := [(2, r)]) (by decide +kernel) rfl ?_
      refine zwW_get (kd := 10) (bn := 1) (t := 2) (n := 3) (nx := 17) (by decide +kernel) G_r.2.1 rfl ?_
      rw [← ev2]
      refine zwW_p [(1, 1, 0)] (q := 18) (ls' := [(2, r), (0, a)]) (st' := [(0, a), (2, v2)]) (by decide +kernel) rfl ?_
      refine zwX_ai C (n := nv2) (nx := 19) (by decide +kernel) Gv2.2 Gv2.1 (by first | omega | exact ⟨by omega, by omega⟩) ?_
      intro v5 ev5 lv5 uv5
      refine zwW_p [(24, 24, 0)] (q := 24) (ls' := [(2, r), (0, a)]) (st' := [(0, v5)]) (by decide +kernel) rfl ?_
      refine zwW_ret (nx := 25) (a := 0) (b := 0) (by decide +kernel) rfl (Or.inl rfl) ?_
      exact ⟨rfl, by omega, by first | (exfalso; omega) | (subst_vars; rfl)⟩
def msx224_e : Zms := [(18, 18, 0, 400)]
-- WheelLand$Rules.run(LWheelLand$Sheet;I)I
theorem x224_e {sc : List Int} (h : Hp) (C : CI h) (r a : Int) (B : Nat) (L : Nat) (N : Nat) (cf : Nat → Int) (P : Int → Prop) (G_r : gS h r) (q_a : -2147483648 ≤ a ∧ a ≤ 2147483647) (p1 : 0 ≤ a ∧ a ≤ 4) (hM : fld h (fld h r 2) a.toNat = (B : Int)) (hS : sh h (fld h r 1) = some (20, N)) (hN : B + L < N ∧ N ≤ 1000 ∧ L < 400) (hW : ∀ k : Nat, k < L → fld h (fld h r 1) (B + k) = cf k) (hE : fld h (fld h r 1) (B + L) = -21) (hG : eSg (fld h 17) cf P 0 L) : zwC sc 2 224 [(2, 13), (2, r), (0, a)] h (zwRt 0 (fun x g => CI g ∧ zXR msx224_e (0) (0) h g ∧ (-2147483648 ≤ x ∧ x ≤ 2147483647) ∧ (x = (eRn (fld h 17) cf 0 L eP0).1 0))) := by
  refine zwC_of (D := 1) 7 (by decide +kernel) rfl (ls := [(2, 13), (2, r), (0, a), (9, 0), (9, 0), (9, 0), (9, 0)]) rfl ?_
  have lw_r := G_r.1
  have X : zXR msx224_e 0 0 h h := zXR.rf _ _
  refine zwW_p [(0, 0, 0), (2, 3, 0), (1, 1, 2), (1, 2, 0)] (q := 4) (ls' := [(2, 13), (2, r), (0, a), (0, 0), (9, 0), (9, 0), (9, 0)]) (st' := [(0, a), (2, r)]) (by decide +kernel) rfl ?_
  refine zwW_cv (op := 60) (k' := 206) (n := 1) (kd := 10) (m := 3) (nx := 7) (r := r) (tl := [(0, a)]) (st' := []) (by decide +kernel) rfl (by decide +kernel) G_r.2.1 (x206_w h C r a G_r (by omega) p1) rfl ?_
  rintro v1 _ ⟨rfl, f2, f3⟩
  have B7 : v1 = (B : Int) := by have z := f3; omega
  have L7 := hG.1
  refine zwW_p [(2, 4, 0), (1, 1, 2), (1, 4, 0)] (q := 12) (ls' := [(2, 13), (2, r), (0, a), (0, 0), (0, v1), (9, 0), (9, 0)]) (st' := [(0, v1), (2, r)]) (by decide +kernel) rfl ?_
  refine zwW_cv (op := 60) (k' := 255) (n := 1) (kd := 10) (m := 3) (nx := 15) (r := r) (tl := [(0, v1)]) (st' := []) (by decide +kernel) rfl (by decide +kernel) G_r.2.1 (x255_e h C r v1 N G_r (by omega) hS (by first | omega | exact ⟨by omega, by omega⟩)) rfl ?_
  rintro v4 _ ⟨rfl, f5, f6⟩
  have Q15 : ((0 : Int) < L → v4 = cf ((0 : Int)).toNat) ∧ ((0 : Int) = L → v4 = -21) := by
    have z := f6
    rw [B7, Int.toNat_natCast] at z
    exact ⟨fun w => z.trans (hW 0 (by omega)), fun w => by omega⟩
  refine zwW_p [(2, 5, 0), (0, 0, 0), (2, 6, 0)] (q := 20) (ls' := [(2, 13), (2, r), (0, a), (0, 0), (0, v1), (0, v4), (0, 0)]) (st' := []) (by decide +kernel) rfl ?_
  have L7 : ∀ (n0 : Nat) (tL7 pL7 qL7 kL7 : Int) (hL7 : Hp), n0 = ((1000 - kL7)).toNat → (pL7 = B + kL7 ∧ kL7 ≤ (L : Int)) → ((kL7 < (L : Int) → qL7 = cf (kL7).toNat) ∧ (kL7 = (L : Int) → qL7 = -21)) → (eV hL7 18 (eRn (fld h 17) cf 0 (kL7).toNat eP0) tL7) → (0 ≤ tL7 ∧ tL7 ≤ 400) → (0 ≤ pL7 ∧ pL7 ≤ 1400) → (-2147483648 ≤ qL7 ∧ qL7 ≤ 2147483647) → (0 ≤ kL7 ∧ kL7 ≤ 1000) → (gS hL7 r) → CI hL7 → zXR msx224_e (0) (0) h hL7 → zwW sc (1) 224 20 [(2, 13), (2, r), (0, a), (0, tL7), (0, pL7), (0, qL7), (0, kL7)] [] hL7 (zwRt 0 (fun x g => CI g ∧ zXR msx224_e (0) (0) h g ∧ (-2147483648 ≤ x ∧ x ≤ 2147483647) ∧ (x = (eRn (fld h 17) cf 0 L eP0).1 0))) := by
    intro n0
    induction n0 using Nat.strongRecOn with
    | ind n0 IHL7 =>
      intro tL7 pL7 qL7 kL7 hL7 hnL7 iL7_0 iL7_1 iL7_2 iL7_3 iL7_4 iL7_5 iL7_6 gL7_0 ChL7 XhL7
      have DD := eRn_le (N := fld h 17) (c := cf) (kL7).toNat
      have DE := iL7_2.1
      refine zwW_p [(1, 6, 0), (0, 400, 0)] (q := 25) (ls' := [(2, 13), (2, r), (0, a), (0, tL7), (0, pL7), (0, qL7), (0, kL7)]) (st' := [(0, 400), (0, kL7)]) (by decide +kernel) rfl ?_
      refine zwic_ge (q := 178) (nx := 28) (by decide +kernel) (fun c8 => ?_) (fun c8 => ?_)
      · have K178 : kL7 = (L : Int) := by
          by_cases z : kL7 = (L : Int)
          · exact z
          · exfalso
            have o := hG.ok (m := (kL7).toNat) (by omega)
            rw [← iL7_1.1 (by omega)] at o
            have o := o.nw
            omega
        have V178 := iL7_2
        rw [K178, Int.toNat_natCast] at V178
        have F178 := hG.fin
        have Z178 : fld hL7 18 ((0 : Int)).toNat = _ := V178.2 0 (by omega)
        have T178 := V178.1
        refine zwW_p [(1, 3, 0)] (q := 179) (ls' := [(2, 13), (2, r), (0, a), (0, tL7), (0, pL7), (0, qL7), (0, kL7)]) (st' := [(0, tL7)]) (by decide +kernel) rfl ?_
        refine zwif_le (q := 191) (nx := 182) (by decide +kernel) (fun c9 => ?_) (fun c9 => ?_)
        · refine zwW_p [(0, 0, 0)] (q := 192) (ls' := [(2, 13), (2, r), (0, a), (0, tL7), (0, pL7), (0, qL7), (0, kL7)]) (st' := [(0, 0)]) (by decide +kernel) rfl ?_
          refine zwW_ret (nx := 193) (a := 0) (b := 0) (by decide +kernel) rfl (Or.inl rfl) ?_
          exact ⟨ChL7, XhL7.le (by decide) (by decide), by omega, by first | omega | (exfalso; omega)⟩
        · refine zwW_p [(1, 0, 2)] (q := 183) (ls' := [(2, 13), (2, r), (0, a), (0, tL7), (0, pL7), (0, qL7), (0, kL7)]) (st' := [(2, 13)]) (by decide +kernel) rfl ?_
          refine zwW_gc ChL7.1 (kd := 9) (bn := 5) (n := 6) (c := 18) (nx := 186) (by decide +kernel) ?_
          refine zwW_p [(0, 0, 0)] (q := 187) (ls' := [(2, 13), (2, r), (0, a), (0, tL7), (0, pL7), (0, qL7), (0, kL7)]) (st' := [(0, 0), (2, 18)]) (by decide +kernel) rfl ?_
          refine zwW_al ChL7.1 (a1 := 18) (a2 := 18) (kd := 20) (n := 400) (t := 0) (lo := -2147483648) (hi := 2147483647) (nx := 188) (by decide +kernel) (by first | decide | exact ⟨by decide, by decide⟩) (by first | decide | exact ⟨by decide, by decide⟩) ?_
          intro v10 ev10 lv10 uv10
          refine zwW_p [(24, 192, 0)] (q := 192) (ls' := [(2, 13), (2, r), (0, a), (0, tL7), (0, pL7), (0, qL7), (0, kL7)]) (st' := [(0, v10)]) (by decide +kernel) rfl ?_
          refine zwW_ret (nx := 193) (a := 0) (b := 0) (by decide +kernel) rfl (Or.inl rfl) ?_
          exact ⟨ChL7, XhL7.le (by decide) (by decide), by omega, by first | omega | (exfalso; omega)⟩
      · refine zwW_p [(1, 5, 0), (0, -21, 0)] (q := 32) (ls' := [(2, 13), (2, r), (0, a), (0, tL7), (0, pL7), (0, qL7), (0, kL7)]) (st' := [(0, -21), (0, qL7)]) (by decide +kernel) rfl ?_
        refine zwic_eq (q := 178) (nx := 35) (by decide +kernel) (fun c11 => ?_) (fun c11 => ?_)
        · have K178 : kL7 = (L : Int) := by
            by_cases z : kL7 = (L : Int)
            · exact z
            · exfalso
              have o := hG.ok (m := (kL7).toNat) (by omega)
              rw [← iL7_1.1 (by omega)] at o
              have o := o.nw
              omega
          have V178 := iL7_2
          rw [K178, Int.toNat_natCast] at V178
          have F178 := hG.fin
          have Z178 : fld hL7 18 ((0 : Int)).toNat = _ := V178.2 0 (by omega)
          have T178 := V178.1
          refine zwW_p [(1, 3, 0)] (q := 179) (ls' := [(2, 13), (2, r), (0, a), (0, tL7), (0, pL7), (0, qL7), (0, kL7)]) (st' := [(0, tL7)]) (by decide +kernel) rfl ?_
          refine zwif_le (q := 191) (nx := 182) (by decide +kernel) (fun c12 => ?_) (fun c12 => ?_)
          · refine zwW_p [(0, 0, 0)] (q := 192) (ls' := [(2, 13), (2, r), (0, a), (0, tL7), (0, pL7), (0, qL7), (0, kL7)]) (st' := [(0, 0)]) (by decide +kernel) rfl ?_
            refine zwW_ret (nx := 193) (a := 0) (b := 0) (by decide +kernel) rfl (Or.inl rfl) ?_
            exact ⟨ChL7, XhL7.le (by decide) (by decide), by omega, by first | omega | (exfalso; omega)⟩
          · refine zwW_p [(1, 0, 2)] (q := 183) (ls' := [(2, 13), (2, r), (0, a), (0, tL7), (0, pL7), (0, qL7), (0, kL7)]) (st' := [(2, 13)]) (by decide +kernel) rfl ?_
            refine zwW_gc ChL7.1 (kd := 9) (bn := 5) (n := 6) (c := 18) (nx := 186) (by decide +kernel) ?_
            refine zwW_p [(0, 0, 0)] (q := 187) (ls' := [(2, 13), (2, r), (0, a), (0, tL7), (0, pL7), (0, qL7), (0, kL7)]) (st' := [(0, 0), (2, 18)]) (by decide +kernel) rfl ?_
            refine zwW_al ChL7.1 (a1 := 18) (a2 := 18) (kd := 20) (n := 400) (t := 0) (lo := -2147483648) (hi := 2147483647) (nx := 188) (by decide +kernel) (by first | decide | exact ⟨by decide, by decide⟩) (by first | decide | exact ⟨by decide, by decide⟩) ?_
            intro v13 ev13 lv13 uv13
            refine zwW_p [(24, 192, 0)] (q := 192) (ls' := [(2, 13), (2, r), (0, a), (0, tL7), (0, pL7), (0, qL7), (0, kL7)]) (st' := [(0, v13)]) (by decide +kernel) rfl ?_
            refine zwW_ret (nx := 193) (a := 0) (b := 0) (by decide +kernel) rfl (Or.inl rfl) ?_
            exact ⟨ChL7, XhL7.le (by decide) (by decide), by omega, by first | omega | (exfalso; omega)⟩
        · have K35 : kL7 < (L : Int) := by
            by_cases z : kL7 = (L : Int)
            · exact absurd (iL7_1.2 z) (by omega)
            · omega
          have Q35 := iL7_1.1 K35
          have O35 := hG.ok (m := (kL7).toNat) (by omega)
          rw [← Q35] at O35
          refine zwW_p [(1, 3, 0), (1, 0, 2)] (q := 37) (ls' := [(2, 13), (2, r), (0, a), (0, tL7), (0, pL7), (0, qL7), (0, kL7)]) (st' := [(2, 13), (0, tL7)]) (by decide +kernel) rfl ?_
          refine zwW_gc ChL7.1 (kd := 9) (bn := 5) (n := 6) (c := 18) (nx := 40) (by decide +kernel) ?_
          refine zwW_len (kd := 20) (n := 400) (nx := 41) (by decide +kernel) (ChL7.1.s (a1 := 18) (a2 := 18) (by decide +kernel) (by omega) (by omega)) rfl ?_
          refine zwic_ge (q := 178) (nx := 44) (by decide +kernel) (fun c14 => ?_) (fun c14 => ?_)
          · exfalso; omega
          · refine zwW_p [(1, 5, 0)] (q := 46) (ls' := [(2, 13), (2, r), (0, a), (0, tL7), (0, pL7), (0, qL7), (0, kL7)]) (st' := [(0, qL7)]) (by decide +kernel) rfl ?_
            refine zwif_lt (q := 63) (nx := 49) (by decide +kernel) (fun c15 => ?_) (fun c15 => ?_)
            · refine zwW_p [(1, 5, 0), (0, -13, 0)] (q := 67) (ls' := [(2, 13), (2, r), (0, a), (0, tL7), (0, pL7), (0, qL7), (0, kL7)]) (st' := [(0, -13), (0, qL7)]) (by decide +kernel) rfl ?_
              refine zwic_lt (q := 91) (nx := 70) (by decide +kernel) (fun c16 => ?_) (fun c16 => ?_)
              · refine zwW_p [(1, 5, 0), (0, -20, 0)] (q := 95) (ls' := [(2, 13), (2, r), (0, a), (0, tL7), (0, pL7), (0, qL7), (0, kL7)]) (st' := [(0, -20), (0, qL7)]) (by decide +kernel) rfl ?_
                refine zwic_ne (q := 123) (nx := 98) (by decide +kernel) (fun c17 => ?_) (fun c17 => ?_)
                · have Y123 : qL7 < -13 ∧ qL7 ≠ -20 := by first | exact (by first | omega | exact ⟨by omega, by omega⟩) | (exfalso; have := T98.1; omega)
                  have T123 := O35.bin Y123
                  have D123 := T123.1
                  have A123 := iL7_2.t2 T123.1
                  have C123 := iL7_2.t1 (by omega)
                  refine zwW_p [(1, 3, 0), (0, 1, 0)] (q := 125) (ls' := [(2, 13), (2, r), (0, a), (0, tL7), (0, pL7), (0, qL7), (0, kL7)]) (st' := [(0, 1), (0, tL7)]) (by decide +kernel) rfl ?_
                  refine zwic_le (q := 161) (nx := 128) (by decide +kernel) (fun c18 => ?_) (fun c18 => ?_)
                  · exfalso; omega
                  · refine zwW_inc (i := 3) (c := -1) (x := tL7) (nx := 131) (by decide +kernel) rfl (by first | omega | exact ⟨by omega, by omega⟩) (ls' := [(2, 13), (2, r), (0, a), (0, (tL7 + (-1))), (0, pL7), (0, qL7), (0, kL7)]) rfl ?_
                    refine zwW_p [(1, 0, 2)] (q := 132) (ls' := [(2, 13), (2, r), (0, a), (0, (tL7 + (-1))), (0, pL7), (0, qL7), (0, kL7)]) (st' := [(2, 13)]) (by decide +kernel) rfl ?_
                    refine zwW_gc ChL7.1 (kd := 9) (bn := 5) (n := 6) (c := 18) (nx := 135) (by decide +kernel) ?_
                    refine zwW_p [(1, 3, 0), (0, 1, 0)] (q := 137) (ls' := [(2, 13), (2, r), (0, a), (0, (tL7 + (-1))), (0, pL7), (0, qL7), (0, kL7)]) (st' := [(0, 1), (0, (tL7 + (-1))), (2, 18)]) (by decide +kernel) rfl ?_
                    refine zwW_sub (nx := 138) (by decide +kernel) (by first | omega | exact ⟨by omega, by omega⟩) ?_
                    refine zwW_p [(1, 5, 0)] (q := 140) (ls' := [(2, 13), (2, r), (0, a), (0, (tL7 + (-1))), (0, pL7), (0, qL7), (0, kL7)]) (st' := [(0, qL7), (0, ((tL7 + (-1)) - 1)), (2, 18)]) (by decide +kernel) rfl ?_
                    have IA : fld hL7 18 ((tL7 + (-1)) - 1).toNat = _ := (congrArg (fld hL7 18) (show ((tL7 + (-1)) - 1).toNat = (tL7 - 2).toNat by omega)).trans A123
                    have IC : fld hL7 18 ((tL7 + (-1))).toNat = _ := (congrArg (fld hL7 18) (show ((tL7 + (-1))).toNat = (tL7 - 1).toNat by omega)).trans C123
                    refine zwW_ngw (nx := 141) (by decide +kernel) ?_
                    intro v19 ev19 lv19 uv19
                    have N141 : v19 = -qL7 := by
                      rw [ev19]
                      have o := T123.2.2.2
                      unfold eOp at o
                      unfold w32
                      omega
                    refine zwW_p [(1, 0, 2)] (q := 142) (ls' := [(2, 13), (2, r), (0, a), (0, (tL7 + (-1))), (0, pL7), (0, qL7), (0, kL7)]) (st' := [(2, 13), (0, v19), (0, ((tL7 + (-1)) - 1)), (2, 18)]) (by decide +kernel) rfl ?_
                    refine zwW_gc ChL7.1 (kd := 9) (bn := 5) (n := 6) (c := 18) (nx := 145) (by decide +kernel) ?_
                    refine zwW_p [(1, 3, 0), (0, 1, 0)] (q := 147) (ls' := [(2, 13), (2, r), (0, a), (0, (tL7 + (-1))), (0, pL7), (0, qL7), (0, kL7)]) (st' := [(0, 1), (0, (tL7 + (-1))), (2, 18), (0, v19), (0, ((tL7 + (-1)) - 1)), (2, 18)]) (by decide +kernel) rfl ?_
                    refine zwW_sub (nx := 148) (by decide +kernel) (by first | omega | exact ⟨by omega, by omega⟩) ?_
                    have ib1 : 0 ≤ ((tL7 + (-1)) - 1) ∧ ((tL7 + (-1)) - 1) < ((400 : Nat) : Int) := (by first | omega | exact ⟨by omega, by omega⟩)
                    refine zwW_al ChL7.1 (a1 := 18) (a2 := 18) (kd := 20) (n := 400) (t := 0) (lo := -2147483648) (hi := 2147483647) (nx := 149) (by decide +kernel) (by first | decide | exact ⟨by decide, by decide⟩) ib1 ?_
                    intro v20 ev20 lv20 uv20
                    refine zwW_p [(7, 0, 0), (1, 0, 2)] (q := 151) (ls' := [(2, 13), (2, r), (0, a), (0, (tL7 + (-1))), (0, pL7), (0, qL7), (0, kL7)]) (st' := [(2, 13), (1, v20), (0, v19), (0, ((tL7 + (-1)) - 1)), (2, 18)]) (by decide +kernel) rfl ?_
                    refine zwW_gc ChL7.1 (kd := 9) (bn := 5) (n := 6) (c := 18) (nx := 154) (by decide +kernel) ?_
                    refine zwW_p [(1, 3, 0)] (q := 155) (ls' := [(2, 13), (2, r), (0, a), (0, (tL7 + (-1))), (0, pL7), (0, qL7), (0, kL7)]) (st' := [(0, (tL7 + (-1))), (2, 18), (1, v20), (0, v19), (0, ((tL7 + (-1)) - 1)), (2, 18)]) (by decide +kernel) rfl ?_
                    have ib2 : 0 ≤ (tL7 + (-1)) ∧ (tL7 + (-1)) < ((400 : Nat) : Int) := (by first | omega | exact ⟨by omega, by omega⟩)
                    refine zwW_al ChL7.1 (a1 := 18) (a2 := 18) (kd := 20) (n := 400) (t := 0) (lo := -2147483648) (hi := 2147483647) (nx := 156) (by decide +kernel) (by first | decide | exact ⟨by decide, by decide⟩) ib2 ?_
                    intro v21 ev21 lv21 uv21
                    refine zwW_p [(7, 0, 0)] (q := 157) (ls' := [(2, 13), (2, r), (0, a), (0, (tL7 + (-1))), (0, pL7), (0, qL7), (0, kL7)]) (st' := [(1, v21), (1, v20), (0, v19), (0, ((tL7 + (-1)) - 1)), (2, 18)]) (by decide +kernel) rfl ?_
                    refine zwW_cs (k' := 256) (n := 3) (nx := 160) (as := [(0, v19), (1, v20), (1, v21)]) (st' := [(0, ((tL7 + (-1)) - 1)), (2, 18)]) (by decide +kernel) rfl (x256_e hL7 ChL7 v19 v20 v21 (by omega) (by omega) (by omega) (by rw [N141]; exact T123.2.2.2.neg) ⟨by rw [ev20, IA]; exact T123.2.1.1, by rw [ev21, IC]; exact T123.2.1.2⟩ (fun z => ⟨by rw [ev20, IA]; exact (T123.2.2.1 (by omega)).1, by rw [ev21, IC]; exact (T123.2.2.1 (by omega)).2⟩)) rfl ?_
                    rintro v22 _ ⟨rfl, f23, f24⟩
                    refine zwW_as ChL7.1 (a1 := 18) (a2 := 18) (n := 400) (lo := -2147483648) (hi := 2147483647) (nx := 161) (by decide +kernel) (by first | decide | exact ⟨by decide, by decide⟩) ib1 (by first | omega | exact ⟨by omega, by omega⟩) ?_
                    intro h25 eh25 Ih25
                    have Ch25 : CI h25 := ChL7.wc eh25 Ih25 (by decide) (by decide)
                    have Qh25 : zXR [(18, 18, 0, 400)] 0 0 hL7 h25 := zXR.wc eh25 rfl ⟨by decide, by decide, Or.inl (by decide)⟩ (by first | omega | exact ⟨by omega, by omega⟩)
                    have VB : eV h25 18 (eRn (fld h 17) cf 0 (kL7 + 1).toNat eP0) (tL7 + (-1)) := by
                      rw [show (kL7 + 1).toNat = (kL7).toNat + 1 by omega, eRn_s, ← Q35]
                      rw [show (tL7 + (-1)) = tL7 - 1 by omega]
                      exact iL7_2.bin eh25 (ChL7.1.s (a1 := 18) (a2 := 18) (k := 20) (n := 400) (by decide +kernel) (by decide) (by decide)) (by omega) (by omega) T123.1 Y123 (by rw [← N141, A123, C123, ← IA, ← IC, ← ev20, ← ev21]; assumption)
                    have Xh25 : zXR msx224_e (0) (0) h h25 := XhL7.tr (c2 := 0) (s2 := 0) Qh25 (by decide +kernel) (by decide) (by decide)
                    have Gh25_0 : gS h25 r := gL7_0.x Qh25
                    have F161 : fld h25 r 1 = fld h r 1 := zS_fin Xh25 G_r.1 G_r.2.1 rfl
                    have H161 : sh h25 (fld h25 r 1) = some (20, N) := by rw [F161]; exact Xh25.1 _ _ hS
                    have D161 : fld h25 (fld h25 r 1) = fld h (fld h r 1) := by rw [F161]; exact Xh25.du (by decide +kernel) G_r.2.2.1.1 hS (by decide)
                    refine zwW_inc (i := 4) (c := 1) (x := pL7) (nx := 164) (by decide +kernel) rfl (by first | omega | exact ⟨by omega, by omega⟩) (ls' := [(2, 13), (2, r), (0, a), (0, (tL7 + (-1))), (0, (pL7 + 1)), (0, qL7), (0, kL7)]) rfl ?_
                    refine zwW_p [(1, 1, 2), (1, 4, 0)] (q := 167) (ls' := [(2, 13), (2, r), (0, a), (0, (tL7 + (-1))), (0, (pL7 + 1)), (0, qL7), (0, kL7)]) (st' := [(0, (pL7 + 1)), (2, r)]) (by decide +kernel) rfl ?_
                    refine zwW_cv (op := 60) (k' := 255) (n := 1) (kd := 10) (m := 3) (nx := 170) (r := r) (tl := [(0, (pL7 + 1))]) (st' := []) (by decide +kernel) rfl (by decide +kernel) Gh25_0.2.1 (x255_e h25 Ch25 r (pL7 + 1) N Gh25_0 (by omega) H161 (by first | omega | exact ⟨by omega, by omega⟩)) rfl ?_
                    rintro v26 _ ⟨rfl, f27, f28⟩
                    have QN : (kL7 + 1 < (L : Int) → v26 = cf (kL7 + 1).toNat) ∧ (kL7 + 1 = (L : Int) → v26 = -21) := by
                      have z := f28
                      rw [D161] at z
                      exact ⟨fun w => by rw [z, show ((pL7 + 1)).toNat = B + (kL7 + 1).toNat by omega]; exact hW _ (by omega), fun w => by rw [z, show ((pL7 + 1)).toNat = B + L by omega]; exact hE⟩
                    refine zwW_p [(2, 5, 0)] (q := 172) (ls' := [(2, 13), (2, r), (0, a), (0, (tL7 + (-1))), (0, (pL7 + 1)), (0, v26), (0, kL7)]) (st' := []) (by decide +kernel) rfl ?_
                    refine zwW_inc (i := 6) (c := 1) (x := kL7) (nx := 175) (by decide +kernel) rfl (by first | omega | exact ⟨by omega, by omega⟩) (ls' := [(2, 13), (2, r), (0, a), (0, (tL7 + (-1))), (0, (pL7 + 1)), (0, v26), (0, (kL7 + 1))]) rfl ?_
                    refine zwW_p [(24, 20, 0)] (q := 20) (ls' := [(2, 13), (2, r), (0, a), (0, (tL7 + (-1))), (0, (pL7 + 1)), (0, v26), (0, (kL7 + 1))]) (st' := []) (by decide +kernel) rfl ?_
                    exact IHL7 ((1000 - (kL7 + 1))).toNat (by omega) (tL7 + (-1)) (pL7 + 1) v26 (kL7 + 1) h25 rfl (by omega) (QN) (VB) (by omega) (by omega) (by omega) (by omega) Gh25_0 Ch25 (Xh25.le (by decide) (by decide))
                · have T98 : eOk (-20) (eRn (fld h 17) cf 0 (kL7).toNat eP0) := by have o := O35; rwa [show qL7 = -20 by omega] at o
                  have T98 := T98.not
                  have D98 := T98.1
                  refine zwW_p [(1, 3, 0)] (q := 99) (ls' := [(2, 13), (2, r), (0, a), (0, tL7), (0, pL7), (0, qL7), (0, kL7)]) (st' := [(0, tL7)]) (by decide +kernel) rfl ?_
                  refine zwif_le (q := 123) (nx := 102) (by decide +kernel) (fun c29 => ?_) (fun c29 => ?_)
                  · exfalso; omega
                  · refine zwW_p [(1, 0, 2)] (q := 103) (ls' := [(2, 13), (2, r), (0, a), (0, tL7), (0, pL7), (0, qL7), (0, kL7)]) (st' := [(2, 13)]) (by decide +kernel) rfl ?_
                    refine zwW_gc ChL7.1 (kd := 9) (bn := 5) (n := 6) (c := 18) (nx := 106) (by decide +kernel) ?_
                    refine zwW_p [(1, 3, 0), (0, 1, 0)] (q := 108) (ls' := [(2, 13), (2, r), (0, a), (0, tL7), (0, pL7), (0, qL7), (0, kL7)]) (st' := [(0, 1), (0, tL7), (2, 18)]) (by decide +kernel) rfl ?_
                    refine zwW_sub (nx := 109) (by decide +kernel) (by first | omega | exact ⟨by omega, by omega⟩) ?_
                    refine zwW_p [(0, 1, 0), (1, 0, 2)] (q := 111) (ls' := [(2, 13), (2, r), (0, a), (0, tL7), (0, pL7), (0, qL7), (0, kL7)]) (st' := [(2, 13), (0, 1), (0, (tL7 - 1)), (2, 18)]) (by decide +kernel) rfl ?_
                    refine zwW_gc ChL7.1 (kd := 9) (bn := 5) (n := 6) (c := 18) (nx := 114) (by decide +kernel) ?_
                    refine zwW_p [(1, 3, 0), (0, 1, 0)] (q := 116) (ls' := [(2, 13), (2, r), (0, a), (0, tL7), (0, pL7), (0, qL7), (0, kL7)]) (st' := [(0, 1), (0, tL7), (2, 18), (0, 1), (0, (tL7 - 1)), (2, 18)]) (by decide +kernel) rfl ?_
                    refine zwW_sub (nx := 117) (by decide +kernel) (by first | omega | exact ⟨by omega, by omega⟩) ?_
                    have ib3 : 0 ≤ (tL7 - 1) ∧ (tL7 - 1) < ((400 : Nat) : Int) := (by first | omega | exact ⟨by omega, by omega⟩)
                    refine zwW_al ChL7.1 (a1 := 18) (a2 := 18) (kd := 20) (n := 400) (t := 0) (lo := -2147483648) (hi := 2147483647) (nx := 118) (by decide +kernel) (by first | decide | exact ⟨by decide, by decide⟩) ib3 ?_
                    intro v30 ev30 lv30 uv30
                    refine zwW_sbw (nx := 119) (by decide +kernel) ?_
                    intro v31 ev31 lv31 uv31
                    refine zwW_as ChL7.1 (a1 := 18) (a2 := 18) (n := 400) (lo := -2147483648) (hi := 2147483647) (nx := 120) (by decide +kernel) (by first | decide | exact ⟨by decide, by decide⟩) ib3 (by first | omega | exact ⟨by omega, by omega⟩) ?_
                    intro h32 eh32 Ih32
                    have Ch32 : CI h32 := ChL7.wc eh32 Ih32 (by decide) (by decide)
                    have Qh32 : zXR [(18, 18, 0, 400)] 0 0 hL7 h32 := zXR.wc eh32 rfl ⟨by decide, by decide, Or.inl (by decide)⟩ (by first | omega | exact ⟨by omega, by omega⟩)
                    have VB : eV h32 18 (eRn (fld h 17) cf 0 (kL7 + 1).toNat eP0) tL7 := by
                      rw [show (kL7 + 1).toNat = (kL7).toNat + 1 by omega, eRn_s, ← Q35]
                      have B119 : fld hL7 18 (tL7 - 1).toNat = 0 ∨ fld hL7 18 (tL7 - 1).toNat = 1 := by rw [iL7_2.t1 T98.1]; exact T98.2
                      exact iL7_2.not eh32 (ChL7.1.s (a1 := 18) (a2 := 18) (k := 20) (n := 400) (by decide +kernel) (by decide) (by decide)) rfl (by omega) T98.1 (by omega) (by first | omega | (rw [ev31]; unfold w32; omega))
                    have Xh32 : zXR msx224_e (0) (0) h h32 := XhL7.tr (c2 := 0) (s2 := 0) Qh32 (by decide +kernel) (by decide) (by decide)
                    have Gh32_0 : gS h32 r := gL7_0.x Qh32
                    refine zwW_p [(24, 161, 0)] (q := 161) (ls' := [(2, 13), (2, r), (0, a), (0, tL7), (0, pL7), (0, qL7), (0, kL7)]) (st' := []) (by decide +kernel) rfl ?_
                    have F161 : fld h32 r 1 = fld h r 1 := zS_fin Xh32 G_r.1 G_r.2.1 rfl
                    have H161 : sh h32 (fld h32 r 1) = some (20, N) := by rw [F161]; exact Xh32.1 _ _ hS
                    have D161 : fld h32 (fld h32 r 1) = fld h (fld h r 1) := by rw [F161]; exact Xh32.du (by decide +kernel) G_r.2.2.1.1 hS (by decide)
                    refine zwW_inc (i := 4) (c := 1) (x := pL7) (nx := 164) (by decide +kernel) rfl (by first | omega | exact ⟨by omega, by omega⟩) (ls' := [(2, 13), (2, r), (0, a), (0, tL7), (0, (pL7 + 1)), (0, qL7), (0, kL7)]) rfl ?_
                    refine zwW_p [(1, 1, 2), (1, 4, 0)] (q := 167) (ls' := [(2, 13), (2, r), (0, a), (0, tL7), (0, (pL7 + 1)), (0, qL7), (0, kL7)]) (st' := [(0, (pL7 + 1)), (2, r)]) (by decide +kernel) rfl ?_
                    refine zwW_cv (op := 60) (k' := 255) (n := 1) (kd := 10) (m := 3) (nx := 170) (r := r) (tl := [(0, (pL7 + 1))]) (st' := []) (by decide +kernel) rfl (by decide +kernel) Gh32_0.2.1 (x255_e h32 Ch32 r (pL7 + 1) N Gh32_0 (by omega) H161 (by first | omega | exact ⟨by omega, by omega⟩)) rfl ?_
                    rintro v33 _ ⟨rfl, f34, f35⟩
                    have QN : (kL7 + 1 < (L : Int) → v33 = cf (kL7 + 1).toNat) ∧ (kL7 + 1 = (L : Int) → v33 = -21) := by
                      have z := f35
                      rw [D161] at z
                      exact ⟨fun w => by rw [z, show ((pL7 + 1)).toNat = B + (kL7 + 1).toNat by omega]; exact hW _ (by omega), fun w => by rw [z, show ((pL7 + 1)).toNat = B + L by omega]; exact hE⟩
                    refine zwW_p [(2, 5, 0)] (q := 172) (ls' := [(2, 13), (2, r), (0, a), (0, tL7), (0, (pL7 + 1)), (0, v33), (0, kL7)]) (st' := []) (by decide +kernel) rfl ?_
                    refine zwW_inc (i := 6) (c := 1) (x := kL7) (nx := 175) (by decide +kernel) rfl (by first | omega | exact ⟨by omega, by omega⟩) (ls' := [(2, 13), (2, r), (0, a), (0, tL7), (0, (pL7 + 1)), (0, v33), (0, (kL7 + 1))]) rfl ?_
                    refine zwW_p [(24, 20, 0)] (q := 20) (ls' := [(2, 13), (2, r), (0, a), (0, tL7), (0, (pL7 + 1)), (0, v33), (0, (kL7 + 1))]) (st' := []) (by decide +kernel) rfl ?_
                    exact IHL7 ((1000 - (kL7 + 1))).toNat (by omega) tL7 (pL7 + 1) v33 (kL7 + 1) h32 rfl (by omega) (QN) (VB) (by omega) (by omega) (by omega) (by omega) Gh32_0 Ch32 (Xh32.le (by decide) (by decide))
              · refine zwW_p [(1, 0, 2)] (q := 71) (ls' := [(2, 13), (2, r), (0, a), (0, tL7), (0, pL7), (0, qL7), (0, kL7)]) (st' := [(2, 13)]) (by decide +kernel) rfl ?_
                refine zwW_gc ChL7.1 (kd := 9) (bn := 5) (n := 6) (c := 18) (nx := 74) (by decide +kernel) ?_
                refine zwW_p [(1, 3, 0), (1, 0, 2)] (q := 76) (ls' := [(2, 13), (2, r), (0, a), (0, tL7), (0, pL7), (0, qL7), (0, kL7)]) (st' := [(2, 13), (0, tL7), (2, 18)]) (by decide +kernel) rfl ?_
                refine zwW_gc ChL7.1 (kd := 9) (bn := 4) (n := 6) (c := 17) (nx := 79) (by decide +kernel) ?_
                refine zwW_p [(0, -1, 0), (1, 5, 0)] (q := 82) (ls' := [(2, 13), (2, r), (0, a), (0, tL7), (0, pL7), (0, qL7), (0, kL7)]) (st' := [(0, qL7), (0, -1), (2, 17), (0, tL7), (2, 18)]) (by decide +kernel) rfl ?_
                refine zwW_sub (nx := 83) (by decide +kernel) (by first | omega | exact ⟨by omega, by omega⟩) ?_
                have ib4 : 0 ≤ (-1 - qL7) ∧ (-1 - qL7) < ((13 : Nat) : Int) := (by first | omega | exact ⟨by omega, by omega⟩)
                refine zwW_al ChL7.1 (a1 := 17) (a2 := 17) (kd := 20) (n := 13) (t := 0) (lo := -2147483648) (hi := 2147483647) (nx := 84) (by decide +kernel) (by first | decide | exact ⟨by decide, by decide⟩) ib4 ?_
                intro v36 ev36 lv36 uv36
                have ib5 : 0 ≤ tL7 ∧ tL7 < ((400 : Nat) : Int) := (by first | omega | exact ⟨by omega, by omega⟩)
                refine zwW_as ChL7.1 (a1 := 18) (a2 := 18) (n := 400) (lo := -2147483648) (hi := 2147483647) (nx := 85) (by decide +kernel) (by first | decide | exact ⟨by decide, by decide⟩) ib5 (by first | omega | exact ⟨by omega, by omega⟩) ?_
                intro h37 eh37 Ih37
                have Ch37 : CI h37 := ChL7.wc eh37 Ih37 (by decide) (by decide)
                have Qh37 : zXR [(18, 18, 0, 400)] 0 0 hL7 h37 := zXR.wc eh37 rfl ⟨by decide, by decide, Or.inl (by decide)⟩ (by first | omega | exact ⟨by omega, by omega⟩)
                have VB : eV h37 18 (eRn (fld h 17) cf 0 (kL7 + 1).toNat eP0) (tL7 + 1) := by
                  rw [show (kL7 + 1).toNat = (kL7).toNat + 1 by omega, eRn_s, ← Q35]
                  have N84 : fld hL7 17 = fld h 17 := XhL7.fa (a := 17) (by decide +kernel) (by decide)
                  exact iL7_2.nam eh37 (ChL7.1.s (a1 := 18) (a2 := 18) (k := 20) (n := 400) (by decide +kernel) (by decide) (by decide)) rfl (by omega) (by first | omega | exact ⟨by omega, by omega⟩) (by rw [← N84]; exact ev36)
                have Xh37 : zXR msx224_e (0) (0) h h37 := XhL7.tr (c2 := 0) (s2 := 0) Qh37 (by decide +kernel) (by decide) (by decide)
                have Gh37_0 : gS h37 r := gL7_0.x Qh37
                refine zwW_inc (i := 3) (c := 1) (x := tL7) (nx := 88) (by decide +kernel) rfl (by first | omega | exact ⟨by omega, by omega⟩) (ls' := [(2, 13), (2, r), (0, a), (0, (tL7 + 1)), (0, pL7), (0, qL7), (0, kL7)]) rfl ?_
                refine zwW_p [(24, 161, 0)] (q := 161) (ls' := [(2, 13), (2, r), (0, a), (0, (tL7 + 1)), (0, pL7), (0, qL7), (0, kL7)]) (st' := []) (by decide +kernel) rfl ?_
                have F161 : fld h37 r 1 = fld h r 1 := zS_fin Xh37 G_r.1 G_r.2.1 rfl
                have H161 : sh h37 (fld h37 r 1) = some (20, N) := by rw [F161]; exact Xh37.1 _ _ hS
                have D161 : fld h37 (fld h37 r 1) = fld h (fld h r 1) := by rw [F161]; exact Xh37.du (by decide +kernel) G_r.2.2.1.1 hS (by decide)
                refine zwW_inc (i := 4) (c := 1) (x := pL7) (nx := 164) (by decide +kernel) rfl (by first | omega | exact ⟨by omega, by omega⟩) (ls' := [(2, 13), (2, r), (0, a), (0, (tL7 + 1)), (0, (pL7 + 1)), (0, qL7), (0, kL7)]) rfl ?_
                refine zwW_p [(1, 1, 2), (1, 4, 0)] (q := 167) (ls' := [(2, 13), (2, r), (0, a), (0, (tL7 + 1)), (0, (pL7 + 1)), (0, qL7), (0, kL7)]) (st' := [(0, (pL7 + 1)), (2, r)]) (by decide +kernel) rfl ?_
                refine zwW_cv (op := 60) (k' := 255) (n := 1) (kd := 10) (m := 3) (nx := 170) (r := r) (tl := [(0, (pL7 + 1))]) (st' := []) (by decide +kernel) rfl (by decide +kernel) Gh37_0.2.1 (x255_e h37 Ch37 r (pL7 + 1) N Gh37_0 (by omega) H161 (by first | omega | exact ⟨by omega, by omega⟩)) rfl ?_
                rintro v38 _ ⟨rfl, f39, f40⟩
                have QN : (kL7 + 1 < (L : Int) → v38 = cf (kL7 + 1).toNat) ∧ (kL7 + 1 = (L : Int) → v38 = -21) := by
                  have z := f40
                  rw [D161] at z
                  exact ⟨fun w => by rw [z, show ((pL7 + 1)).toNat = B + (kL7 + 1).toNat by omega]; exact hW _ (by omega), fun w => by rw [z, show ((pL7 + 1)).toNat = B + L by omega]; exact hE⟩
                refine zwW_p [(2, 5, 0)] (q := 172) (ls' := [(2, 13), (2, r), (0, a), (0, (tL7 + 1)), (0, (pL7 + 1)), (0, v38), (0, kL7)]) (st' := []) (by decide +kernel) rfl ?_
                refine zwW_inc (i := 6) (c := 1) (x := kL7) (nx := 175) (by decide +kernel) rfl (by first | omega | exact ⟨by omega, by omega⟩) (ls' := [(2, 13), (2, r), (0, a), (0, (tL7 + 1)), (0, (pL7 + 1)), (0, v38), (0, (kL7 + 1))]) rfl ?_
                refine zwW_p [(24, 20, 0)] (q := 20) (ls' := [(2, 13), (2, r), (0, a), (0, (tL7 + 1)), (0, (pL7 + 1)), (0, v38), (0, (kL7 + 1))]) (st' := []) (by decide +kernel) rfl ?_
                exact IHL7 ((1000 - (kL7 + 1))).toNat (by omega) (tL7 + 1) (pL7 + 1) v38 (kL7 + 1) h37 rfl (by omega) (QN) (VB) (by omega) (by omega) (by omega) (by omega) Gh37_0 Ch37 (Xh37.le (by decide) (by decide))
            · refine zwW_p [(1, 0, 2)] (q := 50) (ls' := [(2, 13), (2, r), (0, a), (0, tL7), (0, pL7), (0, qL7), (0, kL7)]) (st' := [(2, 13)]) (by decide +kernel) rfl ?_
              refine zwW_gc ChL7.1 (kd := 9) (bn := 5) (n := 6) (c := 18) (nx := 53) (by decide +kernel) ?_
              refine zwW_p [(1, 3, 0), (1, 5, 0)] (q := 56) (ls' := [(2, 13), (2, r), (0, a), (0, tL7), (0, pL7), (0, qL7), (0, kL7)]) (st' := [(0, qL7), (0, tL7), (2, 18)]) (by decide +kernel) rfl ?_
              have ib6 : 0 ≤ tL7 ∧ tL7 < ((400 : Nat) : Int) := (by first | omega | exact ⟨by omega, by omega⟩)
              refine zwW_as ChL7.1 (a1 := 18) (a2 := 18) (n := 400) (lo := -2147483648) (hi := 2147483647) (nx := 57) (by decide +kernel) (by first | decide | exact ⟨by decide, by decide⟩) ib6 (by first | omega | exact ⟨by omega, by omega⟩) ?_
              intro h41 eh41 Ih41
              have Ch41 : CI h41 := ChL7.wc eh41 Ih41 (by decide) (by decide)
              have Qh41 : zXR [(18, 18, 0, 400)] 0 0 hL7 h41 := zXR.wc eh41 rfl ⟨by decide, by decide, Or.inl (by decide)⟩ (by first | omega | exact ⟨by omega, by omega⟩)
              have VB : eV h41 18 (eRn (fld h 17) cf 0 (kL7 + 1).toNat eP0) (tL7 + 1) := by
                rw [show (kL7 + 1).toNat = (kL7).toNat + 1 by omega, eRn_s, ← Q35]
                exact iL7_2.num eh41 (ChL7.1.s (a1 := 18) (a2 := 18) (k := 20) (n := 400) (by decide +kernel) (by decide) (by decide)) rfl (by omega) (by omega) rfl
              have Xh41 : zXR msx224_e (0) (0) h h41 := XhL7.tr (c2 := 0) (s2 := 0) Qh41 (by decide +kernel) (by decide) (by decide)
              have Gh41_0 : gS h41 r := gL7_0.x Qh41
              refine zwW_inc (i := 3) (c := 1) (x := tL7) (nx := 60) (by decide +kernel) rfl (by first | omega | exact ⟨by omega, by omega⟩) (ls' := [(2, 13), (2, r), (0, a), (0, (tL7 + 1)), (0, pL7), (0, qL7), (0, kL7)]) rfl ?_
              refine zwW_p [(24, 161, 0)] (q := 161) (ls' := [(2, 13), (2, r), (0, a), (0, (tL7 + 1)), (0, pL7), (0, qL7), (0, kL7)]) (st' := []) (by decide +kernel) rfl ?_
              have F161 : fld h41 r 1 = fld h r 1 := zS_fin Xh41 G_r.1 G_r.2.1 rfl
              have H161 : sh h41 (fld h41 r 1) = some (20, N) := by rw [F161]; exact Xh41.1 _ _ hS
              have D161 : fld h41 (fld h41 r 1) = fld h (fld h r 1) := by rw [F161]; exact Xh41.du (by decide +kernel) G_r.2.2.1.1 hS (by decide)
              refine zwW_inc (i := 4) (c := 1) (x := pL7) (nx := 164) (by decide +kernel) rfl (by first | omega | exact ⟨by omega, by omega⟩) (ls' := [(2, 13), (2, r), (0, a), (0, (tL7 + 1)), (0, (pL7 + 1)), (0, qL7), (0, kL7)]) rfl ?_
              refine zwW_p [(1, 1, 2), (1, 4, 0)] (q := 167) (ls' := [(2, 13), (2, r), (0, a), (0, (tL7 + 1)), (0, (pL7 + 1)), (0, qL7), (0, kL7)]) (st' := [(0, (pL7 + 1)), (2, r)]) (by decide +kernel) rfl ?_
              refine zwW_cv (op := 60) (k' := 255) (n := 1) (kd := 10) (m := 3) (nx := 170) (r := r) (tl := [(0, (pL7 + 1))]) (st' := []) (by decide +kernel) rfl (by decide +kernel) Gh41_0.2.1 (x255_e h41 Ch41 r (pL7 + 1) N Gh41_0 (by omega) H161 (by first | omega | exact ⟨by omega, by omega⟩)) rfl ?_
              rintro v42 _ ⟨rfl, f43, f44⟩
              have QN : (kL7 + 1 < (L : Int) → v42 = cf (kL7 + 1).toNat) ∧ (kL7 + 1 = (L : Int) → v42 = -21) := by
                have z := f44
                rw [D161] at z
                exact ⟨fun w => by rw [z, show ((pL7 + 1)).toNat = B + (kL7 + 1).toNat by omega]; exact hW _ (by omega), fun w => by rw [z, show ((pL7 + 1)).toNat = B + L by omega]; exact hE⟩
              refine zwW_p [(2, 5, 0)] (q := 172) (ls' := [(2, 13), (2, r), (0, a), (0, (tL7 + 1)), (0, (pL7 + 1)), (0, v42), (0, kL7)]) (st' := []) (by decide +kernel) rfl ?_
              refine zwW_inc (i := 6) (c := 1) (x := kL7) (nx := 175) (by decide +kernel) rfl (by first | omega | exact ⟨by omega, by omega⟩) (ls' := [(2, 13), (2, r), (0, a), (0, (tL7 + 1)), (0, (pL7 + 1)), (0, v42), (0, (kL7 + 1))]) rfl ?_
              refine zwW_p [(24, 20, 0)] (q := 20) (ls' := [(2, 13), (2, r), (0, a), (0, (tL7 + 1)), (0, (pL7 + 1)), (0, v42), (0, (kL7 + 1))]) (st' := []) (by decide +kernel) rfl ?_
              exact IHL7 ((1000 - (kL7 + 1))).toNat (by omega) (tL7 + 1) (pL7 + 1) v42 (kL7 + 1) h41 rfl (by omega) (QN) (VB) (by omega) (by omega) (by omega) (by omega) Gh41_0 Ch41 (Xh41.le (by decide) (by decide))
  exact L7 _ 0 v1 v4 0 h rfl (by omega) (Q15) (eV_0) (by omega) (by omega) (by omega) (by omega) G_r C (X.le (by decide) (by decide))
def msx172_e : Zms := [(18, 18, 0, 400)]
-- WheelLand$Rules.answer(II)I
theorem x172_e {sc : List Int} (h : Hp) (C : CI h) (a b : Int) (q_a : -2147483648 ≤ a ∧ a ≤ 2147483647) (q_b : -2147483648 ≤ b ∧ b ≤ 2147483647) (p1 : 0 ≤ a ∧ a ≤ 4) (hs : zShe h) (hf : zFo h) (hk : zCk h) (hN : eNs (fld h 17)) (n1 : fld h 13 1 = fld h 37 53) (n2 : fld h 14 2 = fld h 37 52) : zwC sc 3 172 [(2, 13), (0, a), (0, b)] h (zwRt 0 (fun x g => CI g ∧ zXR msx172_e (0) (0) h g ∧ (-2147483648 ≤ x ∧ x ≤ 2147483647) ∧ (x = zTl h a b (fld h 17)))) := by
  refine zwC_of (D := 2) 4 (by decide +kernel) rfl (ls := [(2, 13), (0, a), (0, b), (9, 0)]) rfl ?_
  have X : zXR msx172_e 0 0 h h := zXR.rf _ _
  refine zwW_p [(1, 0, 2), (1, 1, 0), (1, 2, 0)] (q := 3) (ls' := [(2, 13), (0, a), (0, b), (9, 0)]) (st' := [(0, b), (0, a), (2, 13)]) (by decide +kernel) rfl ?_
  refine zwW_cm C.1 (op := 60) (k' := 125) (n := 2) (kd := 9) (m := 6) (nx := 6) (r := 13) (tl := [(0, a), (0, b)]) (st' := []) (by decide +kernel) rfl (by decide +kernel) rfl (x125_w h C a b (by omega) (by omega) p1 (zFrn_of C hs hf p1).1) ?_
  rintro v2 _ ⟨rfl, ⟨rfl, c1⟩ | ⟨Gv2, c1⟩⟩
  · refine zwW_p [(2, 3, 2), (1, 3, 2)] (q := 8) (ls' := [(2, 13), (0, a), (0, b), (2, 0)]) (st' := [(2, 0)]) (by decide +kernel) rfl ?_
    refine zwnu_ne (q := 26) (nx := 11) (by decide +kernel) (by decide) (fun c3 => ?_) (fun c3 => ?_)
    · exfalso; omega
    · have N11 : zWn h a b = -1 := zWn_n n1 (by assumption)
      refine zwW_p [(1, 1, 0)] (q := 12) (ls' := [(2, 13), (0, a), (0, b), (2, 0)]) (st' := [(0, a)]) (by decide +kernel) rfl ?_
      refine zwif_eq (q := 20) (nx := 15) (by decide +kernel) (fun c4 => ?_) (fun c4 => ?_)
      · refine zwW_p [(0, 0, 0), (24, 25, 0)] (q := 25) (ls' := [(2, 13), (0, a), (0, b), (2, 0)]) (st' := [(0, 0)]) (by decide +kernel) rfl ?_
        refine zwW_ret (nx := 26) (a := 0) (b := 0) (by decide +kernel) rfl (Or.inl rfl) ?_
        exact ⟨C, X.le (by decide) (by decide), by omega, by first | (rw [zTl_n N11]; first | rw [if_pos (by omega)] | rw [if_neg (by omega)]) | (rw [zTl_y W26, ← m7]; exact rfl)⟩
      · refine zwW_p [(1, 1, 0), (0, 2, 0)] (q := 17) (ls' := [(2, 13), (0, a), (0, b), (2, 0)]) (st' := [(0, 2), (0, a)]) (by decide +kernel) rfl ?_
        refine zwic_ne (q := 24) (nx := 20) (by decide +kernel) (fun c5 => ?_) (fun c5 => ?_)
        · refine zwW_p [(0, 1, 0)] (q := 25) (ls' := [(2, 13), (0, a), (0, b), (2, 0)]) (st' := [(0, 1)]) (by decide +kernel) rfl ?_
          refine zwW_ret (nx := 26) (a := 0) (b := 0) (by decide +kernel) rfl (Or.inl rfl) ?_
          exact ⟨C, X.le (by decide) (by decide), by omega, by first | (rw [zTl_n N11]; first | rw [if_pos (by omega)] | rw [if_neg (by omega)]) | (rw [zTl_y W26, ← m7]; exact rfl)⟩
        · refine zwW_p [(0, 0, 0), (24, 25, 0)] (q := 25) (ls' := [(2, 13), (0, a), (0, b), (2, 0)]) (st' := [(0, 0)]) (by decide +kernel) rfl ?_
          refine zwW_ret (nx := 26) (a := 0) (b := 0) (by decide +kernel) rfl (Or.inl rfl) ?_
          exact ⟨C, X.le (by decide) (by decide), by omega, by first | (rw [zTl_n N11]; first | rw [if_pos (by omega)] | rw [if_neg (by omega)]) | (rw [zTl_y W26, ← m7]; exact rfl)⟩
  · have lv2 := Gv2.1
    refine zwW_p [(2, 3, 2), (1, 3, 2)] (q := 8) (ls' := [(2, 13), (0, a), (0, b), (2, v2)]) (st' := [(2, v2)]) (by decide +kernel) rfl ?_
    refine zwnu_ne (q := 26) (nx := 11) (by decide +kernel) (by omega) (fun c6 => ?_) (fun c6 => ?_)
    · obtain ⟨W26, B26, L26, N26, m1, m2, m3, m4, m5, m6, m7⟩ := zShe.run (r := v2) C hs hf hk hN p1 n1 n2 (by assumption)
      refine zwW_p [(1, 0, 2), (1, 3, 2), (1, 1, 0)] (q := 29) (ls' := [(2, 13), (0, a), (0, b), (2, v2)]) (st' := [(0, a), (2, v2), (2, 13)]) (by decide +kernel) rfl ?_
      refine zwW_cm C.1 (op := 60) (k' := 224) (n := 2) (kd := 9) (m := 6) (nx := 32) (r := 13) (tl := [(2, v2), (0, a)]) (st' := []) (by decide +kernel) rfl (by decide +kernel) rfl (x224_e h C v2 a B26 L26 N26 (mCc h (zWn h a b) a) (if a < 3 then eNum else eBit) Gv2 (by omega) p1 m1 m2 m3 m4 m5 m6) ?_
      rintro v9 h10 ⟨Ch10, Qh10, f7, f8⟩
      have Xh10 : zXR msx172_e (0) (0) h h10 := X.tr (c2 := 0) (s2 := 0) Qh10 (by decide +kernel) (by decide) (by decide)
      have Gh10_0 : gS h10 v2 := Gv2.x Qh10
      refine zwW_ret (nx := 33) (a := 0) (b := 0) (by decide +kernel) rfl (Or.inl rfl) ?_
      exact ⟨Ch10, Xh10.le (by decide) (by decide), by omega, by first | (rw [zTl_n N11]; first | rw [if_pos (by omega)] | rw [if_neg (by omega)]) | (rw [zTl_y W26, ← m7]; exact f8)⟩
    · exfalso; omega
end
section
/-! what was read can be run -/
section WG
variable {t : pT} {n : Nat} {s : pQ} {b c0 : Nat → Int} {h h1 g : Hp} {ms : Zms} {c z : Int}
def pWg (q : pQ) (b : Nat → Int) : Prop := ∀ d : Nat, d < 5 → b d = -1 ∨ ∃ B L : Nat, b d = (B : Int) ∧ 0 < L ∧ B + L < q.2.1 ∧ q.2.2 (B + L) = -21 ∧ ∀ N, eNs N → eSg N q.2.2 (if (d : Int) < 3 then eNum else eBit) B (B + L)
theorem eSg.nw {N f : Nat → Int} {P : Int → Prop} {i j k : Nat} (S : eSg N f P i j) (hk : i + k < j) : f (i + k) ≠ -21 := ((S.2 (fun _ => 0) 0).1 k (by omega)).1.nw
theorem mCd.nw {F : Nat → Int} {j : Nat} {x : Int} (M : mCd F j x) : x ≠ -21 := by
  obtain ⟨e, o⟩ := M
  rw [← e]
  unfold eEn
  rcases o with ⟨o1, o2⟩ | ⟨o1, o2, o3⟩ | o
  · rw [if_pos o1]
    omega
  · rw [if_neg (by omega), if_pos o1]
    omega
  · rw [if_neg (by omega), if_neg (by omega)]
    split
    · omega
    · split
      · omega
      · split <;> omega
theorem eNs_0 : eNs (fun _ => 0) := fun _ _ => by
  show eNum 0
  unfold eNum
  omega
/-- a sheet more, that can be run -/
theorem zCk.sheet {T : Bool × pQ × (Nat → Int)} {p : Int} (K : zCk h) (M : zMs T p h g) (hn : (p = -1 ∧ fld h 37 52 < 8 → fld g 37 52 = fld h 37 52 + 1) ∧ (p ≠ -1 ∨ 8 ≤ fld h 37 52 → fld g 37 52 = fld h 37 52)) (h8 : 0 ≤ fld h 37 52 ∧ fld h 37 52 ≤ 8) (W : p = -1 → pWg T.2.1 T.2.2 ∧ T.2.1.2.1 ≤ 400) : zCk g := by
  intro s c s0 s1 c0 c1 hl
  have old : s < fld h 37 52 → (∀ d : Int, 0 ≤ d → d < 5 → fld g (101 + 6 * s + d) = fld h (101 + 6 * s + d)) → fld g (155 + s) = fld h (155 + s) → _ := fun k e1 e2 => by
    have w := K s c s0 k c0 c1
    rw [← e2] at w
    unfold mCc at w
    rw [← e1 c c0 c1] at w
    exact w hl
  rcases M with ⟨m1, m2, m3, m4⟩ | ⟨m1, m2, m3⟩
  · have hn := hn.1 ⟨m1, m2⟩
    by_cases k : s < fld h 37 52
    · exact old k (fun d d0 d1 => m3.1 _ (by omega) (by omega) (by omega)) (m3.2 _ (by omega) (by omega) (by omega))
    · have es : fld h 37 52 = s := by omega
      obtain ⟨w, w4⟩ := W m1
      rw [es] at m4
      have ec : ((c.toNat : Nat) : Int) = c := by omega
      rcases m4 c.toNat (by omega) with ⟨y1, y2⟩ | ⟨B, l, y1, y2, y3, y4, y5, y6⟩
      · omega
      · dsimp only at y6
        rw [ec] at y6
        rcases w c.toNat (by omega) with x | ⟨B2, L, x1, x2, x3, x4, x5⟩
        · omega
        · have eB : B2 = B := by omega
          subst eB
          have e1 : l = L := by
            by_cases q : l < L
            · exact absurd y5 ((x5 _ eNs_0).nw (by omega))
            · by_cases q2 : L < l
              · exact absurd x4 (y6 L q2).nw
              · omega
          subst e1
          rw [y2, Int.toNat_natCast]
          refine ⟨⟨by omega, fun N hN => ?_⟩, fun k hk => ?_⟩
          · have S := x5 N hN
            rw [ec] at S
            have S2 := eSg_sh (k := 0) (F := mCc g s c) S (fun r hr => by rw [Nat.zero_add]; exact (y6 r hr).1.symm)
            rw [Nat.zero_add] at S2
            exact S2
          · have q := y6 k (by omega)
            have e := q.1
            unfold mCc
            rw [e]
            exact q
  · have hn := hn.2 m1
    exact old (by omega) (fun d d0 d1 => m2 _ (by omega) (by omega)) (m3 _ (by omega) (by omega))
end WG
end
section
/-! what clauses ask by the tables alone -/
section YQ
variable {h g h1 : Hp} {S T : zT} {k v i n : Nat} {x y a b w c z : Int} {ms : Zms} {N M : Nat → Int}
/-- what answers: a clause, a week, names -/
abbrev qT : Type := Int → Int → (Nat → Int) → Int
variable {q : qT}
def yNm0 (w : Int) : Nat → Int := zu (zu (fun _ => 0) 0 w) 1 (w / 13 % 4)
def yIdl (S : zT) (k : Nat) (a : Int) : Int := S 39 (4 * k + a.toNat)
def yNmH (S : zT) (k : Nat) (N : Nat → Int) : Nat → Int := zu (zu (zu (zu (zu N 2 (S 83 k)) 3 (S 80 k)) 4 (S 81 k)) 5 (S 82 k)) 10 (yIdl S (S 79 k).toNat (S 37 0 / 13 % 4))
def yDut (q : qT) (S : zT) (v : Nat) : Int := max (q 2 (S 37 0) (zu (yNm0 (S 37 0)) 12 (S 71 v))) 0
def yOwe (q : qT) (S : zT) (k : Nat) : Int := max (q 0 (S 37 0) (yNmH S k (yNm0 (S 37 0)))) 0
/-- names told alike, so far as they are read -/
def n13 (r : Int) (h : Hp) (N : Nat → Int) : Prop := ∀ j : Nat, j < 13 → fld h r j = N j
theorem n13.zu {r : Int} (H : n13 r h N) (e : fld g r = zu (fld h r) i x) (hx : x = y) : n13 r g (zu N i y) := fun j hj => by
  rw [e, hx]
  by_cases z : j = i
  · rw [z, zu_eq, zu_eq]
  · rw [zu_ne z, zu_ne z]
    exact H j hj
theorem n13.kp {r : Int} (H : n13 r h N) (e : fld g r = fld h r) : n13 r g N := fun j hj => by
  rw [e]
  exact H j hj
theorem n13.cg {r : Int} (H : n13 r h N) (e : N = M) : n13 r h M := e ▸ H
theorem n13.ns {r : Int} (H : n13 r h N) (e : eNs N) : eNs (fld h r) := fun j hj => by
  rw [H j hj]
  exact e j hj
/-- the answer rests on the names told alone -/
theorem zTl_N (H : ∀ j, j < 13 → N j = M j) : zTl h c w N = zTl h c w M := by
  unfold zTl
  rw [eRn_N H]
theorem n13.tl {r : Int} (H : n13 r h N) : zTl g c w (fld h r) = zTl g c w N := zTl_N H
theorem zTl_of (e1 : ∀ r : Int, 101 ≤ r → r ≤ 148 → fld g r = fld h r) (e2 : ∀ r : Int, 155 ≤ r → r ≤ 162 → fld g r = fld h r) (e3 : fld g 164 = fld h 164) (e4 : fld g 165 = fld h 165) (e5 : fld g 37 53 = fld h 37 53) (hF : ∀ k : Nat, (k : Int) < fld h 37 53 → 0 ≤ fld h 164 k ∧ fld h 164 k < 8) (hc : 0 ≤ c ∧ c ≤ 4) : zTl g c w N = zTl h c w N := by
  have e : zWn g c w = zWn h c w := by
    unfold zWn pWhy
    rw [e3, e4, e5]
    have p : pBw (fld h 164) (fld h 165) (fun s => fld g (155 + s) c.toNat) w (fld h 37 53).toNat = pBw (fld h 164) (fld h 165) (fun s => fld h (155 + s) c.toNat) w (fld h 37 53).toNat := pBw_cg _ (fun k hk => by
      have f := hF k (by omega)
      refine ⟨rfl, ?_⟩
      show 0 < fld g (155 + fld h 164 k) c.toNat ↔ 0 < fld h (155 + fld h 164 k) c.toNat
      rw [e2 _ (by omega) (by omega)])
    rw [p]
  by_cases z : zWn h c w = -1
  · rw [zTl_n z, zTl_n (e.trans z)]
  · rw [zTl_y z, zTl_y (by rw [e]; exact z), e]
    have b := pBw_b (fs := fld h 164) (ff := fld h 165) (Lc := fun s => fld h (155 + s) c.toNat) (w := w) (fld h 37 53).toNat
    have f : 0 ≤ zWn h c w ∧ zWn h c w < 8 := by
      unfold zWn pWhy at z ⊢
      split at z
      · exact absurd rfl z
      · rename_i u
        rw [if_neg u]
        exact hF _ (by omega)
    have r : mCc g (zWn h c w) c = mCc h (zWn h c w) c := by
      unfold mCc
      rw [e1 _ (by omega) (by omega)]
    rw [r, e2 _ (by omega) (by omega)]
/-- what evaluation rests on -/
def zRq (q : qT) (h : Hp) : Prop := (zShe h ∧ zFo h ∧ zCk h) ∧ (fld h 13 1 = fld h 37 53 ∧ fld h 14 2 = fld h 37 52) ∧ ∀ c w N, 0 ≤ c → c ≤ 4 → zTl h c w N = q c w N
def zkRq (ms : Zms) : Bool := zkSh ms && (zkFo ms && (zqN ms 37 37 52 54 && (zun ms 164 && zun ms 165)))
theorem zCk.of (K : zCk h) (e1 : ∀ r : Int, 101 ≤ r → r ≤ 148 → fld g r = fld h r) (e2 : ∀ r : Int, 155 ≤ r → r ≤ 162 → fld g r = fld h r) (e3 : fld g 37 52 = fld h 37 52) (h8 : fld h 37 52 ≤ 8) : zCk g := by
  intro s c s0 s1 c0 c1 hl
  rw [e3] at s1
  have r1 := e1 (101 + 6 * s + c) (by omega) (by omega)
  have r2 := e2 (155 + s) (by omega) (by omega)
  have m : mCc g s c = mCc h s c := by
    unfold mCc
    rw [r1]
  rw [r2] at hl ⊢
  rw [r1, m]
  exact K s c s0 s1 c0 c1 hl
theorem zFo.bd (F : zFo h) (C : CI h) (n1 : fld h 13 1 = fld h 37 53) : ∀ k : Nat, (k : Int) < fld h 37 53 → 0 ≤ fld h 164 k ∧ fld h 164 k < 8 := fun k hk => by
  have w := (F k (by omega)).1
  have b := zLb_14 C
  omega
theorem zRq.fr (P : zRq q h) (C : CI h) (R : zXR ms c z h g) (e : zkRq ms = true) : zRq q g := by
  obtain ⟨⟨p1, p2, p3⟩, ⟨p4, p5⟩, p6⟩ := P
  unfold zkRq at e
  simp only [Bool.and_eq_true] at e
  obtain ⟨e1, e2, e3, e4, e5⟩ := e
  have k1 := e1
  unfold zkSh at k1
  simp only [Bool.and_eq_true] at k1
  obtain ⟨k1, -, -, k4, k5⟩ := k1
  have k6 := e2
  unfold zkFo at k6
  simp only [Bool.and_eq_true] at k6
  obtain ⟨-, -, -, -, -, k7⟩ := k6
  have f1 : fld g 37 52 = fld h 37 52 := R.f e3 (by first | decide | exact ⟨by decide, by decide⟩) (by first | decide | exact ⟨by decide, by decide⟩) (by first | decide | exact ⟨by decide, by decide⟩)
  have f2 : fld g 37 53 = fld h 37 53 := R.f e3 (by first | decide | exact ⟨by decide, by decide⟩) (by first | decide | exact ⟨by decide, by decide⟩) (by first | decide | exact ⟨by decide, by decide⟩)
  have f3 : fld g 13 1 = fld h 13 1 := R.f k7 (by first | decide | exact ⟨by decide, by decide⟩) (by first | decide | exact ⟨by decide, by decide⟩) (by first | decide | exact ⟨by decide, by decide⟩)
  have f4 : fld g 14 2 = fld h 14 2 := R.vz (A := 14) (by decide) k1
  have b := zLb_14 C
  have r1 : ∀ r : Int, 101 ≤ r → r ≤ 148 → fld g r = fld h r := fun r u v => R.rw k4 (by decide) (by decide) u v
  have r2 : ∀ r : Int, 155 ≤ r → r ≤ 162 → fld g r = fld h r := fun r u v => R.rw k5 (by decide) (by decide) u v
  refine ⟨⟨p1.kp C R e1, p2.kp C R e2, p3.of r1 r2 f1 (by omega)⟩, (by first | omega | exact ⟨by omega, by omega⟩), fun c w N c0 c1 => ?_⟩
  rw [← p6 c w N c0 c1]
  exact zTl_of r1 r2 (R.fa (a := 164) e4 (by decide)) (R.fa (a := 165) e5 (by decide)) f2 (p2.bd C p4) ⟨c0, c1⟩
end YQ
section YG
variable {S T : zT} {q : qT} {k v i j : Nat} {x y a b c w d : Int} {h : Hp} {N : Nat → Int}
/-- bounds that stay -/
def yOK (S : zT) : Prop := ((0 ≤ S 37 0 ∧ S 37 0 ≤ 156) ∧ (0 ≤ S 37 1 ∧ S 37 1 ≤ 8) ∧ (0 ≤ S 37 2 ∧ S 37 2 ≤ 20) ∧ (0 ≤ S 37 64 ∧ S 37 64 ≤ 300)) ∧
  (∀ k : Nat, (k : Int) < S 37 2 → (0 ≤ S 80 k ∧ S 80 k ≤ 5) ∧ (0 ≤ S 81 k ∧ S 81 k ≤ 9) ∧ (0 ≤ S 82 k ∧ S 82 k ≤ 5) ∧ (0 ≤ S 83 k ∧ S 83 k ≤ 9) ∧ (0 ≤ S 79 k ∧ S 79 k < S 37 1)) ∧
  (∀ v : Nat, (v : Int) < S 37 1 → (1 ≤ S 71 v ∧ S 71 v ≤ 99) ∧ ∀ s : Nat, s < 4 → 0 ≤ S 39 (4 * v + s) ∧ S 39 (4 * v + s) ≤ 40) ∧
  (∀ l : Nat, (l : Int) < S 37 64 → (0 ≤ S 172 l ∧ S 172 l ≤ 60) ∧ (0 ≤ S 173 l ∧ S 173 l ≤ 300) ∧ (0 ≤ S 170 l ∧ S 170 l < S 37 2))
theorem yOK.s (K : yOK S) : (0 ≤ S 37 0 ∧ S 37 0 ≤ 156) ∧ (0 ≤ S 37 1 ∧ S 37 1 ≤ 8) ∧ (0 ≤ S 37 2 ∧ S 37 2 ≤ 20) ∧ (0 ≤ S 37 64 ∧ S 37 64 ≤ 300) := K.1
theorem yOK.ho (K : yOK S) (hk : (k : Int) < S 37 2) : (0 ≤ S 80 k ∧ S 80 k ≤ 5) ∧ (0 ≤ S 81 k ∧ S 81 k ≤ 9) ∧ (0 ≤ S 82 k ∧ S 82 k ≤ 5) ∧ (0 ≤ S 83 k ∧ S 83 k ≤ 9) ∧ (0 ≤ S 79 k ∧ S 79 k < S 37 1) := K.2.1 k hk
theorem yOK.vi (K : yOK S) (hv : (v : Int) < S 37 1) : (1 ≤ S 71 v ∧ S 71 v ≤ 99) ∧ ∀ s : Nat, s < 4 → 0 ≤ S 39 (4 * v + s) ∧ S 39 (4 * v + s) ≤ 40 := K.2.2.1 v hv
theorem yOK.id (K : yOK S) (hv : (v : Int) < S 37 1) (ha : 0 ≤ a ∧ a ≤ 3) : 0 ≤ yIdl S v a ∧ yIdl S v a ≤ 40 := (K.vi hv).2 a.toNat (by omega)
/-- what it rests on -/
def yKt (a i : Nat) : Prop := (a = 37 ∧ (i = 0 ∨ i = 1 ∨ i = 2 ∨ i = 64)) ∨ a = 39 ∨ a = 71 ∨ a = 79 ∨ a = 80 ∨ a = 81 ∨ a = 82 ∨ a = 83 ∨ a = 170 ∨ a = 172 ∨ a = 173
theorem yOK.ag (K : yOK S) (H : ∀ a i, yKt a i → T a i = S a i) : yOK T := by
  have s0 := H 37 0 (Or.inl ⟨rfl, by omega⟩)
  have s1 := H 37 1 (Or.inl ⟨rfl, by omega⟩)
  have s2 := H 37 2 (Or.inl ⟨rfl, by omega⟩)
  have s3 := H 37 64 (Or.inl ⟨rfl, by omega⟩)
  have t : ∀ a i, a = 39 ∨ a = 71 ∨ a = 79 ∨ a = 80 ∨ a = 81 ∨ a = 82 ∨ a = 83 ∨ a = 170 ∨ a = 172 ∨ a = 173 → T a i = S a i := fun a i e => H a i (Or.inr e)
  obtain ⟨k1, k2, k3, k4⟩ := K
  refine ⟨by rw [s0, s1, s2, s3]; exact k1, fun k hk => ?_, fun v hv => ?_, fun l hl => ?_⟩
  · rw [t 80 k (by omega), t 81 k (by omega), t 82 k (by omega), t 83 k (by omega), t 79 k (by omega), s1]
    exact k2 k (by omega)
  · rw [t 71 v (by omega)]
    refine ⟨(k3 v (by omega)).1, fun s hs => ?_⟩
    rw [t 39 _ (by omega)]
    exact (k3 v (by omega)).2 s hs
  · rw [t 172 l (by omega), t 173 l (by omega), t 170 l (by omega), s2]
    exact k4 l (by omega)
theorem yOK.zss {a i : Nat} (K : yOK S) (e : ¬ yKt a i) : yOK (zs S a i x) := K.ag (fun b j hb => by
  rw [zs_if]
  refine if_neg (fun z => e ?_)
  rw [← z.1, ← z.2]
  exact hb)
theorem yKt_n {a i : Nat} (e : (a ≠ 37 ∧ a ≠ 39 ∧ a ≠ 71) ∧ (a < 79 ∨ 83 < a) ∧ (a ≠ 170 ∧ a ≠ 172 ∧ a ≠ 173)) : ¬ yKt a i := by
  unfold yKt
  omega
theorem eNum_of (h : -1000 ≤ x ∧ x ≤ 1000) : eNum x := by
  unfold eNum
  omega
theorem eNs_zu (H : eNs N) (hx : -1000 ≤ x ∧ x ≤ 1000) : eNs (zu N i x) := fun j hj => by
  by_cases z : j = i
  · rw [z, zu_eq]
    exact eNum_of hx
  · rw [zu_ne z]
    exact H j hj
theorem eNs_nm0 (K : yOK S) : eNs (yNm0 (S 37 0)) := eNs_zu (eNs_zu eNs_0 (by have := K.s; omega)) (by have := K.s; omega)
theorem eNs_dut (K : yOK S) (hv : (v : Int) < S 37 1) : eNs (zu (yNm0 (S 37 0)) 12 (S 71 v)) := eNs_zu (eNs_nm0 K) (by have := (K.vi hv).1; omega)
theorem eNs_nmh (K : yOK S) (H : eNs N) (hk : (k : Int) < S 37 2) : eNs (yNmH S k N) := by
  have w := K.ho hk
  have u := K.id (v := (S 79 k).toNat) (a := S 37 0 / 13 % 4) (by omega) (by omega)
  exact eNs_zu (eNs_zu (eNs_zu (eNs_zu (eNs_zu H (by omega)) (by omega)) (by omega)) (by omega)) (by omega)
theorem zTl_num (K : zCk h) (hF : ∀ k : Nat, (k : Int) < fld h 37 53 → 0 ≤ fld h 164 k ∧ fld h 164 k < fld h 37 52) (hN : eNs N) (hc : 0 ≤ c ∧ c < 3) : eNum (zTl h c w N) := by
  by_cases z : zWn h c w = -1
  · rw [zTl_n z]
    split <;> exact eNum_of (by omega)
  · rw [zTl_y z]
    have l := zWn_l hF z
    have k := ((K (zWn h c w) c l.1 l.2.1 hc.1 (by omega) l.2.2).1.2 N hN).fin.2
    rw [if_pos hc.2] at k
    exact k
theorem zTl_bit (K : zCk h) (hF : ∀ k : Nat, (k : Int) < fld h 37 53 → 0 ≤ fld h 164 k ∧ fld h 164 k < fld h 37 52) (hN : eNs N) (hc : 3 ≤ c ∧ c ≤ 4) : eBit (zTl h c w N) := by
  by_cases z : zWn h c w = -1
  · rw [zTl_n z, if_neg (by omega)]
    exact Or.inr rfl
  · rw [zTl_y z]
    have l := zWn_l hF z
    have k := ((K (zWn h c w) c l.1 l.2.1 (by omega) (by omega) l.2.2).1.2 N hN).fin.2
    rw [if_neg (by omega)] at k
    exact k
theorem zRq.bd (P : zRq q h) : ∀ k : Nat, (k : Int) < fld h 37 53 → 0 ≤ fld h 164 k ∧ fld h 164 k < fld h 37 52 := fun k hk => by
  have w := (P.1.2.1 k (by have := P.2.1.1; omega)).1
  have u := P.2.1.2
  omega
theorem zRq.num (P : zRq q h) (hN : eNs N) (hc : 0 ≤ c ∧ c < 3) : eNum (q c w N) := by
  rw [← P.2.2 c w N hc.1 (by omega)]
  exact zTl_num P.1.2.2 P.bd hN hc
theorem zRq.bit (P : zRq q h) (hN : eNs N) (hc : 3 ≤ c ∧ c ≤ 4) : eBit (q c w N) := by
  rw [← P.2.2 c w N (by omega) hc.2]
  exact zTl_bit P.1.2.2 P.bd hN hc
theorem yC_39 {s : Nat} (hk : (k : Int) < fld h 2 2) (hs : s < 4) (h8 : fld h 2 2 ≤ 8) : yC h 39 (4 * k + s) = zid (fld h (zv h 2 k) 1) s := by
  show (if 4 * k + s < 32 ∧ (((4 * k + s) / 4 : Nat) : Int) < fld h 2 2 then zid (fld h (zv h 2 ((4 * k + s) / 4)) 1) ((4 * k + s) % 4) else 0) = _
  rw [show (4 * k + s) / 4 = k by omega, show (4 * k + s) % 4 = s by omega, if_pos ⟨by omega, hk⟩]
/-- what a house likes -/
def yCho (S : zT) (v : Nat) (a b : Int) : Int := if 0 < w32 (S 67 v + S 68 v) ∧ S 70 v ≤ a then (if (0 < S 69 v ∧ w32 (S 71 v + b) ≤ a) ∧ w32 (w32 (S 71 v + b) + S 72 v) < S 70 v then 1 else 0) else (if 0 < S 69 v ∧ w32 (S 71 v + b) ≤ a then 1 else -1)
def ySlH (S : zT) (v : Nat) : zT := if 0 < S 67 v then zs (zs (zs S 67 v (w32 (S 67 v - 1))) 73 v (w32 (S 73 v + S 70 v))) 76 v (w32 (S 76 v + 1)) else zs (zs S 68 v (w32 (S 68 v - 1))) 73 v (w32 (S 73 v + S 70 v))
def ySlM (S : zT) (v : Nat) : zT := zs (zs (zs S 69 v (w32 (S 69 v - 1))) 73 v (w32 (S 73 v + S 71 v))) 77 v (w32 (S 77 v + 1))
def yBya (S : zT) (k : Nat) (c d : Int) : zT := if c = 0 then zs (zs (ySlH S (S 79 k).toNat) 84 k (w32 (S 84 k - S 70 (S 79 k).toNat))) 87 k (w32 (S 87 k + 1)) else if c = 1 then zs (zs (zs (ySlM S (S 79 k).toNat) 84 k (w32 (S 84 k - w32 (S 71 (S 79 k).toNat + d)))) 88 k (w32 (S 88 k + 1))) 37 38 (w32 (S 37 38 + d)) else zs S 86 k (w32 (S 86 k + 1))
def yByd (S : zT) (k : Nat) (d : Int) : zT := yBya S k (yCho S (S 79 k).toNat (S 84 k) d) d
def yByh (q : qT) (S : zT) (k : Nat) : zT := yByd S k (yDut q S (S 79 k).toNat)
def yBys (q : qT) (S : zT) : Nat → zT
  | 0 => S
  | k + 1 => if (yBys q S k 37 0 + yBys q S k 83 k) % 4 = 0 then yByh q (yBys q S k) k else yBys q S k
theorem yBys_s : yBys q S (k + 1) = if (yBys q S k 37 0 + yBys q S k 83 k) % 4 = 0 then yByh q (yBys q S k) k else yBys q S k := rfl
def yByA (q : qT) (S : zT) : zT := yBys q S (S 37 2).toNat
theorem ySlH_n {a : Nat} (e : (a ≠ 67 ∧ a ≠ 76) ∧ (a ≠ 73 ∧ a ≠ 68)) : ySlH S v a i = S a i := by
  obtain ⟨⟨e1, e2⟩, e3, e4⟩ := e
  unfold ySlH
  split
  · rw [zs_na e2, zs_na e3, zs_na e1]
  · rw [zs_na e3, zs_na e4]
theorem ySlM_n {a : Nat} (e : a ≠ 69 ∧ a ≠ 77 ∧ a ≠ 73) : ySlM S v a i = S a i := by
  obtain ⟨e1, e2, e3⟩ := e
  unfold ySlM
  rw [zs_na e2, zs_na e3, zs_na e1]
/-- buying leaves most tables -/
theorem yByd_n {a : Nat} (e : (a ≠ 67 ∧ a ≠ 76 ∧ a ≠ 73 ∧ a ≠ 68) ∧ (a ≠ 69 ∧ a ≠ 77 ∧ a ≠ 84 ∧ a ≠ 87) ∧ (a ≠ 88 ∧ a ≠ 86) ∧ (a ≠ 37 ∨ i ≠ 38)) : yByd S k d a i = S a i := by
  obtain ⟨⟨e1, e2, e3, e4⟩, ⟨e5, e6, e7, e8⟩, ⟨e9, e10⟩, e11⟩ := e
  unfold yByd yBya
  split
  · rw [zs_na e8, zs_na e7, ySlH_n ⟨⟨e1, e2⟩, e3, e4⟩]
  · split
    · rw [zs_if, if_neg (by omega), zs_na e9, zs_na e7, ySlM_n ⟨e5, e6, e3⟩]
    · rw [zs_na e10]
theorem yBys_n {a : Nat} (e : (a ≠ 67 ∧ a ≠ 76 ∧ a ≠ 73 ∧ a ≠ 68) ∧ (a ≠ 69 ∧ a ≠ 77 ∧ a ≠ 84 ∧ a ≠ 87) ∧ (a ≠ 88 ∧ a ≠ 86) ∧ (a ≠ 37 ∨ i ≠ 38)) : ∀ k : Nat, yBys q S k a i = S a i
  | 0 => rfl
  | k + 1 => by
    rw [yBys_s]
    split
    · exact (yByd_n e).trans (yBys_n e k)
    · exact yBys_n e k
theorem yKt_b {a i : Nat} (e : yKt a i) : (a ≠ 67 ∧ a ≠ 76 ∧ a ≠ 73 ∧ a ≠ 68) ∧ (a ≠ 69 ∧ a ≠ 77 ∧ a ≠ 84 ∧ a ≠ 87) ∧ (a ≠ 88 ∧ a ≠ 86) ∧ (a ≠ 37 ∨ i ≠ 38) := by
  unfold yKt at e
  omega
theorem yOK.bys (K : yOK S) (k : Nat) : yOK (yBys q S k) := K.ag (fun _ _ e => yBys_n (yKt_b e) k)
end YG
section YM
variable {h g : Hp} {S : zT} {q : qT} {k v : Nat} {a c w d : Int} {N : Nat → Int} {ms : Zms}
/-- zeros so far -/
theorem zr_w {r k : Int} {n : Nat} (H : ∀ j : Nat, (j : Int) < k → fld h r j = 0) (e : g = wr h r k.toNat 0) (s : sh h r = some (20, n)) (hk : 0 ≤ k ∧ k < n) : ∀ j : Nat, (j : Int) < k + 1 → fld g r j = 0 := fun j hj => by
  rw [e]
  by_cases z : j = k.toNat
  · rw [z]
    exact fld_wr_eq s (by omega)
  · rw [fld_wr (Or.inr z)]
    exact H j (by omega)
/-- what evaluation rests on, in the model -/
def mRq (q : qT) (h : Hp) : Prop := zCk h ∧ (∀ k : Nat, (k : Int) < fld h 37 53 → 0 ≤ fld h 164 k ∧ fld h 164 k < fld h 37 52) ∧ (0 ≤ fld h 37 52 ∧ fld h 37 52 ≤ 8) ∧ ∀ c w N, 0 ≤ c → c ≤ 4 → zTl h c w N = q c w N
def zkMq (ms : Zms) : Bool := (zuw ms 101 148 && zuw ms 155 162) && (zun ms 164 && (zun ms 165 && zqN ms 37 37 52 54))
theorem zMR.rw {a b : Nat} (R : zMR ms h g) (e : zuw ms a b = true) {r : Int} (k1 : (a : Int) ≤ r) (k2 : r ≤ (b : Int)) : fld g r = fld h r := funext fun j => R.2.2.2 _ j (fun f hf hz => by
  have w := List.all_eq_true.mp e f hf
  rw [Bool.or_eq_true] at w
  rcases w with w | w
  · have := Nat.le_of_ble_eq_true w
    omega
  · have := Nat.le_of_ble_eq_true w
    omega)
theorem zMR.un {a : Nat} (R : zMR ms h g) (e : zun ms a = true) : fld g (a : Int) = fld h (a : Int) := R.rw (a := a) (b := a) e (Int.le_refl _) (Int.le_refl _)
theorem mRq.fr (P : mRq q h) (R : zMR ms h g) (e : zkMq ms = true) : mRq q g := by
  obtain ⟨p1, p2, p3, p4⟩ := P
  unfold zkMq at e
  simp only [Bool.and_eq_true] at e
  obtain ⟨⟨e1, e2⟩, e3, e4, e5⟩ := e
  have f1 : fld g 37 52 = fld h 37 52 := R.f e5 (by first | decide | exact ⟨by decide, by decide⟩) (by first | decide | exact ⟨by decide, by decide⟩)
  have f2 : fld g 37 53 = fld h 37 53 := R.f e5 (by first | decide | exact ⟨by decide, by decide⟩) (by first | decide | exact ⟨by decide, by decide⟩)
  have f3 : fld g 164 = fld h 164 := R.un (a := 164) e3
  have f4 : fld g 165 = fld h 165 := R.un (a := 165) e4
  have r1 : ∀ r : Int, 101 ≤ r → r ≤ 148 → fld g r = fld h r := fun r u v => R.rw e1 u v
  have r2 : ∀ r : Int, 155 ≤ r → r ≤ 162 → fld g r = fld h r := fun r u v => R.rw e2 u v
  refine ⟨p1.of r1 r2 f1 p3.2, fun k hk => ?_, by omega, fun c w N c0 c1 => ?_⟩
  · rw [f3, f1]
    exact p2 k (by omega)
  · rw [← p4 c w N c0 c1]
    exact zTl_of r1 r2 f3 f4 f2 (fun k hk => by have := p2 k hk; omega) ⟨c0, c1⟩
theorem mRq.num (P : mRq q h) (hN : eNs N) (hc : 0 ≤ c ∧ c < 3) : eNum (q c w N) := by
  rw [← P.2.2.2 c w N hc.1 (by omega)]
  exact zTl_num P.1 P.2.1 hN hc
theorem mRq.bit (P : mRq q h) (hN : eNs N) (hc : 3 ≤ c ∧ c ≤ 4) : eBit (q c w N) := by
  rw [← P.2.2.2 c w N (by omega) hc.2]
  exact zTl_bit P.1 P.2.1 hN hc
def yCh0 (S : zT) (k : Nat) : Int := if 0 < w32 (S 67 (S 79 k).toNat + S 68 (S 79 k).toNat) ∧ S 70 (S 79 k).toNat ≤ S 84 k then 1 else 0
def yCm0 (S : zT) (k : Nat) (d : Int) : Int := if 0 < S 69 (S 79 k).toNat ∧ w32 (S 71 (S 79 k).toNat + d) ≤ S 84 k then 1 else 0
def yCm1 (q : qT) (S : zT) (k : Nat) : Int := yCm0 S k (yDut q S (S 79 k).toNat)
theorem yCh0_c : (yCh0 S k = 1 ∧ 0 < w32 (S 67 (S 79 k).toNat + S 68 (S 79 k).toNat) ∧ S 70 (S 79 k).toNat ≤ S 84 k) ∨ (yCh0 S k = 0 ∧ (w32 (S 67 (S 79 k).toNat + S 68 (S 79 k).toNat) ≤ 0 ∨ S 84 k < S 70 (S 79 k).toNat)) := by
  unfold yCh0
  split
  · rename_i z
    exact Or.inl ⟨rfl, z⟩
  · exact Or.inr ⟨rfl, by omega⟩
theorem yCm1_c : (yCm1 q S k = 1 ∧ 0 < S 69 (S 79 k).toNat ∧ w32 (S 71 (S 79 k).toNat + yDut q S (S 79 k).toNat) ≤ S 84 k) ∨ (yCm1 q S k = 0 ∧ (S 69 (S 79 k).toNat ≤ 0 ∨ S 84 k < w32 (S 71 (S 79 k).toNat + yDut q S (S 79 k).toNat))) := by
  unfold yCm1 yCm0
  split
  · rename_i z
    exact Or.inl ⟨rfl, z⟩
  · exact Or.inr ⟨rfl, by omega⟩
def yLikA (q : qT) (S : zT) (a : Int) : Int := if 0 ≤ a ∧ a < S 37 2 then yCho S (S 79 a.toNat).toNat (S 84 a.toNat) (yDut q S (S 79 a.toNat).toNat) else -1
end YM
section YD
variable {S : zT} {q : qT} {k v i : Nat} {x : Int}
/-- dues -/
def yDu1 (q : qT) (S : zT) (k : Nat) : zT := if 0 < S 80 k then zs S 93 k (w32 (S 93 k + yOwe q S k)) else S
def yDus (q : qT) (S : zT) : Nat → zT
  | 0 => S
  | k + 1 => yDu1 q (yDus q S k) k
def yDuA (q : qT) (S : zT) : zT := yDus q S (S 37 2).toNat
theorem yDus_n {a : Nat} (e : a ≠ 93) : ∀ k : Nat, yDus q S k a i = S a i
  | 0 => rfl
  | k + 1 => by
    show yDu1 q (yDus q S k) k a i = _
    unfold yDu1
    split
    · rw [zs_na e]
      exact yDus_n e k
    · exact yDus_n e k
theorem yOK.dus (K : yOK S) (k : Nat) : yOK (yDus q S k) := K.ag (fun a i e => yDus_n (by unfold yKt at e; omega) k)
/-- mill prices -/
def yMl1 (S : zT) (v : Nat) : zT := zs (zs (zs S 71 v (if S 77 v < S 78 v then max (S 71 v - 1) 1 else min (S 71 v + 1) 99)) 77 v 0) 78 v (S 77 v)
def yMls (S : zT) : Nat → zT
  | 0 => S
  | v + 1 => yMl1 (yMls S v) v
def yMlA (S : zT) : zT := yMls S (S 37 1).toNat
theorem yMl1_n {a : Nat} (e : a ≠ 71 ∧ a ≠ 77 ∧ a ≠ 78) : yMl1 S v a i = S a i := by
  unfold yMl1
  rw [zs_na e.2.2, zs_na e.2.1, zs_na e.1]
theorem yOK.ml1 (K : yOK S) (hv : (v : Int) < S 37 1) : yOK (yMl1 S v) := by
  have b := (K.vi hv).1
  have K2 : yOK (zs S 71 v (if S 77 v < S 78 v then max (S 71 v - 1) 1 else min (S 71 v + 1) 99)) := by
    refine ⟨by rw [zs_na (by decide), zs_na (by decide), zs_na (by decide), zs_na (by decide)]; exact K.1, fun k hk => ?_, fun u hu => ?_, fun l hl => ?_⟩
    · rw [zs_na (by decide)] at hk
      rw [zs_na (by decide), zs_na (by decide), zs_na (by decide), zs_na (by decide), zs_na (by decide), zs_na (by decide)]
      exact K.2.1 k hk
    · rw [zs_na (by decide)] at hu
      refine ⟨?_, fun s hs => by rw [zs_na (by decide)]; exact (K.vi hu).2 s hs⟩
      by_cases z : u = v
      · rw [z, zs_eq]
        split <;> omega
      · rw [zs_ni z]
        exact (K.vi hu).1
    · rw [zs_na (by decide)] at hl
      rw [zs_na (by decide), zs_na (by decide), zs_na (by decide), zs_na (by decide)]
      exact K.2.2.2 l hl
  exact (K2.zss (yKt_n (by decide))).zss (yKt_n (by decide))
theorem yMls_n {a : Nat} (e : a ≠ 71 ∧ a ≠ 77 ∧ a ≠ 78) : ∀ k : Nat, yMls S k a i = S a i
  | 0 => rfl
  | k + 1 => (yMl1_n e).trans (yMls_n e k)
theorem yOK.mls (K : yOK S) : ∀ k : Nat, (k : Int) ≤ S 37 1 → yOK (yMls S k)
  | 0, _ => K
  | k + 1, h => (K.mls k (by omega)).ml1 (by rw [yMls_n (by decide)]; omega)
end YD
section YS
variable {S : zT} {q : qT}
/-- as a season ends -/
def ySea (q : qT) (S : zT) : zT := yMlA (yDuA q S)
end YS
section YW
variable {S : zT} {v u n i k : Nat} {h g : Hp} {ms : Zms} {c z x r : Int}
/-- a row told so far -/
theorem rw_w {r k x : Int} {f : Nat → Int} {n : Nat} (H : ∀ j : Nat, (j : Int) < k → fld h r j = f j) (e : g = wr h r k.toNat x) (s : sh h r = some (20, n)) (hk : 0 ≤ k ∧ k < n) (hx : x = f k.toNat) : ∀ j : Nat, (j : Int) < k + 1 → fld g r j = f j := fun j hj => by
  rw [e]
  by_cases z : j = k.toNat
  · rw [z, fld_wr_eq s (by omega)]
    exact hx
  · rw [fld_wr (Or.inr z)]
    exact H j (by omega)
/-- the word of village v, behind so many others -/
def yWm (S : zT) (v : Nat) : Nat → Int
  | 0 => max (w32 (S 72 v - 1)) 0
  | u + 1 => if 0 < S 48 (8 * v + u) then max (yWm S v u) (w32 (S 72 u - 2)) else yWm S v u
theorem yWm_0 : yWm S v 0 = max (w32 (S 72 v - 1)) 0 := rfl
theorem yWm_s : yWm S v (u + 1) = if 0 < S 48 (8 * v + u) then max (yWm S v u) (w32 (S 72 u - 2)) else yWm S v u := rfl
def yWds (S : zT) (n : Nat) : Nat → zT
  | 0 => S
  | v + 1 => zs (yWds S n v) 72 v (yWm S v n)
theorem yWds_s : yWds S n (v + 1) = zs (yWds S n v) 72 v (yWm S v n) := rfl
def yWrA (S : zT) : zT := yWds S (S 37 1).toNat (S 37 1).toNat
theorem yWds_n {a : Nat} (e : a ≠ 72) : ∀ k : Nat, yWds S n k a i = S a i
  | 0 => rfl
  | k + 1 => (zs_na e).trans (yWds_n e k)
theorem yOK.wds (K : yOK S) (k : Nat) : yOK (yWds S n k) := K.ag (fun a i e => yWds_n (by unfold yKt at e; omega) k)
/-- the class's roads as they lie -/
def zLw (h : Hp) : Prop := ∀ a b : Nat, a < 8 → b < 8 → (a = b ∧ fld h 7 (8 * a + b) = 0) ∨ (a ≠ b ∧ 1 ≤ fld h 7 (8 * a + b) ∧ fld h 7 (8 * a + b) ≤ 1000000)
theorem zLw.fr (W : zLw h) (R : zXR ms c z h g) (e : zun ms 7 = true) : zLw g := fun a b ha hb => by
  rw [show fld g 7 = fld h 7 from R.fa (a := 7) e (by decide)]
  exact W a b ha hb
theorem zLw.yc {a b : Nat} (W : zLw h) (ha : a < 8) (hb : b < 8) : (a = b ∧ yC h 48 (8 * a + b) = 0) ∨ (a ≠ b ∧ ((fld h 7 (8 * a + b) = 1000000 ∧ yC h 48 (8 * a + b) = 0) ∨ (fld h 7 (8 * a + b) < 1000000 ∧ 0 < yC h 48 (8 * a + b)))) := by
  have e : yC h 48 (8 * a + b) = if fld h 7 (8 * a + b) = 1000000 then 0 else fld h 7 (8 * a + b) := if_pos (show 8 * a + b < 64 by omega)
  rw [e]
  rcases W a b ha hb with ⟨w1, w2⟩ | ⟨w1, w2, w3⟩
  · left
    rw [w2]
    exact ⟨w1, rfl⟩
  · right
    refine ⟨w1, ?_⟩
    by_cases q : fld h 7 (8 * a + b) = 1000000
    · rw [if_pos q]
      exact Or.inl ⟨q, rfl⟩
    · rw [if_neg q]
      exact Or.inr (by first | omega | exact ⟨by omega, by omega⟩)
end YW
section YL
variable {S : zT} {n i k v l : Nat} {a b c d : Int}
def ySmC (S : zT) : Nat → Int
  | 0 => 0
  | v + 1 => w32 (ySmC S v + S 66 v)
theorem ySmC_s : ySmC S (v + 1) = w32 (ySmC S v + S 66 v) := rfl
def ySmL (S : zT) : Nat → Int
  | 0 => 0
  | l + 1 => w32 (ySmL S l + S 175 l)
theorem ySmL_s : ySmL S (l + 1) = w32 (ySmL S l + S 175 l) := rfl
def ySmCA (S : zT) : Int := ySmC S (S 37 1).toNat
def ySmLA (S : zT) : Int := ySmL S (S 37 64).toNat
/-- a week's numbers -/
def yClo (S : zT) (n : Nat) (b c d : Int) : zT := zs (zs (zs (zs (zs (zs (zs S 206 (6 * n) b) 206 (6 * n + 1) c) 206 (6 * n + 2) d) 206 (6 * n + 3) (S 37 69)) 206 (6 * n + 4) (S 37 70)) 206 (6 * n + 5) (w32 (S 37 71 + c))) 37 71 (w32 (S 37 71 + c))
end YL
section YB
variable {S T : zT} {n k v i : Nat} {a : Int}
def yNt (S : zT) (k : Nat) (a : Int) : zT := zs S 57 (157 * k + a.toNat) (S 71 k)
/-- as a week begins -/
def yBg1 (S : zT) (n : Nat) : Nat → zT
  | 0 => S
  | v + 1 => zs (yBg1 S n v) 57 (157 * v + n) (yBg1 S n v 71 v)
theorem yBg1_s : yBg1 S n (v + 1) = zs (yBg1 S n v) 57 (157 * v + n) (yBg1 S n v 71 v) := rfl
def yBg2 (S : zT) : Nat → zT
  | 0 => S
  | k + 1 => zs (yBg2 S k) 92 k 0
theorem yBg2_s : yBg2 S (k + 1) = zs (yBg2 S k) 92 k 0 := rfl
def yBgA (S : zT) : zT := yBg2 (yBg1 S (S 37 0).toNat (S 37 1).toNat) (S 37 2).toNat
theorem yBg1_n {a : Nat} (e : a ≠ 57) : ∀ v : Nat, yBg1 S n v a i = S a i
  | 0 => rfl
  | v + 1 => (zs_na e).trans (yBg1_n e v)
theorem yBg2_n {a : Nat} (e : a ≠ 92) : ∀ v : Nat, yBg2 S v a i = S a i
  | 0 => rfl
  | v + 1 => (zs_na e).trans (yBg2_n e v)
end YB
end
