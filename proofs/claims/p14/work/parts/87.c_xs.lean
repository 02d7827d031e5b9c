/-! contracts of the class -/
-- WheelLand$Reader.advance()Z
set_option maxHeartbeats 6000000 in
theorem x198_ps {sc : List Int} (h : Hp) (C : CI h) (t : pT) (n p : Nat) (B : rB t n h) (pp : fld h 9 3 = (p : Int)) (pn : fld h 9 2 = (p : Int)) (pl : p < n) (NL : ¬ pLet (t p) = true) (ND : ¬ pDig (t p) = true) : zwW sc 7 198 115 [(2, 9)] [] h (zwRt 0 (fun x g => CI g ∧ zXR msxA9 (0) (0) h g ∧ x = 1 ∧ rTok t n g p)) := by
  have X : zXR msxA9 0 0 h h := zXR.rf _ _
  have B1 := B.1
  have B2 := B.2.1
  refine zwW_p [(1, 0, 2), (0, -11, 2), (1, 0, 2)] (q := 119) (ls' := [(2, 9)]) (st' := [(2, 9), (2, -11), (2, 9)]) (by decide +kernel) rfl ?_
  refine zwW_gc C.1 (kd := 7) (bn := 1) (n := 9) (c := 10) (nx := 122) (by decide +kernel) ?_
  refine zwW_p [(1, 0, 2)] (q := 123) (ls' := [(2, 9)]) (st' := [(2, 9), (2, 10), (2, -11), (2, 9)]) (by decide +kernel) rfl ?_
  refine zwW_gs C.1 (kd := 7) (bn := 2) (n := 9) (t := 0) (lo := 0) (hi := 400) (nx := 126) (by decide +kernel) ?_
  intro v1 ev1 lv1 uv1
  refine zwW_al C.1 (a1 := 10) (a2 := 10) (kd := 20) (n := 400) (t := 0) (lo := -2147483648) (hi := 2147483647) (nx := 127) (by decide +kernel) ⟨by decide, by decide⟩ ⟨by omega, by omega⟩ ?_
  intro v2 ev2 lv2 uv2
  have E127 : v2 = fld h 10 p := by rw [ev2]; congr 1; omega
  have L127 := B.bl (i := p) (by omega)
  refine zwW_i2c (nx := 128) (by decide +kernel) ?_
  refine zwW_cst (op := 60) (k' := 240) (n := 1) (nx := 131) (w := -11) (tl := [(0, (v2 % 65536))]) (st' := [(2, 9)]) (by decide +kernel) rfl (by decide +kernel) ⟨by omega, by omega⟩ rfl (m240_p h (-11) (v2 % 65536) (by omega) (by omega) (by omega)) ?_
  rintro v3 _ ⟨rfl, f4, f5, f6⟩
  have T131 : t p = i_byt (v2 % 65536) := by rw [(B.2.2 p (by omega)).2]; congr 1; omega
  have SG : (0 ≤ v3 → pSig (t p) = true) ∧ (v3 < 0 → ¬ pSig (t p) = true) := by rw [rSg, T131]; rcases f6 with ⟨f1, f2⟩ | ⟨f1, f2, f3⟩ <;> first | exact ⟨fun z => by omega, fun _ => fun ⟨i, i1, i2⟩ => f2 i (by omega) i2⟩ | exact ⟨fun _ => ⟨(v3).toNat, by omega, f3⟩, fun z => by omega⟩
  refine zwif_lt (q := 146) (nx := 134) (by decide +kernel) (fun c7 => ?_) (fun c7 => ?_)
  · refine zwW_p [(0, 3, 0)] (q := 147) (ls' := [(2, 9)]) (st' := [(0, 3), (2, 9)]) (by decide +kernel) rfl ?_
    have E147 : 3 = (if pSig (t p) = true then t p else 3) := by first | (rw [if_pos (SG.1 (by omega))]; exact E143) | (rw [if_neg (SG.2 (by omega))])
    refine zwW_ps C.1 (kd := 7) (bn := 4) (n := 9) (lo := -2147483648) (hi := 2147483647) (nx := 150) (by decide +kernel) ⟨by decide, by decide⟩ ?_
    intro h8 eh8 Ih8
    have Ch8 : CI h8 := C.wc eh8 Ih8 (by decide) (by decide)
    have Qh8 : zXR [(9, 9, 4, 5)] 0 0 h h8 := zXR.wc eh8 rfl ⟨by decide, by decide, Or.inl (by decide)⟩ ⟨by decide, by decide⟩
    have Xh8 : zXR msxA9 (0) (0) h h8 := X.tr (c2 := 0) (s2 := 0) Qh8 (by decide +kernel) (by decide) (by decide)
    have th8_9_0 : fld h8 9 0 = fld h 9 0 := Qh8.f (a1 := 9) (a2 := 9) (j1 := 0) (j2 := 1) (by decide +kernel) ⟨by decide, by decide⟩ ⟨by decide, by decide⟩ ⟨by decide, by decide⟩
    have th8_9_2 : fld h8 9 2 = fld h 9 2 := Qh8.f (a1 := 9) (a2 := 9) (j1 := 2) (j2 := 3) (by decide +kernel) ⟨by decide, by decide⟩ ⟨by decide, by decide⟩ ⟨by decide, by decide⟩
    have th8_9_3 : fld h8 9 3 = fld h 9 3 := Qh8.f (a1 := 9) (a2 := 9) (j1 := 3) (j2 := 4) (by decide +kernel) ⟨by decide, by decide⟩ ⟨by decide, by decide⟩ ⟨by decide, by decide⟩
    have th8_9_5 : fld h8 9 5 = fld h 9 5 := Qh8.f (a1 := 9) (a2 := 9) (j1 := 5) (j2 := 6) (by decide +kernel) ⟨by decide, by decide⟩ ⟨by decide, by decide⟩ ⟨by decide, by decide⟩
    have Bh8 : rB t n h8 := B.fr Qh8 (by decide +kernel)
    have th8_9_4 : fld h8 9 4 = 3 := by rw [eh8]; exact fld_wr_eq (C.1.s (a1 := 9) (a2 := 9) (k := 7) (n := 9) (by decide +kernel) (by decide) (by decide)) (by decide)
    refine zwW_p [(1, 0, 2), (12, 0, 0)] (q := 152) (ls' := [(2, 9)]) (st' := [(2, 9), (2, 9)]) (by decide +kernel) rfl ?_
    refine zwW_gs Ch8.1 (kd := 7) (bn := 2) (n := 9) (t := 0) (lo := 0) (hi := 400) (nx := 155) (by decide +kernel) ?_
    intro v9 ev9 lv9 uv9
    refine zwW_p [(0, 1, 0)] (q := 156) (ls' := [(2, 9)]) (st' := [(0, 1), (0, v9), (2, 9)]) (by decide +kernel) rfl ?_
    refine zwW_add (nx := 157) (by decide +kernel) ⟨by omega, by omega⟩ ?_
    refine zwW_ps Ch8.1 (kd := 7) (bn := 2) (n := 9) (lo := 0) (hi := 400) (nx := 160) (by decide +kernel) ⟨by omega, by omega⟩ ?_
    intro h10 eh10 Ih10
    have Ch10 : CI h10 := Ch8.wc eh10 Ih10 (by decide) (by decide)
    have Qh10 : zXR [(9, 9, 2, 3)] 0 0 h8 h10 := zXR.wc eh10 rfl ⟨by decide, by decide, Or.inl (by decide)⟩ ⟨by decide, by decide⟩
    have Xh10 : zXR msxA9 (0) (0) h h10 := Xh8.tr (c2 := 0) (s2 := 0) Qh10 (by decide +kernel) (by decide) (by decide)
    have th10_9_0 : fld h10 9 0 = fld h8 9 0 := Qh10.f (a1 := 9) (a2 := 9) (j1 := 0) (j2 := 1) (by decide +kernel) ⟨by decide, by decide⟩ ⟨by decide, by decide⟩ ⟨by decide, by decide⟩
    have th10_9_3 : fld h10 9 3 = fld h8 9 3 := Qh10.f (a1 := 9) (a2 := 9) (j1 := 3) (j2 := 4) (by decide +kernel) ⟨by decide, by decide⟩ ⟨by decide, by decide⟩ ⟨by decide, by decide⟩
    have th10_9_4 : fld h10 9 4 = fld h8 9 4 := Qh10.f (a1 := 9) (a2 := 9) (j1 := 4) (j2 := 5) (by decide +kernel) ⟨by decide, by decide⟩ ⟨by decide, by decide⟩ ⟨by decide, by decide⟩
    have th10_9_5 : fld h10 9 5 = fld h8 9 5 := Qh10.f (a1 := 9) (a2 := 9) (j1 := 5) (j2 := 6) (by decide +kernel) ⟨by decide, by decide⟩ ⟨by decide, by decide⟩ ⟨by decide, by decide⟩
    have Bh10 : rB t n h10 := Bh8.fr Qh10 (by decide +kernel)
    have th10_9_2 : fld h10 9 2 = (v9 + 1) := by rw [eh10]; exact fld_wr_eq (Ch8.1.s (a1 := 9) (a2 := 9) (k := 7) (n := 9) (by decide +kernel) (by decide) (by decide)) (by decide)
    have P3 : fld h10 9 3 = ((p : Nat) : Int) := by omega
    have P2 : fld h10 9 2 = ((p : Nat) : Int) + 1 := by omega
    have P4 : fld h10 9 4 = 3 := by omega
    have TK : rTok t n h10 p := rTok_s P3 pl NL ND P2 (P4.trans E147)
    refine zwW_p [(0, 1, 0)] (q := 161) (ls' := [(2, 9)]) (st' := [(0, 1)]) (by decide +kernel) rfl ?_
    refine zwW_ret (nx := 162) (a := 1) (b := 0) (by decide +kernel) rfl (Or.inr (Or.inl ⟨rfl, by omega⟩)) ?_
    exact ⟨Ch10, Xh10.le (by decide) (by decide), rfl, by exact TK⟩
  · refine zwW_p [(1, 0, 2)] (q := 135) (ls' := [(2, 9)]) (st' := [(2, 9), (2, 9)]) (by decide +kernel) rfl ?_
    refine zwW_gc C.1 (kd := 7) (bn := 1) (n := 9) (c := 10) (nx := 138) (by decide +kernel) ?_
    refine zwW_p [(1, 0, 2)] (q := 139) (ls' := [(2, 9)]) (st' := [(2, 9), (2, 10), (2, 9)]) (by decide +kernel) rfl ?_
    refine zwW_gs C.1 (kd := 7) (bn := 2) (n := 9) (t := 0) (lo := 0) (hi := 400) (nx := 142) (by decide +kernel) ?_
    intro v11 ev11 lv11 uv11
    refine zwW_al C.1 (a1 := 10) (a2 := 10) (kd := 20) (n := 400) (t := 0) (lo := -2147483648) (hi := 2147483647) (nx := 143) (by decide +kernel) ⟨by decide, by decide⟩ ⟨by omega, by omega⟩ ?_
    intro v12 ev12 lv12 uv12
    have E143 : v12 = t p := by have e : v12 = fld h 10 p := (by rw [ev12]; congr 1; omega); have z := pSig_t.mp (SG.1 (by omega)); omega
    refine zwW_p [(24, 147, 0)] (q := 147) (ls' := [(2, 9)]) (st' := [(0, v12), (2, 9)]) (by decide +kernel) rfl ?_
    have E147 : v12 = (if pSig (t p) = true then t p else 3) := by first | (rw [if_pos (SG.1 (by omega))]; exact E143) | (rw [if_neg (SG.2 (by omega))])
    refine zwW_ps C.1 (kd := 7) (bn := 4) (n := 9) (lo := -2147483648) (hi := 2147483647) (nx := 150) (by decide +kernel) ⟨by omega, by omega⟩ ?_
    intro h13 eh13 Ih13
    have Ch13 : CI h13 := C.wc eh13 Ih13 (by decide) (by decide)
    have Qh13 : zXR [(9, 9, 4, 5)] 0 0 h h13 := zXR.wc eh13 rfl ⟨by decide, by decide, Or.inl (by decide)⟩ ⟨by decide, by decide⟩
    have Xh13 : zXR msxA9 (0) (0) h h13 := X.tr (c2 := 0) (s2 := 0) Qh13 (by decide +kernel) (by decide) (by decide)
    have th13_9_0 : fld h13 9 0 = fld h 9 0 := Qh13.f (a1 := 9) (a2 := 9) (j1 := 0) (j2 := 1) (by decide +kernel) ⟨by decide, by decide⟩ ⟨by decide, by decide⟩ ⟨by decide, by decide⟩
    have th13_9_2 : fld h13 9 2 = fld h 9 2 := Qh13.f (a1 := 9) (a2 := 9) (j1 := 2) (j2 := 3) (by decide +kernel) ⟨by decide, by decide⟩ ⟨by decide, by decide⟩ ⟨by decide, by decide⟩
    have th13_9_3 : fld h13 9 3 = fld h 9 3 := Qh13.f (a1 := 9) (a2 := 9) (j1 := 3) (j2 := 4) (by decide +kernel) ⟨by decide, by decide⟩ ⟨by decide, by decide⟩ ⟨by decide, by decide⟩
    have th13_9_5 : fld h13 9 5 = fld h 9 5 := Qh13.f (a1 := 9) (a2 := 9) (j1 := 5) (j2 := 6) (by decide +kernel) ⟨by decide, by decide⟩ ⟨by decide, by decide⟩ ⟨by decide, by decide⟩
    have Bh13 : rB t n h13 := B.fr Qh13 (by decide +kernel)
    have th13_9_4 : fld h13 9 4 = v12 := by rw [eh13]; exact fld_wr_eq (C.1.s (a1 := 9) (a2 := 9) (k := 7) (n := 9) (by decide +kernel) (by decide) (by decide)) (by decide)
    refine zwW_p [(1, 0, 2), (12, 0, 0)] (q := 152) (ls' := [(2, 9)]) (st' := [(2, 9), (2, 9)]) (by decide +kernel) rfl ?_
    refine zwW_gs Ch13.1 (kd := 7) (bn := 2) (n := 9) (t := 0) (lo := 0) (hi := 400) (nx := 155) (by decide +kernel) ?_
    intro v14 ev14 lv14 uv14
    refine zwW_p [(0, 1, 0)] (q := 156) (ls' := [(2, 9)]) (st' := [(0, 1), (0, v14), (2, 9)]) (by decide +kernel) rfl ?_
    refine zwW_add (nx := 157) (by decide +kernel) ⟨by omega, by omega⟩ ?_
    refine zwW_ps Ch13.1 (kd := 7) (bn := 2) (n := 9) (lo := 0) (hi := 400) (nx := 160) (by decide +kernel) ⟨by omega, by omega⟩ ?_
    intro h15 eh15 Ih15
    have Ch15 : CI h15 := Ch13.wc eh15 Ih15 (by decide) (by decide)
    have Qh15 : zXR [(9, 9, 2, 3)] 0 0 h13 h15 := zXR.wc eh15 rfl ⟨by decide, by decide, Or.inl (by decide)⟩ ⟨by decide, by decide⟩
    have Xh15 : zXR msxA9 (0) (0) h h15 := Xh13.tr (c2 := 0) (s2 := 0) Qh15 (by decide +kernel) (by decide) (by decide)
    have th15_9_0 : fld h15 9 0 = fld h13 9 0 := Qh15.f (a1 := 9) (a2 := 9) (j1 := 0) (j2 := 1) (by decide +kernel) ⟨by decide, by decide⟩ ⟨by decide, by decide⟩ ⟨by decide, by decide⟩
    have th15_9_3 : fld h15 9 3 = fld h13 9 3 := Qh15.f (a1 := 9) (a2 := 9) (j1 := 3) (j2 := 4) (by decide +kernel) ⟨by decide, by decide⟩ ⟨by decide, by decide⟩ ⟨by decide, by decide⟩
    have th15_9_4 : fld h15 9 4 = fld h13 9 4 := Qh15.f (a1 := 9) (a2 := 9) (j1 := 4) (j2 := 5) (by decide +kernel) ⟨by decide, by decide⟩ ⟨by decide, by decide⟩ ⟨by decide, by decide⟩
    have th15_9_5 : fld h15 9 5 = fld h13 9 5 := Qh15.f (a1 := 9) (a2 := 9) (j1 := 5) (j2 := 6) (by decide +kernel) ⟨by decide, by decide⟩ ⟨by decide, by decide⟩ ⟨by decide, by decide⟩
    have Bh15 : rB t n h15 := Bh13.fr Qh15 (by decide +kernel)
    have th15_9_2 : fld h15 9 2 = (v14 + 1) := by rw [eh15]; exact fld_wr_eq (Ch13.1.s (a1 := 9) (a2 := 9) (k := 7) (n := 9) (by decide +kernel) (by decide) (by decide)) (by decide)
    have P3 : fld h15 9 3 = ((p : Nat) : Int) := by omega
    have P2 : fld h15 9 2 = ((p : Nat) : Int) + 1 := by omega
    have P4 : fld h15 9 4 = v12 := by omega
    have TK : rTok t n h15 p := rTok_s P3 pl NL ND P2 (P4.trans E147)
    refine zwW_p [(0, 1, 0)] (q := 161) (ls' := [(2, 9)]) (st' := [(0, 1)]) (by decide +kernel) rfl ?_
    refine zwW_ret (nx := 162) (a := 1) (b := 0) (by decide +kernel) rfl (Or.inr (Or.inl ⟨rfl, by omega⟩)) ?_
    exact ⟨Ch15, Xh15.le (by decide) (by decide), rfl, by exact TK⟩
-- WheelLand$Reader.advance()Z
set_option maxHeartbeats 6000000 in
theorem x198_pt {sc : List Int} (h : Hp) (C : CI h) (t : pT) (n q : Nat) (B : rB t n h) (N52 : pSk t n q = (fld h 9 2).toNat) (pl : fld h 9 2 ≤ n) : zwW sc 7 198 52 [(2, 9)] [] h (zwRt 0 (fun x g => CI g ∧ zXR msxA9 (0) (0) h g ∧ x = 1 ∧ rTok t n g (pSk t n q))) := by
  have X : zXR msxA9 0 0 h h := zXR.rf _ _
  have B1 := B.1
  have B2 := B.2.1
  refine zwW_p [(1, 0, 2), (1, 0, 2)] (q := 54) (ls' := [(2, 9)]) (st' := [(2, 9), (2, 9)]) (by decide +kernel) rfl ?_
  refine zwW_gs C.1 (kd := 7) (bn := 2) (n := 9) (t := 0) (lo := 0) (hi := 400) (nx := 57) (by decide +kernel) ?_
  intro v1 ev1 lv1 uv1
  refine zwW_ps C.1 (kd := 7) (bn := 3) (n := 9) (lo := 0) (hi := 400) (nx := 60) (by decide +kernel) ⟨by omega, by omega⟩ ?_
  intro h2 eh2 Ih2
  have Ch2 : CI h2 := C.wc eh2 Ih2 (by decide) (by decide)
  have Qh2 : zXR [(9, 9, 3, 4)] 0 0 h h2 := zXR.wc eh2 rfl ⟨by decide, by decide, Or.inl (by decide)⟩ ⟨by decide, by decide⟩
  have Xh2 : zXR msxA9 (0) (0) h h2 := X.tr (c2 := 0) (s2 := 0) Qh2 (by decide +kernel) (by decide) (by decide)
  have th2_9_0 : fld h2 9 0 = fld h 9 0 := Qh2.f (a1 := 9) (a2 := 9) (j1 := 0) (j2 := 1) (by decide +kernel) ⟨by decide, by decide⟩ ⟨by decide, by decide⟩ ⟨by decide, by decide⟩
  have th2_9_2 : fld h2 9 2 = fld h 9 2 := Qh2.f (a1 := 9) (a2 := 9) (j1 := 2) (j2 := 3) (by decide +kernel) ⟨by decide, by decide⟩ ⟨by decide, by decide⟩ ⟨by decide, by decide⟩
  have th2_9_4 : fld h2 9 4 = fld h 9 4 := Qh2.f (a1 := 9) (a2 := 9) (j1 := 4) (j2 := 5) (by decide +kernel) ⟨by decide, by decide⟩ ⟨by decide, by decide⟩ ⟨by decide, by decide⟩
  have th2_9_5 : fld h2 9 5 = fld h 9 5 := Qh2.f (a1 := 9) (a2 := 9) (j1 := 5) (j2 := 6) (by decide +kernel) ⟨by decide, by decide⟩ ⟨by decide, by decide⟩ ⟨by decide, by decide⟩
  have Bh2 : rB t n h2 := B.fr Qh2 (by decide +kernel)
  have th2_9_3 : fld h2 9 3 = v1 := by rw [eh2]; exact fld_wr_eq (C.1.s (a1 := 9) (a2 := 9) (k := 7) (n := 9) (by decide +kernel) (by decide) (by decide)) (by decide)
  refine zwW_p [(1, 0, 2)] (q := 61) (ls' := [(2, 9)]) (st' := [(2, 9)]) (by decide +kernel) rfl ?_
  refine zwW_gs Ch2.1 (kd := 7) (bn := 2) (n := 9) (t := 0) (lo := 0) (hi := 400) (nx := 64) (by decide +kernel) ?_
  intro v3 ev3 lv3 uv3
  refine zwW_p [(1, 0, 2)] (q := 65) (ls' := [(2, 9)]) (st' := [(2, 9), (0, v3)]) (by decide +kernel) rfl ?_
  refine zwW_gs Ch2.1 (kd := 7) (bn := 0) (n := 9) (t := 0) (lo := 0) (hi := 400) (nx := 68) (by decide +kernel) ?_
  intro v4 ev4 lv4 uv4
  refine zwic_lt (q := 79) (nx := 71) (by decide +kernel) (fun c5 => ?_) (fun c5 => ?_)
  · refine zwW_p [(1, 0, 2), (1, 0, 2)] (q := 81) (ls' := [(2, 9)]) (st' := [(2, 9), (2, 9)]) (by decide +kernel) rfl ?_
    refine zwW_gs Ch2.1 (kd := 7) (bn := 2) (n := 9) (t := 0) (lo := 0) (hi := 400) (nx := 84) (by decide +kernel) ?_
    intro v6 ev6 lv6 uv6
    refine zwW_cm Ch2.1 (op := 60) (k' := 236) (n := 1) (kd := 7) (m := 9) (nx := 87) (r := 9) (tl := [(0, v6)]) (st' := []) (by decide +kernel) rfl (by decide +kernel) rfl (x236_p h2 Ch2 v6 t n (by omega) (by omega) Bh2) ?_
    rintro x _ ⟨rfl, ⟨rfl, c7⟩ | ⟨rfl, c7⟩⟩
    · rw [ev6, th2_9_2] at c7
      refine zwif_eq (q := 97) (nx := 90) (by decide +kernel) (fun c8 => ?_) (fun c8 => ?_)
      · exfalso; omega
      · refine zwW_p [(1, 0, 2)] (q := 91) (ls' := [(2, 9)]) (st' := [(2, 9)]) (by decide +kernel) rfl ?_
        refine zwW_cmv Ch2.1 (op := 60) (k' := 237) (n := 0) (kd := 7) (m := 9) (nx := 94) (r := 9) (tl := []) (st' := []) (by decide +kernel) rfl (by decide +kernel) rfl (x237_p h2 Ch2 t n (fld h 9 2).toNat Bh2 (by omega) (by omega) (by omega)) ?_
        rintro h12 ⟨Ch12, Qh12, f9, f10, f11⟩
        have Xh12 : zXR msxA9 (0) (0) h h12 := Xh2.tr (c2 := 0) (s2 := 0) Qh12 (by decide +kernel) (by decide) (by decide)
        have th12_9_0 : fld h12 9 0 = fld h2 9 0 := Qh12.f (a1 := 9) (a2 := 9) (j1 := 0) (j2 := 1) (by decide +kernel) ⟨by decide, by decide⟩ ⟨by decide, by decide⟩ ⟨by decide, by decide⟩
        have th12_9_3 : fld h12 9 3 = fld h2 9 3 := Qh12.f (a1 := 9) (a2 := 9) (j1 := 3) (j2 := 4) (by decide +kernel) ⟨by decide, by decide⟩ ⟨by decide, by decide⟩ ⟨by decide, by decide⟩
        have Bh12 : rB t n h12 := Bh2.fr Qh12 (by decide +kernel)
        refine zwW_p [(24, 160, 0)] (q := 160) (ls' := [(2, 9)]) (st' := []) (by decide +kernel) rfl ?_
        have TK : rTok t n h12 (pSk t n q) := by rw [N52]; exact rTok_w (by omega) (by omega) c7.2 f9 f10 f11
        refine zwW_p [(0, 1, 0)] (q := 161) (ls' := [(2, 9)]) (st' := [(0, 1)]) (by decide +kernel) rfl ?_
        refine zwW_ret (nx := 162) (a := 1) (b := 0) (by decide +kernel) rfl (Or.inr (Or.inl ⟨rfl, by omega⟩)) ?_
        exact ⟨Ch12, Xh12.le (by decide) (by decide), rfl, by exact TK⟩
    · rw [ev6, th2_9_2] at c7
      refine zwif_eq (q := 97) (nx := 90) (by decide +kernel) (fun c13 => ?_) (fun c13 => ?_)
      · have NL : ¬ pLet (t (fld h 9 2).toNat) = true := fun z => c7 ⟨by omega, z⟩
        refine zwW_p [(1, 0, 2), (1, 0, 2)] (q := 99) (ls' := [(2, 9)]) (st' := [(2, 9), (2, 9)]) (by decide +kernel) rfl ?_
        refine zwW_gs Ch2.1 (kd := 7) (bn := 2) (n := 9) (t := 0) (lo := 0) (hi := 400) (nx := 102) (by decide +kernel) ?_
        intro v14 ev14 lv14 uv14
        refine zwW_cm Ch2.1 (op := 60) (k' := 238) (n := 1) (kd := 7) (m := 9) (nx := 105) (r := 9) (tl := [(0, v14)]) (st' := []) (by decide +kernel) rfl (by decide +kernel) rfl (x238_p h2 Ch2 v14 t n (by omega) (by omega) Bh2) ?_
        rintro x _ ⟨rfl, ⟨rfl, c15⟩ | ⟨rfl, c15⟩⟩
        · rw [ev14, th2_9_2] at c15
          refine zwif_eq (q := 115) (nx := 108) (by decide +kernel) (fun c16 => ?_) (fun c16 => ?_)
          · exfalso; omega
          · refine zwW_p [(1, 0, 2)] (q := 109) (ls' := [(2, 9)]) (st' := [(2, 9)]) (by decide +kernel) rfl ?_
            refine zwW_cmv Ch2.1 (op := 60) (k' := 239) (n := 0) (kd := 7) (m := 9) (nx := 112) (r := 9) (tl := []) (st' := []) (by decide +kernel) rfl (by decide +kernel) rfl (x239_p h2 Ch2 t n (fld h 9 2).toNat Bh2 (by omega) (by omega) (by omega)) ?_
            rintro h20 ⟨Ch20, Qh20, f17, f18, f19⟩
            have Xh20 : zXR msxA9 (0) (0) h h20 := Xh2.tr (c2 := 0) (s2 := 0) Qh20 (by decide +kernel) (by decide) (by decide)
            have th20_9_0 : fld h20 9 0 = fld h2 9 0 := Qh20.f (a1 := 9) (a2 := 9) (j1 := 0) (j2 := 1) (by decide +kernel) ⟨by decide, by decide⟩ ⟨by decide, by decide⟩ ⟨by decide, by decide⟩
            have th20_9_3 : fld h20 9 3 = fld h2 9 3 := Qh20.f (a1 := 9) (a2 := 9) (j1 := 3) (j2 := 4) (by decide +kernel) ⟨by decide, by decide⟩ ⟨by decide, by decide⟩ ⟨by decide, by decide⟩
            have Bh20 : rB t n h20 := Bh2.fr Qh20 (by decide +kernel)
            refine zwW_p [(24, 160, 0)] (q := 160) (ls' := [(2, 9)]) (st' := []) (by decide +kernel) rfl ?_
            have TK : rTok t n h20 (pSk t n q) := by rw [N52]; exact rTok_d (by omega) (by omega) NL c15.2 f17 f18 f19
            refine zwW_p [(0, 1, 0)] (q := 161) (ls' := [(2, 9)]) (st' := [(0, 1)]) (by decide +kernel) rfl ?_
            refine zwW_ret (nx := 162) (a := 1) (b := 0) (by decide +kernel) rfl (Or.inr (Or.inl ⟨rfl, by omega⟩)) ?_
            exact ⟨Ch20, Xh20.le (by decide) (by decide), rfl, by exact TK⟩
        · rw [ev14, th2_9_2] at c15
          refine zwif_eq (q := 115) (nx := 108) (by decide +kernel) (fun c21 => ?_) (fun c21 => ?_)
          · have ND : ¬ pDig (t (fld h 9 2).toNat) = true := fun z => c15 ⟨by omega, z⟩
            refine zwW_to (x198_ps h2 Ch2 t n (fld h 9 2).toNat Bh2 (by omega) (by omega) (by omega) NL ND) ?_
            rintro r g ⟨x, ex, Cg, RT, hx, K⟩
            exact ⟨x, ex, Cg, Xh2.tr (c2 := 0) (s2 := 0) RT (by decide +kernel) (by decide) (by decide), hx, by rw [N52]; exact K⟩
          · exfalso; omega
      · exfalso; omega
  · refine zwW_p [(1, 0, 2), (0, 0, 0)] (q := 73) (ls' := [(2, 9)]) (st' := [(0, 0), (2, 9)]) (by decide +kernel) rfl ?_
    refine zwW_ps Ch2.1 (kd := 7) (bn := 4) (n := 9) (lo := -2147483648) (hi := 2147483647) (nx := 76) (by decide +kernel) ⟨by decide, by decide⟩ ?_
    intro h22 eh22 Ih22
    have Ch22 : CI h22 := Ch2.wc eh22 Ih22 (by decide) (by decide)
    have Qh22 : zXR [(9, 9, 4, 5)] 0 0 h2 h22 := zXR.wc eh22 rfl ⟨by decide, by decide, Or.inl (by decide)⟩ ⟨by decide, by decide⟩
    have Xh22 : zXR msxA9 (0) (0) h h22 := Xh2.tr (c2 := 0) (s2 := 0) Qh22 (by decide +kernel) (by decide) (by decide)
    have th22_9_0 : fld h22 9 0 = fld h2 9 0 := Qh22.f (a1 := 9) (a2 := 9) (j1 := 0) (j2 := 1) (by decide +kernel) ⟨by decide, by decide⟩ ⟨by decide, by decide⟩ ⟨by decide, by decide⟩
    have th22_9_2 : fld h22 9 2 = fld h2 9 2 := Qh22.f (a1 := 9) (a2 := 9) (j1 := 2) (j2 := 3) (by decide +kernel) ⟨by decide, by decide⟩ ⟨by decide, by decide⟩ ⟨by decide, by decide⟩
    have th22_9_3 : fld h22 9 3 = fld h2 9 3 := Qh22.f (a1 := 9) (a2 := 9) (j1 := 3) (j2 := 4) (by decide +kernel) ⟨by decide, by decide⟩ ⟨by decide, by decide⟩ ⟨by decide, by decide⟩
    have th22_9_5 : fld h22 9 5 = fld h2 9 5 := Qh22.f (a1 := 9) (a2 := 9) (j1 := 5) (j2 := 6) (by decide +kernel) ⟨by decide, by decide⟩ ⟨by decide, by decide⟩ ⟨by decide, by decide⟩
    have Bh22 : rB t n h22 := Bh2.fr Qh22 (by decide +kernel)
    have th22_9_4 : fld h22 9 4 = 0 := by rw [eh22]; exact fld_wr_eq (Ch2.1.s (a1 := 9) (a2 := 9) (k := 7) (n := 9) (by decide +kernel) (by decide) (by decide)) (by decide)
    refine zwW_p [(24, 160, 0)] (q := 160) (ls' := [(2, 9)]) (st' := []) (by decide +kernel) rfl ?_
    have TK : rTok t n h22 (pSk t n q) := by rw [N52]; exact rTok_e (by omega) (by omega) (by omega) (by omega)
    refine zwW_p [(0, 1, 0)] (q := 161) (ls' := [(2, 9)]) (st' := [(0, 1)]) (by decide +kernel) rfl ?_
    refine zwW_ret (nx := 162) (a := 1) (b := 0) (by decide +kernel) rfl (Or.inr (Or.inl ⟨rfl, by omega⟩)) ?_
    exact ⟨Ch22, Xh22.le (by decide) (by decide), rfl, by exact TK⟩
-- WheelLand$Reader.advance()Z
set_option maxHeartbeats 4000000 in
theorem x198_p {sc : List Int} (h : Hp) (C : CI h) (t : pT) (n : Nat) (q : Nat) (B : rB t n h) (pn : fld h 9 2 = (q : Int)) (pl : q ≤ n) : zwC sc 8 198 [(2, 9)] h (zwRt 0 (fun x g => CI g ∧ zXR msxA9 (0) (0) h g ∧ x = 1 ∧ (rTok t n g (pSk t n q)))) := by
  refine zwC_of (D := 7) 1 (by decide +kernel) rfl (ls := [(2, 9)]) rfl ?_
  have X : zXR msxA9 0 0 h h := zXR.rf _ _
  have B1 := B.1
  have B2 := B.2.1
  have L1 : ∀ (n0 : Nat) (hL1 : Hp), n0 = ((400 - fld hL1 9 2)).toNat → (rB t n hL1) → (q ≤ fld hL1 9 2 ∧ fld hL1 9 2 ≤ n) → (pRun pBla t n (fld hL1 9 2).toNat = pRun pBla t n q) → CI hL1 → zXR msxA9 (0) (0) h hL1 → zwW sc (7) 198 0 [(2, 9)] [] hL1 (zwRt 0 (fun x g => CI g ∧ zXR msxA9 (0) (0) h g ∧ x = 1 ∧ (rTok t n g (pSk t n q)))) := by
    intro n0
    induction n0 using Nat.strongRecOn with
    | ind n0 IHL1 =>
      intro hL1 hnL1 iL1_0 iL1_1 iL1_2 ChL1 XhL1
      have BL := iL1_0.1
      refine zwW_p [(1, 0, 2)] (q := 1) (ls' := [(2, 9)]) (st' := [(2, 9)]) (by decide +kernel) rfl ?_
      refine zwW_gs ChL1.1 (kd := 7) (bn := 2) (n := 9) (t := 0) (lo := 0) (hi := 400) (nx := 4) (by decide +kernel) ?_
      intro v2 ev2 lv2 uv2
      refine zwW_p [(1, 0, 2)] (q := 5) (ls' := [(2, 9)]) (st' := [(2, 9), (0, v2)]) (by decide +kernel) rfl ?_
      refine zwW_gs ChL1.1 (kd := 7) (bn := 0) (n := 9) (t := 0) (lo := 0) (hi := 400) (nx := 8) (by decide +kernel) ?_
      intro v3 ev3 lv3 uv3
      refine zwic_ge (q := 52) (nx := 11) (by decide +kernel) (fun c4 => ?_) (fun c4 => ?_)
      · have N52 : pSk t n q = (fld hL1 9 2).toNat := by unfold pSk; rw [← iL1_2]; exact pRun_e (fun z => by first | omega | (have w := (iL1_0.bla (by omega)).mp z.2; omega))
        refine zwW_to (x198_pt hL1 ChL1 t n q iL1_0 N52 (by omega)) ?_
        rintro r g ⟨x, ex, Cg, RT, hx, K⟩
        exact ⟨x, ex, Cg, XhL1.tr (c2 := 0) (s2 := 0) RT (by decide +kernel) (by decide) (by decide), hx, K⟩
      · refine zwW_p [(1, 0, 2)] (q := 12) (ls' := [(2, 9)]) (st' := [(2, 9)]) (by decide +kernel) rfl ?_
        refine zwW_gc ChL1.1 (kd := 7) (bn := 1) (n := 9) (c := 10) (nx := 15) (by decide +kernel) ?_
        refine zwW_p [(1, 0, 2)] (q := 16) (ls' := [(2, 9)]) (st' := [(2, 9), (2, 10)]) (by decide +kernel) rfl ?_
        refine zwW_gs ChL1.1 (kd := 7) (bn := 2) (n := 9) (t := 0) (lo := 0) (hi := 400) (nx := 19) (by decide +kernel) ?_
        intro v5 ev5 lv5 uv5
        refine zwW_al ChL1.1 (a1 := 10) (a2 := 10) (kd := 20) (n := 400) (t := 0) (lo := -2147483648) (hi := 2147483647) (nx := 20) (by decide +kernel) ⟨by decide, by decide⟩ ⟨by omega, by omega⟩ ?_
        intro v6 ev6 lv6 uv6
        have E20 : v6 = fld hL1 10 (fld hL1 9 2).toNat := by rw [ev6]; congr 1; omega
        refine zwW_p [(0, 32, 0)] (q := 22) (ls' := [(2, 9)]) (st' := [(0, 32), (0, v6)]) (by decide +kernel) rfl ?_
        refine zwic_eq (q := 39) (nx := 25) (by decide +kernel) (fun c7 => ?_) (fun c7 => ?_)
        · refine zwW_p [(1, 0, 2), (12, 0, 0)] (q := 41) (ls' := [(2, 9)]) (st' := [(2, 9), (2, 9)]) (by decide +kernel) rfl ?_
          refine zwW_gs ChL1.1 (kd := 7) (bn := 2) (n := 9) (t := 0) (lo := 0) (hi := 400) (nx := 44) (by decide +kernel) ?_
          intro v8 ev8 lv8 uv8
          refine zwW_p [(0, 1, 0)] (q := 45) (ls' := [(2, 9)]) (st' := [(0, 1), (0, v8), (2, 9)]) (by decide +kernel) rfl ?_
          refine zwW_add (nx := 46) (by decide +kernel) ⟨by omega, by omega⟩ ?_
          refine zwW_ps ChL1.1 (kd := 7) (bn := 2) (n := 9) (lo := 0) (hi := 400) (nx := 49) (by decide +kernel) ⟨by omega, by omega⟩ ?_
          intro h9 eh9 Ih9
          have Ch9 : CI h9 := ChL1.wc eh9 Ih9 (by decide) (by decide)
          have Qh9 : zXR [(9, 9, 2, 3)] 0 0 hL1 h9 := zXR.wc eh9 rfl ⟨by decide, by decide, Or.inl (by decide)⟩ ⟨by decide, by decide⟩
          have Xh9 : zXR msxA9 (0) (0) h h9 := XhL1.tr (c2 := 0) (s2 := 0) Qh9 (by decide +kernel) (by decide) (by decide)
          have th9_9_0 : fld h9 9 0 = fld hL1 9 0 := Qh9.f (a1 := 9) (a2 := 9) (j1 := 0) (j2 := 1) (by decide +kernel) ⟨by decide, by decide⟩ ⟨by decide, by decide⟩ ⟨by decide, by decide⟩
          have th9_9_3 : fld h9 9 3 = fld hL1 9 3 := Qh9.f (a1 := 9) (a2 := 9) (j1 := 3) (j2 := 4) (by decide +kernel) ⟨by decide, by decide⟩ ⟨by decide, by decide⟩ ⟨by decide, by decide⟩
          have th9_9_4 : fld h9 9 4 = fld hL1 9 4 := Qh9.f (a1 := 9) (a2 := 9) (j1 := 4) (j2 := 5) (by decide +kernel) ⟨by decide, by decide⟩ ⟨by decide, by decide⟩ ⟨by decide, by decide⟩
          have th9_9_5 : fld h9 9 5 = fld hL1 9 5 := Qh9.f (a1 := 9) (a2 := 9) (j1 := 5) (j2 := 6) (by decide +kernel) ⟨by decide, by decide⟩ ⟨by decide, by decide⟩ ⟨by decide, by decide⟩
          have Bh9 : rB t n h9 := iL1_0.fr Qh9 (by decide +kernel)
          have th9_9_2 : fld h9 9 2 = (v8 + 1) := by rw [eh9]; exact fld_wr_eq (ChL1.1.s (a1 := 9) (a2 := 9) (k := 7) (n := 9) (by decide +kernel) (by decide) (by decide)) (by decide)
          have PR : pRun pBla t n (fld h9 9 2).toNat = pRun pBla t n q := by rw [← iL1_2, show (fld h9 9 2).toNat = (fld hL1 9 2).toNat + 1 by omega]; exact (pRun_s (by omega) ((iL1_0.bla (by omega)).mpr (by omega))).symm
          refine zwW_p [(24, 0, 0)] (q := 0) (ls' := [(2, 9)]) (st' := []) (by decide +kernel) rfl ?_
          exact IHL1 ((400 - fld h9 9 2)).toNat (by omega) h9 rfl (Bh9) (by omega) (PR) Ch9 (Xh9.le (by decide) (by decide))
        · refine zwW_p [(1, 0, 2)] (q := 26) (ls' := [(2, 9)]) (st' := [(2, 9)]) (by decide +kernel) rfl ?_
          refine zwW_gc ChL1.1 (kd := 7) (bn := 1) (n := 9) (c := 10) (nx := 29) (by decide +kernel) ?_
          refine zwW_p [(1, 0, 2)] (q := 30) (ls' := [(2, 9)]) (st' := [(2, 9), (2, 10)]) (by decide +kernel) rfl ?_
          refine zwW_gs ChL1.1 (kd := 7) (bn := 2) (n := 9) (t := 0) (lo := 0) (hi := 400) (nx := 33) (by decide +kernel) ?_
          intro v10 ev10 lv10 uv10
          refine zwW_al ChL1.1 (a1 := 10) (a2 := 10) (kd := 20) (n := 400) (t := 0) (lo := -2147483648) (hi := 2147483647) (nx := 34) (by decide +kernel) ⟨by decide, by decide⟩ ⟨by omega, by omega⟩ ?_
          intro v11 ev11 lv11 uv11
          have E34 : v11 = fld hL1 10 (fld hL1 9 2).toNat := by rw [ev11]; congr 1; omega
          refine zwW_p [(0, 10, 0)] (q := 36) (ls' := [(2, 9)]) (st' := [(0, 10), (0, v11)]) (by decide +kernel) rfl ?_
          refine zwic_ne (q := 52) (nx := 39) (by decide +kernel) (fun c12 => ?_) (fun c12 => ?_)
          · have N52 : pSk t n q = (fld hL1 9 2).toNat := by unfold pSk; rw [← iL1_2]; exact pRun_e (fun z => by first | omega | (have w := (iL1_0.bla (by omega)).mp z.2; omega))
            refine zwW_to (x198_pt hL1 ChL1 t n q iL1_0 N52 (by omega)) ?_
            rintro r g ⟨x, ex, Cg, RT, hx, K⟩
            exact ⟨x, ex, Cg, XhL1.tr (c2 := 0) (s2 := 0) RT (by decide +kernel) (by decide) (by decide), hx, K⟩
          · refine zwW_p [(1, 0, 2), (12, 0, 0)] (q := 41) (ls' := [(2, 9)]) (st' := [(2, 9), (2, 9)]) (by decide +kernel) rfl ?_
            refine zwW_gs ChL1.1 (kd := 7) (bn := 2) (n := 9) (t := 0) (lo := 0) (hi := 400) (nx := 44) (by decide +kernel) ?_
            intro v13 ev13 lv13 uv13
            refine zwW_p [(0, 1, 0)] (q := 45) (ls' := [(2, 9)]) (st' := [(0, 1), (0, v13), (2, 9)]) (by decide +kernel) rfl ?_
            refine zwW_add (nx := 46) (by decide +kernel) ⟨by omega, by omega⟩ ?_
            refine zwW_ps ChL1.1 (kd := 7) (bn := 2) (n := 9) (lo := 0) (hi := 400) (nx := 49) (by decide +kernel) ⟨by omega, by omega⟩ ?_
            intro h14 eh14 Ih14
            have Ch14 : CI h14 := ChL1.wc eh14 Ih14 (by decide) (by decide)
            have Qh14 : zXR [(9, 9, 2, 3)] 0 0 hL1 h14 := zXR.wc eh14 rfl ⟨by decide, by decide, Or.inl (by decide)⟩ ⟨by decide, by decide⟩
            have Xh14 : zXR msxA9 (0) (0) h h14 := XhL1.tr (c2 := 0) (s2 := 0) Qh14 (by decide +kernel) (by decide) (by decide)
            have th14_9_0 : fld h14 9 0 = fld hL1 9 0 := Qh14.f (a1 := 9) (a2 := 9) (j1 := 0) (j2 := 1) (by decide +kernel) ⟨by decide, by decide⟩ ⟨by decide, by decide⟩ ⟨by decide, by decide⟩
            have th14_9_3 : fld h14 9 3 = fld hL1 9 3 := Qh14.f (a1 := 9) (a2 := 9) (j1 := 3) (j2 := 4) (by decide +kernel) ⟨by decide, by decide⟩ ⟨by decide, by decide⟩ ⟨by decide, by decide⟩
            have th14_9_4 : fld h14 9 4 = fld hL1 9 4 := Qh14.f (a1 := 9) (a2 := 9) (j1 := 4) (j2 := 5) (by decide +kernel) ⟨by decide, by decide⟩ ⟨by decide, by decide⟩ ⟨by decide, by decide⟩
            have th14_9_5 : fld h14 9 5 = fld hL1 9 5 := Qh14.f (a1 := 9) (a2 := 9) (j1 := 5) (j2 := 6) (by decide +kernel) ⟨by decide, by decide⟩ ⟨by decide, by decide⟩ ⟨by decide, by decide⟩
            have Bh14 : rB t n h14 := iL1_0.fr Qh14 (by decide +kernel)
            have th14_9_2 : fld h14 9 2 = (v13 + 1) := by rw [eh14]; exact fld_wr_eq (ChL1.1.s (a1 := 9) (a2 := 9) (k := 7) (n := 9) (by decide +kernel) (by decide) (by decide)) (by decide)
            have PR : pRun pBla t n (fld h14 9 2).toNat = pRun pBla t n q := by rw [← iL1_2, show (fld h14 9 2).toNat = (fld hL1 9 2).toNat + 1 by omega]; exact (pRun_s (by omega) ((iL1_0.bla (by omega)).mpr (by omega))).symm
            refine zwW_p [(24, 0, 0)] (q := 0) (ls' := [(2, 9)]) (st' := []) (by decide +kernel) rfl ?_
            exact IHL1 ((400 - fld h14 9 2)).toNat (by omega) h14 rfl (Bh14) (by omega) (PR) Ch14 (Xh14.le (by decide) (by decide))
  exact L1 _ h rfl (B) (by omega) (by rw [show (fld h 9 2).toNat = q by omega]) C (X.le (by decide) (by decide))
