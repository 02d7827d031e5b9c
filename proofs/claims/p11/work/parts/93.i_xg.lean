/-! contracts of the class -/
def msx235_z : Zms := [(1020, 1020, 0, 100000)]
-- WheelLand$Village.noteMillPrice(I)V
theorem x235_z {sc : List Int} (h : Hp) (C : CI h) (r a : Int) (G_r : gV h r) (q_a : -2147483648 ≤ a ∧ a ≤ 2147483647) (J : yR h) (k : Nat) (P_r : r = zv h 2 k ∧ (k : Int) < fld h 2 2) (PD : zPd h) (pa : 0 ≤ a ∧ a < 157 ∧ a ≤ fld h 1 0) : zwC sc 1 235 [(2, r), (0, a)] h (zwRv (fun g => CI g ∧ zXR msx235_z (0) (0) h g ∧ (∀ q : Int, q ≠ fld h r 16 → fld g q = fld h q) ∧ (yC g = yNt (yC h) k a) ∧ (yR g))) := by
  refine zwC_of (D := 0) 2 (by decide +kernel) rfl (ls := [(2, r), (0, a)]) rfl ?_
  have lw_r := G_r.1
  have X : zXR msx235_z 0 0 h h := zXR.rf _ _
  have u0 : yC h 37 0 = fld h 1 0 := rfl
  have u1 : yC h 37 1 = fld h 2 2 := rfl
  have u2 : yC h 37 2 = fld h 3 2 := rfl
  have u64 : yC h 37 64 = fld h 4 2 := rfl
  have u78 : yC h 37 78 = fld h 5 2 := rfl
  refine zwW_p [(1, 1, 0)] (q := 1) (ls' := [(2, r), (0, a)]) (st' := [(0, a)]) (by decide +kernel) rfl ?_
  refine zwif_lt (q := 23) (nx := 4) (by decide +kernel) (fun c1 => ?_) (fun c1 => ?_)
  · exfalso; omega
  · refine zwW_p [(1, 1, 0), (1, 0, 2)] (q := 6) (ls' := [(2, r), (0, a)]) (st' := [(2, r), (0, a)]) (by decide +kernel) rfl ?_
    refine zwW_get (kd := 11) (bn := 16) (t := 2) (n := 17) (nx := 9) (by decide +kernel) G_r.2.1 rfl ?_
    obtain ⟨v2, ev2⟩ : ∃ z, z = fld h r 16 := ⟨_, rfl⟩
    rw [← ev2]
    have Gv2 : gA 157 h v2 := by rw [ev2]; exact G_r.2.2
    have lv2 := Gv2.1
    refine zwW_len (n := 157) (nx := 10) (by decide +kernel) Gv2.2 rfl ?_
    refine zwic_ge (q := 23) (nx := 13) (by decide +kernel) (fun c3 => ?_) (fun c3 => ?_)
    · exfalso; omega
    · refine zwW_p [(1, 0, 2)] (q := 14) (ls' := [(2, r), (0, a)]) (st' := [(2, r)]) (by decide +kernel) rfl ?_
      refine zwW_get (kd := 11) (bn := 16) (t := 2) (n := 17) (nx := 17) (by decide +kernel) G_r.2.1 rfl ?_
      rw [← ev2]
      refine zwW_p [(1, 1, 0), (1, 0, 2)] (q := 19) (ls' := [(2, r), (0, a)]) (st' := [(2, r), (0, a), (2, v2)]) (by decide +kernel) rfl ?_
      refine zwX_gi C (kd := 11) (bn := 9) (n := 17) (nx := 22) (by decide +kernel) G_r.2.1 G_r.1 rfl ?_
      intro v5 ev5 lv5 uv5
      have sv5 : v5 = (yC h) 71 k := Eq.trans ev5 (Eq.trans (congrArg (fun q => fld h q 9) P_r.1) (Eq.trans (Eq.symm (yC_f (h := h) (a := 71) (A := 2) (j := 9) (i := k) rfl P_r.2)) (Eq.trans (congrFun (congrFun (rfl : yC h = yC h) 71) k) rfl)))
      refine zwX_si C (n := 157) (nx := 23) (by decide +kernel) Gv2.2 Gv2.1 ⟨by omega, by omega⟩ ⟨by omega, by omega⟩ (by omega) ?_
      rintro h6 eh6 Ch6 Qh6
      have Y22 : yC h6 = zs (yC h) 57 (157 * k + a.toNat) ((yC h) 71 k) := by
        rw [← sv5]
        exact yC_w57 C PD P_r.2 ⟨by omega, by omega⟩ (by rw [ev2, P_r.1]) eh6
      have W22 : ∀ q : Int, q ≠ fld h r 16 → fld h6 q = fld h q := fun q hq => fld_o eh6 (fun z => hq (z.trans ev2))
      have Xh6 : zXR msx235_z (0) (0) h h6 := X.tr (c2 := 0) (s2 := 0) Qh6 (by decide +kernel) (by decide) (by decide)
      have Gh6_0 : gV h6 r := G_r.x Qh6
      have Jh6 : yR h6 := J.fr C Qh6 (by decide +kernel)
      have pr_h6 : r = zv h6 2 k ∧ ((k : Nat) : Int) < fld h6 2 2 := zpv C Qh6 (A := 2) (by decide) (by decide +kernel) P_r
      refine zwW_retv (nx := 24) (a := 0) (b := 0) (by decide +kernel) ?_
      exact ⟨Ch6, Xh6.le (by decide) (by decide), by first | exact W22 | exact fun q hq => W22 q (fun z => hq (z.trans ev2.symm)) | (exfalso; omega), by first | exact Y22 | (exfalso; omega), by exact Jh6⟩
def msx193_z : Zms := [(1004, 1004, 14, 15), (1020, 1020, 0, 100000)]
-- WheelLand.beginWeek()V
theorem x193_z {sc : List Int} (h : Hp) (C : CI h) (J : yR h) (PD : zPd h) : zwC sc 5 193 [(2, 1)] h (zwRv (fun g => CI g ∧ zXR msx193_z (0) (0) h g ∧ (zKw h g) ∧ (yC g = yBgA (yC h)) ∧ (yR g))) := by
  refine zwC_of (D := 4) 2 (by decide +kernel) rfl (ls := [(2, 1), (9, 0)]) rfl ?_
  have X : zXR msx193_z 0 0 h h := zXR.rf _ _
  have u0 : yC h 37 0 = fld h 1 0 := rfl
  have u1 : yC h 37 1 = fld h 2 2 := rfl
  have u2 : yC h 37 2 = fld h 3 2 := rfl
  have u64 : yC h 37 64 = fld h 4 2 := rfl
  have u78 : yC h 37 78 = fld h 5 2 := rfl
  have K : zKw h h := zKw.rf
  have b22 := zLb_2 C
  have b33 := zLb_3 C
  refine zwW_p [(0, 0, 0), (2, 1, 0)] (q := 2) (ls' := [(2, 1), (0, 0)]) (st' := []) (by decide +kernel) rfl ?_
  have L1 : ∀ (n0 : Nat) (vL1 : Int) (hL1 : Hp), n0 = ((1000 - vL1)).toNat → (zKw h hL1) → (zPd hL1) → (vL1 ≤ fld h 2 2 ∧ fld hL1 2 2 = fld h 2 2 ∧ fld hL1 3 2 = fld h 3 2 ∧ fld hL1 1 0 = fld h 1 0) → (0 ≤ vL1 ∧ vL1 ≤ 8) → (yC hL1 = (yBg1 (yC h) (yC h 37 0).toNat (vL1).toNat)) → (yR hL1) → CI hL1 → zXR msx193_z (0) (0) h hL1 → zwW sc (4) 193 2 [(2, 1), (0, vL1)] [] hL1 (zwRv (fun g => CI g ∧ zXR msx193_z (0) (0) h g ∧ (zKw h g) ∧ (yC g = yBgA (yC h)) ∧ (yR g))) := by
    intro n0
    induction n0 using Nat.strongRecOn with
    | ind n0 IHL1 =>
      intro vL1 hL1 hnL1 iL1_0 iL1_1 iL1_2 iL1_3 iL1_4 iL1_5 ChL1 XhL1
      refine zwW_p [(1, 1, 0), (1, 0, 2)] (q := 4) (ls' := [(2, 1), (0, vL1)]) (st' := [(2, 1), (0, vL1)]) (by decide +kernel) rfl ?_
      refine zwW_gc ChL1.1 (kd := 12) (bn := 2) (n := 13) (c := 2) (nx := 7) (by decide +kernel) ?_
      refine zwW_cm ChL1.1 (op := 60) (k' := 96) (n := 0) (kd := 0) (m := 3) (nx := 10) (r := 2) (tl := []) (st' := [(0, vL1)]) (by decide +kernel) rfl (by decide +kernel) rfl (x96_2 ChL1) ?_
      rintro v2 _ ⟨rfl, ev2⟩
      have bv2 := zLb_2 ChL1
      have sv2 : v2 = (yBg1 (yC h) (yC h 37 0).toNat (vL1).toNat) 37 1 := Eq.trans ev2 (Eq.trans (Eq.symm (yC_s (h := hL1) (i := 1) rfl)) (Eq.trans (congrFun (congrFun iL1_4 37) 1) rfl))
      refine zwic_ge (q := 37) (nx := 13) (by decide +kernel) (fun c3 => ?_) (fun c3 => ?_)
      · refine zwW_p [(0, 0, 0), (2, 1, 0)] (q := 39) (ls' := [(2, 1), (0, 0)]) (st' := []) (by decide +kernel) rfl ?_
        have L4 : ∀ (n0 : Nat) (kL4 : Int) (hL4 : Hp), n0 = ((1000 - kL4)).toNat → (zKw h hL4) → (kL4 ≤ fld h 3 2 ∧ fld hL4 3 2 = fld h 3 2 ∧ fld hL4 1 0 = fld h 1 0) → (0 ≤ kL4 ∧ kL4 ≤ 20) → (yC hL4 = (yBg2 (yBg1 (yC h) (yC h 37 0).toNat (yC h 37 1).toNat) (kL4).toNat)) → (yR hL4) → CI hL4 → zXR msx193_z (0) (0) h hL4 → zwW sc (4) 193 39 [(2, 1), (0, kL4)] [] hL4 (zwRv (fun g => CI g ∧ zXR msx193_z (0) (0) h g ∧ (zKw h g) ∧ (yC g = yBgA (yC h)) ∧ (yR g))) := by
          intro n0
          induction n0 using Nat.strongRecOn with
          | ind n0 IHL4 =>
            intro kL4 hL4 hnL4 iL4_0 iL4_1 iL4_2 iL4_3 iL4_4 ChL4 XhL4
            refine zwW_p [(1, 1, 0), (1, 0, 2)] (q := 41) (ls' := [(2, 1), (0, kL4)]) (st' := [(2, 1), (0, kL4)]) (by decide +kernel) rfl ?_
            refine zwW_gc ChL4.1 (kd := 12) (bn := 3) (n := 13) (c := 3) (nx := 44) (by decide +kernel) ?_
            refine zwW_cm ChL4.1 (op := 60) (k' := 96) (n := 0) (kd := 0) (m := 3) (nx := 47) (r := 3) (tl := []) (st' := [(0, kL4)]) (by decide +kernel) rfl (by decide +kernel) rfl (x96_3 ChL4) ?_
            rintro v5 _ ⟨rfl, ev5⟩
            have bv5 := zLb_3 ChL4
            have sv5 : v5 = (yBg2 (yBg1 (yC h) (yC h 37 0).toNat (yC h 37 1).toNat) (kL4).toNat) 37 2 := Eq.trans ev5 (Eq.trans (Eq.symm (yC_s (h := hL4) (i := 2) rfl)) (Eq.trans (congrFun (congrFun iL4_3 37) 2) rfl))
            refine zwic_ge (q := 71) (nx := 50) (by decide +kernel) (fun c6 => ?_) (fun c6 => ?_)
            · refine zwW_retv (nx := 72) (a := 0) (b := 0) (by decide +kernel) ?_
              exact ⟨ChL4, XhL4.le (by decide) (by decide), by exact iL4_0, by refine Eq.trans iL4_3 ?_; unfold yBgA; rw [show (yC h 37 2).toNat = (kL4).toNat by omega], by exact iL4_4⟩
            · refine zwW_p [(1, 0, 2)] (q := 51) (ls' := [(2, 1), (0, kL4)]) (st' := [(2, 1)]) (by decide +kernel) rfl ?_
              refine zwW_gc ChL4.1 (kd := 12) (bn := 3) (n := 13) (c := 3) (nx := 54) (by decide +kernel) ?_
              refine zwW_p [(1, 1, 0)] (q := 55) (ls' := [(2, 1), (0, kL4)]) (st' := [(0, kL4), (2, 3)]) (by decide +kernel) rfl ?_
              refine zwW_cm ChL4.1 (op := 60) (k' := 123) (n := 1) (kd := 0) (m := 3) (nx := 58) (r := 3) (tl := [(0, kL4)]) (st' := []) (by decide +kernel) rfl (by decide +kernel) rfl (x123_3 ChL4 (i := kL4) ⟨by omega, by omega⟩) ?_
              rintro v7 _ ⟨rfl, Gv7, ev7⟩
              have lv7 := Gv7.1
              have pv7 : v7 = zv hL4 3 kL4.toNat ∧ ((kL4.toNat : Nat) : Int) < fld hL4 3 2 := ⟨ev7, by omega⟩
              refine zwW_cast (a := 4) (kd := 4) (n := 19) (nx := 61) (by decide +kernel) rfl (Or.inr Gv7.2.1) ?_
              refine zwW_p [(0, 0, 0)] (q := 62) (ls' := [(2, 1), (0, kL4)]) (st' := [(0, 0), (2, v7)]) (by decide +kernel) rfl ?_
              refine zwX_pi ChL4 (kd := 4) (bn := 14) (n := 19) (nx := 65) (by decide +kernel) Gv7.2.1 Gv7.1 ⟨by decide, by decide⟩ ?_
              rintro h8 eh8 Ch8 Qh8
              have Zh8 : yC h8 = (zs (yBg2 (yBg1 (yC h) (yC h 37 0).toNat (yC h 37 1).toNat) (kL4).toNat) 92 kL4.toNat 0) := by rw [yC_w (a := 92) (A := 3) (j := 14) (k := kL4.toNat) ChL4 iL4_4 rfl pv7 eh8, iL4_3]
              have Xh8 : zXR msx193_z (0) (0) h h8 := XhL4.tr (c2 := 0) (s2 := 0) Qh8 (by decide +kernel) (by decide) (by decide)
              have Jh8 : yR h8 := iL4_4.fr ChL4 Qh8 (by decide +kernel)
              have th8_1_0 : fld h8 1 0 = fld hL4 1 0 := Qh8.f (a1 := 1) (a2 := 1) (j1 := 0) (j2 := 1) (by decide +kernel) ⟨by decide, by decide⟩ ⟨by decide, by decide⟩ ⟨by decide, by decide⟩
              have th8_2_2 : fld h8 2 2 = fld hL4 2 2 := Qh8.f (a1 := 2) (a2 := 2) (j1 := 2) (j2 := 3) (by decide +kernel) ⟨by decide, by decide⟩ ⟨by decide, by decide⟩ ⟨by decide, by decide⟩
              have th8_3_2 : fld h8 3 2 = fld hL4 3 2 := Qh8.f (a1 := 3) (a2 := 3) (j1 := 2) (j2 := 3) (by decide +kernel) ⟨by decide, by decide⟩ ⟨by decide, by decide⟩ ⟨by decide, by decide⟩
              have Kh8 : zKw h h8 := iL4_0.fr Qh8 (by decide +kernel)
              refine zwW_inc (i := 1) (c := 1) (x := kL4) (nx := 68) (by decide +kernel) rfl ⟨by omega, by omega⟩ (ls' := [(2, 1), (0, (kL4 + 1))]) rfl ?_
              refine zwW_p [(24, 39, 0)] (q := 39) (ls' := [(2, 1), (0, (kL4 + 1))]) (st' := []) (by decide +kernel) rfl ?_
              exact IHL4 ((1000 - (kL4 + 1))).toNat (by omega) (kL4 + 1) h8 rfl (Kh8) (by omega) (by omega) (by rw [show (kL4 + 1).toNat = (kL4).toNat + 1 by omega, yBg2_s]; exact Zh8) (Jh8) Ch8 (Xh8.le (by decide) (by decide))
        exact L4 _ 0 hL1 rfl (iL1_0) (by omega) (by omega) (iL1_4.trans (by rw [show (vL1).toNat = (yC h 37 1).toNat by omega]; rfl)) (iL1_5) ChL1 (XhL1.le (by decide) (by decide))
      · refine zwW_p [(1, 0, 2)] (q := 14) (ls' := [(2, 1), (0, vL1)]) (st' := [(2, 1)]) (by decide +kernel) rfl ?_
        refine zwW_gc ChL1.1 (kd := 12) (bn := 2) (n := 13) (c := 2) (nx := 17) (by decide +kernel) ?_
        refine zwW_p [(1, 1, 0)] (q := 18) (ls' := [(2, 1), (0, vL1)]) (st' := [(0, vL1), (2, 2)]) (by decide +kernel) rfl ?_
        refine zwW_cm ChL1.1 (op := 60) (k' := 123) (n := 1) (kd := 0) (m := 3) (nx := 21) (r := 2) (tl := [(0, vL1)]) (st' := []) (by decide +kernel) rfl (by decide +kernel) rfl (x123_2 ChL1 (i := vL1) ⟨by omega, by omega⟩) ?_
        rintro v9 _ ⟨rfl, Gv9, ev9⟩
        have lv9 := Gv9.1
        have pv9 : v9 = zv hL1 2 vL1.toNat ∧ ((vL1.toNat : Nat) : Int) < fld hL1 2 2 := ⟨ev9, by omega⟩
        refine zwW_cast (a := 11) (kd := 11) (n := 17) (nx := 24) (by decide +kernel) rfl (Or.inr Gv9.2.1) ?_
        refine zwW_p [(1, 0, 2)] (q := 25) (ls' := [(2, 1), (0, vL1)]) (st' := [(2, 1), (2, v9)]) (by decide +kernel) rfl ?_
        refine zwW_gs ChL1.1 (kd := 12) (bn := 0) (n := 13) (t := 0) (lo := 0) (hi := 156) (nx := 28) (by decide +kernel) ?_
        intro v10 ev10 lv10 uv10
        have sv10 : v10 = (yBg1 (yC h) (yC h 37 0).toNat (vL1).toNat) 37 0 := Eq.trans ev10 (Eq.trans (Eq.symm (yC_s (h := hL1) (i := 0) rfl)) (Eq.trans (congrFun (congrFun iL1_4 37) 0) rfl))
        have R28 := XhL1
        have K28 := iL1_0
        refine zwW_cvv (op := 60) (k' := 235) (n := 1) (kd := 11) (m := 17) (nx := 31) (r := v9) (tl := [(0, v10)]) (st' := []) (by decide +kernel) rfl (by decide +kernel) Gv9.2.1 (x235_z hL1 ChL1 v9 v10 Gv9 (by omega) iL1_5 vL1.toNat pv9 iL1_1 ⟨by omega, by omega, by omega⟩) rfl ?_
        rintro h14 ⟨Ch14, Qh14, f11, f12, f13⟩
        have Zh14 : yC h14 = (yNt (yBg1 (yC h) (yC h 37 0).toNat (vL1).toNat) vL1.toNat ((yBg1 (yC h) (yC h 37 0).toNat (vL1).toNat) 37 0)) := by rw [f12, iL1_4, sv10]
        have Xh14 : zXR msx193_z (0) (0) h h14 := XhL1.tr (c2 := 0) (s2 := 0) Qh14 (by decide +kernel) (by decide) (by decide)
        have th14_1_0 : fld h14 1 0 = fld hL1 1 0 := Qh14.f (a1 := 1) (a2 := 1) (j1 := 0) (j2 := 1) (by decide +kernel) ⟨by decide, by decide⟩ ⟨by decide, by decide⟩ ⟨by decide, by decide⟩
        have th14_2_2 : fld h14 2 2 = fld hL1 2 2 := Qh14.f (a1 := 2) (a2 := 2) (j1 := 2) (j2 := 3) (by decide +kernel) ⟨by decide, by decide⟩ ⟨by decide, by decide⟩ ⟨by decide, by decide⟩
        have th14_3_2 : fld h14 3 2 = fld hL1 3 2 := Qh14.f (a1 := 3) (a2 := 3) (j1 := 2) (j2 := 3) (by decide +kernel) ⟨by decide, by decide⟩ ⟨by decide, by decide⟩ ⟨by decide, by decide⟩
        have PDh14 : zPd h14 := iL1_1.fr ChL1 Qh14 (by decide +kernel)
        have KN := K28.st C R28 (by decide +kernel) f11 (pv9).1 (pv9).2 Qh14.1
        refine zwW_inc (i := 1) (c := 1) (x := vL1) (nx := 34) (by decide +kernel) rfl ⟨by omega, by omega⟩ (ls' := [(2, 1), (0, (vL1 + 1))]) rfl ?_
        refine zwW_p [(24, 2, 0)] (q := 2) (ls' := [(2, 1), (0, (vL1 + 1))]) (st' := []) (by decide +kernel) rfl ?_
        exact IHL1 ((1000 - (vL1 + 1))).toNat (by omega) (vL1 + 1) h14 rfl (KN) (PDh14) (by omega) (by omega) (by rw [show (vL1 + 1).toNat = (vL1).toNat + 1 by omega, yBg1_s]; refine Zh14.trans ?_; unfold yNt; rw [show yBg1 (yC h) (yC h 37 0).toNat (vL1).toNat 37 0 = yC h 37 0 from yBg1_n (by decide) _]) (f13) Ch14 (Xh14.le (by decide) (by decide))
  exact L1 _ 0 h rfl (K) (PD) (by omega) (by omega) (rfl) (J) C (X.le (by decide) (by decide))
