/-! contracts of the class -/
-- WheelLand$Reader.hasRoomFor(I)Z
theorem x117_q {sc : List Int} (h : Hp) (C : CI h) (a : Int) (q_a : -2147483648 ≤ a ∧ a ≤ 2147483647) (pa : 0 ≤ a ∧ a ≤ 400) : zwC sc 1 117 [(2, 9), (0, a)] h (zwRt 0 (fun x g => h = g ∧ ((x = 1 ∧ (fld h 9 0 + a ≤ 400)) ∨ (x = 0 ∧ (400 < fld h 9 0 + a))))) := by
  refine zwC_of (D := 0) 2 (by decide +kernel) rfl (ls := [(2, 9), (0, a)]) rfl ?_
  refine zwW_p [(1, 0, 2)] (q := 1) (ls' := [(2, 9), (0, a)]) (st' := [(2, 9)]) (by decide +kernel) rfl ?_
  refine zwW_gs C.1 (kd := 7) (bn := 0) (n := 9) (t := 0) (lo := 0) (hi := 400) (nx := 4) (by decide +kernel) ?_
  intro v1 ev1 lv1 uv1
  refine zwW_p [(1, 1, 0)] (q := 5) (ls' := [(2, 9), (0, a)]) (st' := [(0, a), (0, v1)]) (by decide +kernel) rfl ?_
  refine zwW_add (nx := 6) (by decide +kernel) ⟨by omega, by omega⟩ ?_
  refine zwW_p [(1, 0, 2)] (q := 7) (ls' := [(2, 9), (0, a)]) (st' := [(2, 9), (0, (v1 + a))]) (by decide +kernel) rfl ?_
  refine zwW_gc C.1 (kd := 7) (bn := 1) (n := 9) (c := 10) (nx := 10) (by decide +kernel) ?_
  refine zwW_len (kd := 20) (n := 400) (nx := 11) (by decide +kernel) (C.1.s (a1 := 10) (a2 := 10) (by decide +kernel) (by omega) (by omega)) rfl ?_
  refine zwic_gt (q := 18) (nx := 14) (by decide +kernel) (fun c2 => ?_) (fun c2 => ?_)
  · refine zwW_p [(0, 0, 0)] (q := 19) (ls' := [(2, 9), (0, a)]) (st' := [(0, 0)]) (by decide +kernel) rfl ?_
    refine zwW_ret (nx := 20) (a := 1) (b := 0) (by decide +kernel) rfl (Or.inr (Or.inl ⟨rfl, by omega⟩)) ?_
    exact ⟨rfl, Or.inr ⟨rfl, by omega⟩⟩
  · refine zwW_p [(0, 1, 0), (24, 19, 0)] (q := 19) (ls' := [(2, 9), (0, a)]) (st' := [(0, 1)]) (by decide +kernel) rfl ?_
    refine zwW_ret (nx := 20) (a := 1) (b := 0) (by decide +kernel) rfl (Or.inr (Or.inl ⟨rfl, by omega⟩)) ?_
    exact ⟨rfl, Or.inl ⟨rfl, by omega⟩⟩
def msx118_q : Zms := [(9, 9, 0, 1), (10, 10, 0, 400)]
-- WheelLand$Reader.append(I)V
theorem x118_q {sc : List Int} (h : Hp) (C : CI h) (a : Int) (f : Nat → Int) (n : Nat) (q_a : -2147483648 ≤ a ∧ a ≤ 2147483647) (hf : fld h 10 = f) (hn : fld h 9 0 = (n : Int)) (hr : n ≤ 396) : zwC sc 1 118 [(2, 9), (0, a)] h (zwRv (fun g => CI g ∧ zXR msx118_q (0) (0) h g ∧ (fld g 10 = fBx f n a 4) ∧ (fld g 9 0 = (n : Int) + 4))) := by
  refine zwC_of (D := 0) 3 (by decide +kernel) rfl (ls := [(2, 9), (0, a), (9, 0)]) rfl ?_
  have X : zXR msx118_q 0 0 h h := zXR.rf _ _
  refine zwW_p [(0, 24, 0), (2, 2, 0)] (q := 3) (ls' := [(2, 9), (0, a), (0, 24)]) (st' := []) (by decide +kernel) rfl ?_
  have L1 : ∀ (n0 : Nat) (vL1 : Int) (hL1 : Hp), n0 = ((vL1 + 8)).toNat → (fld hL1 10 = fBx f n a ((24 - vL1) / 8).toNat) → (fld hL1 9 0 = (n : Int) + (24 - vL1) / 8 ∧ (24 - vL1) % 8 = 0) → (-8 ≤ vL1 ∧ vL1 ≤ 24) → CI hL1 → zXR msx118_q (0) (0) h hL1 → zwW sc (0) 118 3 [(2, 9), (0, a), (0, vL1)] [] hL1 (zwRv (fun g => CI g ∧ zXR msx118_q (0) (0) h g ∧ (fld g 10 = fBx f n a 4) ∧ (fld g 9 0 = (n : Int) + 4))) := by
    intro n0
    induction n0 using Nat.strongRecOn with
    | ind n0 IHL1 =>
      intro vL1 hL1 hnL1 iL1_0 iL1_1 iL1_2 ChL1 XhL1
      refine zwW_p [(1, 2, 0)] (q := 4) (ls' := [(2, 9), (0, a), (0, vL1)]) (st' := [(0, vL1)]) (by decide +kernel) rfl ?_
      refine zwif_lt (q := 51) (nx := 7) (by decide +kernel) (fun c2 => ?_) (fun c2 => ?_)
      · refine zwW_retv (nx := 52) (a := 0) (b := 0) (by decide +kernel) ?_
        exact ⟨ChL1, XhL1.le (by decide) (by decide), by have z := iL1_0; rwa [show ((24 - vL1) / 8).toNat = 4 by omega] at z, by omega⟩
      · refine zwW_p [(1, 0, 2)] (q := 8) (ls' := [(2, 9), (0, a), (0, vL1)]) (st' := [(2, 9)]) (by decide +kernel) rfl ?_
        refine zwW_gs ChL1.1 (kd := 7) (bn := 0) (n := 9) (t := 0) (lo := 0) (hi := 400) (nx := 11) (by decide +kernel) ?_
        intro v3 ev3 lv3 uv3
        refine zwW_p [(1, 0, 2)] (q := 12) (ls' := [(2, 9), (0, a), (0, vL1)]) (st' := [(2, 9), (0, v3)]) (by decide +kernel) rfl ?_
        refine zwW_gc ChL1.1 (kd := 7) (bn := 1) (n := 9) (c := 10) (nx := 15) (by decide +kernel) ?_
        refine zwW_len (kd := 20) (n := 400) (nx := 16) (by decide +kernel) (ChL1.1.s (a1 := 10) (a2 := 10) (by decide +kernel) (by omega) (by omega)) rfl ?_
        refine zwic_ge (q := 51) (nx := 19) (by decide +kernel) (fun c4 => ?_) (fun c4 => ?_)
        · refine zwW_retv (nx := 52) (a := 0) (b := 0) (by decide +kernel) ?_
          exact ⟨ChL1, XhL1.le (by decide) (by decide), by have z := iL1_0; rwa [show ((24 - vL1) / 8).toNat = 4 by omega] at z, by omega⟩
        · refine zwW_p [(1, 0, 2)] (q := 20) (ls' := [(2, 9), (0, a), (0, vL1)]) (st' := [(2, 9)]) (by decide +kernel) rfl ?_
          refine zwW_gc ChL1.1 (kd := 7) (bn := 1) (n := 9) (c := 10) (nx := 23) (by decide +kernel) ?_
          refine zwW_p [(1, 0, 2)] (q := 24) (ls' := [(2, 9), (0, a), (0, vL1)]) (st' := [(2, 9), (2, 10)]) (by decide +kernel) rfl ?_
          refine zwW_gs ChL1.1 (kd := 7) (bn := 0) (n := 9) (t := 0) (lo := 0) (hi := 400) (nx := 27) (by decide +kernel) ?_
          intro v5 ev5 lv5 uv5
          refine zwW_p [(1, 1, 0)] (q := 28) (ls' := [(2, 9), (0, a), (0, vL1)]) (st' := [(0, a), (0, v5), (2, 10)]) (by decide +kernel) rfl ?_
          refine zwW_p [(1, 2, 0)] (q := 29) (ls' := [(2, 9), (0, a), (0, vL1)]) (st' := [(0, vL1), (0, a), (0, v5), (2, 10)]) (by decide +kernel) rfl ?_
          refine zwW_ib (a := 10) (nx := 30) (by decide +kernel) rfl ?_
          refine zwW_p [(0, 255, 0)] (q := 33) (ls' := [(2, 9), (0, a), (0, vL1)]) (st' := [(0, 255), (0, (i_ushr a vL1)), (0, v5), (2, 10)]) (by decide +kernel) rfl ?_
          refine zwW_ib (a := 5) (nx := 34) (by decide +kernel) rfl ?_
          generalize gw34 : (i_and (i_ushr a vL1) 255) = w34
          have b34 : 0 ≤ w34 ∧ w34 ≤ 255 := by rw [← gw34]; exact ⟨(i_and255 _).1, (i_and255 _).2.1⟩
          refine zwW_as ChL1.1 (a1 := 10) (a2 := 10) (n := 400) (lo := -2147483648) (hi := 2147483647) (nx := 35) (by decide +kernel) ⟨by decide, by decide⟩ ⟨by omega, by omega⟩ ⟨by omega, by omega⟩ ?_
          intro h6 eh6 Ih6
          have Ch6 : CI h6 := ChL1.wc eh6 Ih6 (by decide) (by decide)
          have Qh6 : zXR [(10, 10, 0, 400)] 0 0 hL1 h6 := zXR.wc eh6 rfl ⟨by decide, by decide, Or.inl (by decide)⟩ ⟨by omega, by omega⟩
          have kh6_10 : fld h6 10 = (zu (fBx f n a ((24 - vL1) / 8).toNat) v5.toNat w34) := by rw [fld_zu (ChL1.1.s (a1 := 10) (a2 := 10) (k := 20) (n := 400) (by decide +kernel) (by decide) (by decide)) (by omega) eh6, iL1_0]
          have Xh6 : zXR msx118_q (0) (0) h h6 := XhL1.tr (c2 := 0) (s2 := 0) Qh6 (by decide +kernel) (by decide) (by decide)
          have th6_9_0 : fld h6 9 0 = fld hL1 9 0 := Qh6.f (a1 := 9) (a2 := 9) (j1 := 0) (j2 := 1) (by decide +kernel) ⟨by decide, by decide⟩ ⟨by decide, by decide⟩ ⟨by decide, by decide⟩
          have K35 : fld h6 10 = fBx f n a (((24 - vL1) / 8).toNat + 1) := kh6_10.trans (zu_cg rfl (show _ = n + ((24 - vL1) / 8).toNat by omega) (gw34.symm.trans (by rw [show 24 - 8 * ((((24 - vL1) / 8).toNat : Nat) : Int) = vL1 by omega])))
          refine zwW_p [(1, 0, 2), (12, 0, 0)] (q := 37) (ls' := [(2, 9), (0, a), (0, vL1)]) (st' := [(2, 9), (2, 9)]) (by decide +kernel) rfl ?_
          refine zwW_gs Ch6.1 (kd := 7) (bn := 0) (n := 9) (t := 0) (lo := 0) (hi := 400) (nx := 40) (by decide +kernel) ?_
          intro v7 ev7 lv7 uv7
          refine zwW_p [(0, 1, 0)] (q := 41) (ls' := [(2, 9), (0, a), (0, vL1)]) (st' := [(0, 1), (0, v7), (2, 9)]) (by decide +kernel) rfl ?_
          refine zwW_add (nx := 42) (by decide +kernel) ⟨by omega, by omega⟩ ?_
          refine zwW_ps Ch6.1 (kd := 7) (bn := 0) (n := 9) (lo := 0) (hi := 400) (nx := 45) (by decide +kernel) ⟨by omega, by omega⟩ ?_
          intro h8 eh8 Ih8
          have Ch8 : CI h8 := Ch6.wc eh8 Ih8 (by decide) (by decide)
          have Qh8 : zXR [(9, 9, 0, 1)] 0 0 h6 h8 := zXR.wc eh8 rfl ⟨by decide, by decide, Or.inl (by decide)⟩ ⟨by decide, by decide⟩
          have Xh8 : zXR msx118_q (0) (0) h h8 := Xh6.tr (c2 := 0) (s2 := 0) Qh8 (by decide +kernel) (by decide) (by decide)
          have kh8_10 : fld h8 10 = (zu (fBx f n a ((24 - vL1) / 8).toNat) v5.toNat w34) := (Qh8.fa (a := 10) (by decide +kernel) (by decide)).trans kh6_10
          have th8_9_0 : fld h8 9 0 = (v7 + 1) := by rw [eh8]; exact fld_wr_eq (Ch6.1.s (a1 := 9) (a2 := 9) (k := 7) (n := 9) (by decide +kernel) (by decide) (by decide)) (by decide)
          refine zwW_inc (i := 2) (c := -8) (x := vL1) (nx := 48) (by decide +kernel) rfl ⟨by omega, by omega⟩ (ls' := [(2, 9), (0, a), (0, (vL1 + (-8)))]) rfl ?_
          refine zwW_p [(24, 3, 0)] (q := 3) (ls' := [(2, 9), (0, a), (0, (vL1 + (-8)))]) (st' := []) (by decide +kernel) rfl ?_
          exact IHL1 (((vL1 + (-8)) + 8)).toNat (by omega) (vL1 + (-8)) h8 rfl (by rw [show ((24 - (vL1 + -8)) / 8).toNat = ((24 - vL1) / 8).toNat + 1 by omega]; exact kh8_10.trans (kh6_10.symm.trans K35)) (by omega) (by omega) Ch8 (Xh8.le (by decide) (by decide))
  exact L1 _ 24 h rfl (hf) (by omega) (by omega) C (X.le (by decide) (by decide))
def msx23_q : Zms := [(9, 9, 0, 1), (10, 10, 0, 400)]
-- WheelLand.feed(IIIII)I
theorem x23_q {sc : List Int} (h : Hp) (C : CI h) (a b c d e : Int) (f : Nat → Int) (n : Nat) (q_a : -2147483648 ≤ a ∧ a ≤ 2147483647) (q_b : -2147483648 ≤ b ∧ b ≤ 2147483647) (q_c : -2147483648 ≤ c ∧ c ≤ 2147483647) (q_d : -2147483648 ≤ d ∧ d ≤ 2147483647) (q_e : -2147483648 ≤ e ∧ e ≤ 2147483647) (hf : fld h 10 = f) (hn : fld h 9 0 = (n : Int)) : zwC sc 2 23 [(2, 1), (0, a), (0, b), (0, c), (0, d), (0, e)] h (zwRt 0 (fun x g => CI g ∧ zXR msx23_q (0) (0) h g ∧ (-2147483648 ≤ x ∧ x ≤ 2147483647) ∧ ((x = (n : Int) + 20 ∧ n ≤ 380 ∧ fld g 9 0 = (n : Int) + 20 ∧ fld g 10 = fB5x f n a b c d e) ∨ (x = -1 ∧ g = h ∧ 380 < n)))) := by
  refine zwC_of (D := 1) 6 (by decide +kernel) rfl (ls := [(2, 1), (0, a), (0, b), (0, c), (0, d), (0, e)]) rfl ?_
  have X : zXR msx23_q 0 0 h h := zXR.rf _ _
  refine zwW_p [(1, 0, 2)] (q := 1) (ls' := [(2, 1), (0, a), (0, b), (0, c), (0, d), (0, e)]) (st' := [(2, 1)]) (by decide +kernel) rfl ?_
  refine zwW_gc C.1 (kd := 12) (bn := 7) (n := 13) (c := 9) (nx := 4) (by decide +kernel) ?_
  refine zwW_p [(0, 20, 0)] (q := 6) (ls' := [(2, 1), (0, a), (0, b), (0, c), (0, d), (0, e)]) (st' := [(0, 20), (2, 9)]) (by decide +kernel) rfl ?_
  refine zwW_cm C.1 (op := 60) (k' := 117) (n := 1) (kd := 7) (m := 9) (nx := 9) (r := 9) (tl := [(0, 20)]) (st' := []) (by decide +kernel) rfl (by decide +kernel) rfl (x117_q h C 20 (by omega) (by omega)) ?_
  rintro x _ ⟨rfl, ⟨rfl, c1⟩ | ⟨rfl, c1⟩⟩
  · refine zwif_ne (q := 14) (nx := 12) (by decide +kernel) (fun c2 => ?_) (fun c2 => ?_)
    · refine zwW_p [(1, 0, 2)] (q := 15) (ls' := [(2, 1), (0, a), (0, b), (0, c), (0, d), (0, e)]) (st' := [(2, 1)]) (by decide +kernel) rfl ?_
      refine zwW_gc C.1 (kd := 12) (bn := 7) (n := 13) (c := 9) (nx := 18) (by decide +kernel) ?_
      refine zwW_p [(1, 1, 0)] (q := 19) (ls' := [(2, 1), (0, a), (0, b), (0, c), (0, d), (0, e)]) (st' := [(0, a), (2, 9)]) (by decide +kernel) rfl ?_
      refine zwW_cmv C.1 (op := 60) (k' := 118) (n := 1) (kd := 7) (m := 9) (nx := 22) (r := 9) (tl := [(0, a)]) (st' := []) (by decide +kernel) rfl (by decide +kernel) rfl (x118_q h C a f n (by omega) hf hn (by omega)) ?_
      rintro h5 ⟨Ch5, Qh5, f3, f4⟩
      have Xh5 : zXR msx23_q (0) (0) h h5 := X.tr (c2 := 0) (s2 := 0) Qh5 (by decide +kernel) (by decide) (by decide)
      refine zwW_p [(1, 0, 2)] (q := 23) (ls' := [(2, 1), (0, a), (0, b), (0, c), (0, d), (0, e)]) (st' := [(2, 1)]) (by decide +kernel) rfl ?_
      refine zwW_gc Ch5.1 (kd := 12) (bn := 7) (n := 13) (c := 9) (nx := 26) (by decide +kernel) ?_
      refine zwW_p [(1, 2, 0)] (q := 27) (ls' := [(2, 1), (0, a), (0, b), (0, c), (0, d), (0, e)]) (st' := [(0, b), (2, 9)]) (by decide +kernel) rfl ?_
      refine zwW_cmv Ch5.1 (op := 60) (k' := 118) (n := 1) (kd := 7) (m := 9) (nx := 30) (r := 9) (tl := [(0, b)]) (st' := []) (by decide +kernel) rfl (by decide +kernel) rfl (x118_q h5 Ch5 b (fBx f n a 4) (n + 4) (by omega) f3 (by omega) (by omega)) ?_
      rintro h8 ⟨Ch8, Qh8, f6, f7⟩
      have Xh8 : zXR msx23_q (0) (0) h h8 := Xh5.tr (c2 := 0) (s2 := 0) Qh8 (by decide +kernel) (by decide) (by decide)
      refine zwW_p [(1, 0, 2)] (q := 31) (ls' := [(2, 1), (0, a), (0, b), (0, c), (0, d), (0, e)]) (st' := [(2, 1)]) (by decide +kernel) rfl ?_
      refine zwW_gc Ch8.1 (kd := 12) (bn := 7) (n := 13) (c := 9) (nx := 34) (by decide +kernel) ?_
      refine zwW_p [(1, 3, 0)] (q := 35) (ls' := [(2, 1), (0, a), (0, b), (0, c), (0, d), (0, e)]) (st' := [(0, c), (2, 9)]) (by decide +kernel) rfl ?_
      refine zwW_cmv Ch8.1 (op := 60) (k' := 118) (n := 1) (kd := 7) (m := 9) (nx := 38) (r := 9) (tl := [(0, c)]) (st' := []) (by decide +kernel) rfl (by decide +kernel) rfl (x118_q h8 Ch8 c (fBx (fBx f n a 4) (n + 4) b 4) (n + 8) (by omega) f6 (by omega) (by omega)) ?_
      rintro h11 ⟨Ch11, Qh11, f9, f10⟩
      have Xh11 : zXR msx23_q (0) (0) h h11 := Xh8.tr (c2 := 0) (s2 := 0) Qh11 (by decide +kernel) (by decide) (by decide)
      refine zwW_p [(1, 0, 2)] (q := 39) (ls' := [(2, 1), (0, a), (0, b), (0, c), (0, d), (0, e)]) (st' := [(2, 1)]) (by decide +kernel) rfl ?_
      refine zwW_gc Ch11.1 (kd := 12) (bn := 7) (n := 13) (c := 9) (nx := 42) (by decide +kernel) ?_
      refine zwW_p [(1, 4, 0)] (q := 44) (ls' := [(2, 1), (0, a), (0, b), (0, c), (0, d), (0, e)]) (st' := [(0, d), (2, 9)]) (by decide +kernel) rfl ?_
      refine zwW_cmv Ch11.1 (op := 60) (k' := 118) (n := 1) (kd := 7) (m := 9) (nx := 47) (r := 9) (tl := [(0, d)]) (st' := []) (by decide +kernel) rfl (by decide +kernel) rfl (x118_q h11 Ch11 d (fBx (fBx (fBx f n a 4) (n + 4) b 4) (n + 8) c 4) (n + 12) (by omega) f9 (by omega) (by omega)) ?_
      rintro h14 ⟨Ch14, Qh14, f12, f13⟩
      have Xh14 : zXR msx23_q (0) (0) h h14 := Xh11.tr (c2 := 0) (s2 := 0) Qh14 (by decide +kernel) (by decide) (by decide)
      refine zwW_p [(1, 0, 2)] (q := 48) (ls' := [(2, 1), (0, a), (0, b), (0, c), (0, d), (0, e)]) (st' := [(2, 1)]) (by decide +kernel) rfl ?_
      refine zwW_gc Ch14.1 (kd := 12) (bn := 7) (n := 13) (c := 9) (nx := 51) (by decide +kernel) ?_
      refine zwW_p [(1, 5, 0)] (q := 53) (ls' := [(2, 1), (0, a), (0, b), (0, c), (0, d), (0, e)]) (st' := [(0, e), (2, 9)]) (by decide +kernel) rfl ?_
      refine zwW_cmv Ch14.1 (op := 60) (k' := 118) (n := 1) (kd := 7) (m := 9) (nx := 56) (r := 9) (tl := [(0, e)]) (st' := []) (by decide +kernel) rfl (by decide +kernel) rfl (x118_q h14 Ch14 e (fBx (fBx (fBx (fBx f n a 4) (n + 4) b 4) (n + 8) c 4) (n + 12) d 4) (n + 16) (by omega) f12 (by omega) (by omega)) ?_
      rintro h17 ⟨Ch17, Qh17, f15, f16⟩
      have Xh17 : zXR msx23_q (0) (0) h h17 := Xh14.tr (c2 := 0) (s2 := 0) Qh17 (by decide +kernel) (by decide) (by decide)
      refine zwW_p [(1, 0, 2)] (q := 57) (ls' := [(2, 1), (0, a), (0, b), (0, c), (0, d), (0, e)]) (st' := [(2, 1)]) (by decide +kernel) rfl ?_
      refine zwW_gc Ch17.1 (kd := 12) (bn := 7) (n := 13) (c := 9) (nx := 60) (by decide +kernel) ?_
      refine zwW_gs Ch17.1 (kd := 7) (bn := 0) (n := 9) (t := 0) (lo := 0) (hi := 400) (nx := 63) (by decide +kernel) ?_
      intro v18 ev18 lv18 uv18
      refine zwW_ret (nx := 64) (a := 0) (b := 0) (by decide +kernel) rfl (Or.inl rfl) ?_
      exact ⟨Ch17, Xh17.le (by decide) (by decide), by omega, by first | exact Or.inr ⟨by omega, rfl, by omega⟩ | exact Or.inl ⟨by omega, by omega, by omega, f15⟩⟩
    · exfalso; omega
  · refine zwif_ne (q := 14) (nx := 12) (by decide +kernel) (fun c19 => ?_) (fun c19 => ?_)
    · exfalso; omega
    · refine zwW_p [(0, -1, 0)] (q := 13) (ls' := [(2, 1), (0, a), (0, b), (0, c), (0, d), (0, e)]) (st' := [(0, -1)]) (by decide +kernel) rfl ?_
      refine zwW_ret (nx := 14) (a := 0) (b := 0) (by decide +kernel) rfl (Or.inl rfl) ?_
      exact ⟨C, X.le (by decide) (by decide), by omega, by first | exact Or.inr ⟨by omega, rfl, by omega⟩ | exact Or.inl ⟨by omega, by omega, by omega, rfl⟩⟩
def msx25_q : Zms := [(9, 9, 0, 1)]
-- WheelLand.end(I)Z
theorem x25_q {sc : List Int} (h : Hp) (C : CI h) (a : Int) (q_a : -2147483648 ≤ a ∧ a ≤ 2147483647) : zwC sc 2 25 [(2, 1), (0, a)] h (zwRt 0 (fun x g => CI g ∧ zXR msx25_q (0) (0) h g ∧ (0 ≤ x ∧ x ≤ 1) ∧ ((x = 1 ∧ fld g 9 0 = a ∧ 0 ≤ a ∧ a ≤ fld h 9 0) ∨ (x = 0 ∧ g = h ∧ (a < 0 ∨ fld h 9 0 < a))))) := by
  refine zwC_of (D := 1) 2 (by decide +kernel) rfl (ls := [(2, 1), (0, a)]) rfl ?_
  have X : zXR msx25_q 0 0 h h := zXR.rf _ _
  refine zwW_p [(1, 1, 0), (0, 0, 0), (1, 0, 2)] (q := 3) (ls' := [(2, 1), (0, a)]) (st' := [(2, 1), (0, 0), (0, a)]) (by decide +kernel) rfl ?_
  refine zwW_gc C.1 (kd := 12) (bn := 7) (n := 13) (c := 9) (nx := 6) (by decide +kernel) ?_
  refine zwW_gs C.1 (kd := 7) (bn := 0) (n := 9) (t := 0) (lo := 0) (hi := 400) (nx := 9) (by decide +kernel) ?_
  intro v1 ev1 lv1 uv1
  refine zwW_cs (k' := 98) (n := 3) (nx := 12) (as := [(0, a), (0, 0), (0, v1)]) (st' := []) (by decide +kernel) rfl (x98 h C a 0 v1 (by omega) (by omega) (by omega)) rfl ?_
  rintro x _ ⟨rfl, ⟨rfl, c2⟩ | ⟨rfl, c2⟩⟩
  · refine zwif_eq (q := 17) (nx := 15) (by decide +kernel) (fun c3 => ?_) (fun c3 => ?_)
    · exfalso; omega
    · refine zwW_p [(0, 0, 0)] (q := 16) (ls' := [(2, 1), (0, a)]) (st' := [(0, 0)]) (by decide +kernel) rfl ?_
      refine zwW_ret (nx := 17) (a := 1) (b := 0) (by decide +kernel) rfl (Or.inr (Or.inl ⟨rfl, by omega⟩)) ?_
      exact ⟨C, X.le (by decide) (by decide), by omega, by first | exact Or.inr ⟨by omega, rfl, by omega⟩ | exact Or.inl ⟨by omega, by omega, by omega, by omega⟩⟩
  · refine zwif_eq (q := 17) (nx := 15) (by decide +kernel) (fun c4 => ?_) (fun c4 => ?_)
    · refine zwW_p [(1, 0, 2)] (q := 18) (ls' := [(2, 1), (0, a)]) (st' := [(2, 1)]) (by decide +kernel) rfl ?_
      refine zwW_gc C.1 (kd := 12) (bn := 7) (n := 13) (c := 9) (nx := 21) (by decide +kernel) ?_
      refine zwW_p [(1, 1, 0)] (q := 22) (ls' := [(2, 1), (0, a)]) (st' := [(0, a), (2, 9)]) (by decide +kernel) rfl ?_
      refine zwW_ps C.1 (kd := 7) (bn := 0) (n := 9) (lo := 0) (hi := 400) (nx := 25) (by decide +kernel) ⟨by omega, by omega⟩ ?_
      intro h5 eh5 Ih5
      have Ch5 : CI h5 := C.wc eh5 Ih5 (by decide) (by decide)
      have Qh5 : zXR [(9, 9, 0, 1)] 0 0 h h5 := zXR.wc eh5 rfl ⟨by decide, by decide, Or.inl (by decide)⟩ ⟨by decide, by decide⟩
      have Xh5 : zXR msx25_q (0) (0) h h5 := X.tr (c2 := 0) (s2 := 0) Qh5 (by decide +kernel) (by decide) (by decide)
      have th5_9_0 : fld h5 9 0 = a := by rw [eh5]; exact fld_wr_eq (C.1.s (a1 := 9) (a2 := 9) (k := 7) (n := 9) (by decide +kernel) (by decide) (by decide)) (by decide)
      refine zwW_p [(0, 1, 0)] (q := 26) (ls' := [(2, 1), (0, a)]) (st' := [(0, 1)]) (by decide +kernel) rfl ?_
      refine zwW_ret (nx := 27) (a := 1) (b := 0) (by decide +kernel) rfl (Or.inr (Or.inl ⟨rfl, by omega⟩)) ?_
      exact ⟨Ch5, Xh5.le (by decide) (by decide), by omega, by first | exact Or.inr ⟨by omega, rfl, by omega⟩ | exact Or.inl ⟨by omega, by omega, by omega, by omega⟩⟩
    · exfalso; omega
def msx29_q : Zms := [(9, 9, 0, 1), (9, 9, 2, 7), (11, 11, 0, 400), (12, 12, 0, 5), (14, 14, 0, 3)]
-- WheelLand.sheet()I
theorem x29_q {sc : List Int} (h : Hp) (C : CI h) (t : pT) (n : Nat) (c : Nat → Int) (B : rB t n h) (hc : fld h 11 = c) (hl : h.length ≤ 997670000) : zwC sc 233 29 [(2, 1)] h (zwRt 0 (fun x g => CI g ∧ zXR msx29_q (4) (1408) h g ∧ (-2147483648 ≤ x ∧ x ≤ 2147483647) ∧ ((x = fld h 14 2 ∧ fld g 14 2 = fld h 14 2 + 1 ∧ fld g 9 0 = 0 ∧ pFa t n c = -1 ∧ fld h 14 2 < 8) ∨ (x = -1 ∧ fld g 14 2 = fld h 14 2 ∧ fld g 9 0 = fld h 9 0 ∧ (8 ≤ fld h 14 2 ∨ pFa t n c ≠ -1))))) := by
  refine zwC_of (D := 232) 1 (by decide +kernel) rfl (ls := [(2, 1)]) rfl ?_
  have X : zXR msx29_q 0 0 h h := zXR.rf _ _
  refine zwW_p [(1, 0, 2)] (q := 1) (ls' := [(2, 1)]) (st' := [(2, 1)]) (by decide +kernel) rfl ?_
  refine zwW_gc C.1 (kd := 12) (bn := 8) (n := 13) (c := 13) (nx := 4) (by decide +kernel) ?_
  refine zwW_gc C.1 (kd := 9) (bn := 0) (n := 6) (c := 14) (nx := 7) (by decide +kernel) ?_
  refine zwW_cm C.1 (op := 60) (k' := 96) (n := 0) (kd := 0) (m := 3) (nx := 10) (r := 14) (tl := []) (st' := []) (by decide +kernel) rfl (by decide +kernel) rfl (x96_14 C) ?_
  rintro v1 _ ⟨rfl, ev1⟩
  have bv1 := zLb_14 C
  refine zwW_p [(0, 8, 0)] (q := 12) (ls' := [(2, 1)]) (st' := [(0, 8), (0, v1)]) (by decide +kernel) rfl ?_
  refine zwic_ge (q := 26) (nx := 15) (by decide +kernel) (fun c2 => ?_) (fun c2 => ?_)
  · refine zwW_p [(0, -1, 0)] (q := 27) (ls' := [(2, 1)]) (st' := [(0, -1)]) (by decide +kernel) rfl ?_
    refine zwW_ret (nx := 28) (a := 0) (b := 0) (by decide +kernel) rfl (Or.inl rfl) ?_
    exact ⟨C, X.le (by decide) (by decide), by omega, by first | omega | (have z : 0 = pFa t n c := rfl; omega)⟩
  · refine zwW_p [(1, 0, 2)] (q := 16) (ls' := [(2, 1)]) (st' := [(2, 1)]) (by decide +kernel) rfl ?_
    refine zwW_gc C.1 (kd := 12) (bn := 7) (n := 13) (c := 9) (nx := 19) (by decide +kernel) ?_
    refine zwW_cm C.1 (op := 60) (k' := 120) (n := 0) (kd := 7) (m := 9) (nx := 22) (r := 9) (tl := []) (st' := []) (by decide +kernel) rfl (by decide +kernel) rfl (x120_q h C t n c B hc) ?_
    rintro v6 h7 ⟨Ch7, Qh7, f3, f4, f5⟩
    have Xh7 : zXR msx29_q (0) (0) h h7 := X.tr (c2 := 0) (s2 := 0) Qh7 (by decide +kernel) (by decide) (by decide)
    have th7_9_0 : fld h7 9 0 = fld h 9 0 := Qh7.f (a1 := 9) (a2 := 9) (j1 := 0) (j2 := 1) (by decide +kernel) ⟨by decide, by decide⟩ ⟨by decide, by decide⟩ ⟨by decide, by decide⟩
    have th7_14_2 : fld h7 14 2 = fld h 14 2 := Qh7.f (a1 := 14) (a2 := 14) (j1 := 2) (j2 := 3) (by decide +kernel) ⟨by decide, by decide⟩ ⟨by decide, by decide⟩ ⟨by decide, by decide⟩
    refine zwW_p [(0, -1, 0)] (q := 23) (ls' := [(2, 1)]) (st' := [(0, -1), (0, v6)]) (by decide +kernel) rfl ?_
    refine zwic_eq (q := 28) (nx := 26) (by decide +kernel) (fun c8 => ?_) (fun c8 => ?_)
    · refine zwW_p [(1, 0, 2)] (q := 29) (ls' := [(2, 1)]) (st' := [(2, 1)]) (by decide +kernel) rfl ?_
      refine zwW_gc Ch7.1 (kd := 12) (bn := 8) (n := 13) (c := 13) (nx := 32) (by decide +kernel) ?_
      refine zwW_gc Ch7.1 (kd := 9) (bn := 0) (n := 6) (c := 14) (nx := 35) (by decide +kernel) ?_
      refine zwW_p [(1, 0, 2)] (q := 36) (ls' := [(2, 1)]) (st' := [(2, 1), (2, 14)]) (by decide +kernel) rfl ?_
      refine zwW_gc Ch7.1 (kd := 12) (bn := 7) (n := 13) (c := 9) (nx := 39) (by decide +kernel) ?_
      refine zwW_p [(1, 0, 2)] (q := 40) (ls' := [(2, 1)]) (st' := [(2, 1), (2, 9), (2, 14)]) (by decide +kernel) rfl ?_
      refine zwW_gc Ch7.1 (kd := 12) (bn := 8) (n := 13) (c := 13) (nx := 43) (by decide +kernel) ?_
      refine zwW_gc Ch7.1 (kd := 9) (bn := 0) (n := 6) (c := 14) (nx := 46) (by decide +kernel) ?_
      refine zwW_cm Ch7.1 (op := 60) (k' := 96) (n := 0) (kd := 0) (m := 3) (nx := 49) (r := 14) (tl := []) (st' := [(2, 9), (2, 14)]) (by decide +kernel) rfl (by decide +kernel) rfl (x96_14 Ch7) ?_
      rintro v9 _ ⟨rfl, ev9⟩
      have bv9 := zLb_14 Ch7
      refine zwW_cm Ch7.1 (op := 60) (k' := 122) (n := 1) (kd := 7) (m := 9) (nx := 52) (r := 9) (tl := [(0, v9)]) (st' := [(2, 14)]) (by decide +kernel) rfl (by decide +kernel) rfl (x122 h7 Ch7 v9 (by omega)) ?_
      rintro v11 h12 ⟨Ch12, Qh12, f10⟩
      have Xh12 : zXR msx29_q (3) (408) h h12 := Xh7.tr (c2 := 3) (s2 := 408) Qh12 (by decide +kernel) (by decide) (by decide)
      have th12_9_0 : fld h12 9 0 = fld h7 9 0 := Qh12.f (a1 := 9) (a2 := 9) (j1 := 0) (j2 := 1) (by decide +kernel) ⟨by decide, by decide⟩ ⟨by decide, by decide⟩ ⟨by decide, by decide⟩
      have th12_14_2 : fld h12 14 2 = fld h7 14 2 := Qh12.f (a1 := 14) (a2 := 14) (j1 := 2) (j2 := 3) (by decide +kernel) ⟨by decide, by decide⟩ ⟨by decide, by decide⟩ ⟨by decide, by decide⟩
      have lv11 := f10.1
      refine zwW_cm Ch12.1 (op := 60) (k' := 100) (n := 1) (kd := 0) (m := 3) (nx := 55) (r := 14) (tl := [(2, v11)]) (st' := []) (by decide +kernel) rfl (by decide +kernel) rfl (x100_14 Ch12 f10 (by omega) (by have := Xh12.hl C Ch12 (by decide) hl; omega)) ?_
      rintro x h14 ⟨rfl, Ah14⟩
      have Ch14 := Ah14.1
      have Qh14 : zXR [(14, 14, 0, 3)] (1) (1000) h12 h14 := Ah14.2.1
      have zh14 : fld h14 14 2 = fld h12 14 2 + 1 := Ah14.2.2.1
      have Xh14 : zXR msx29_q (4) (1408) h h14 := Xh12.tr (c2 := 4) (s2 := 1408) Qh14 (by decide +kernel) (by decide) (by decide)
      have th14_9_0 : fld h14 9 0 = fld h12 9 0 := Qh14.f (a1 := 9) (a2 := 9) (j1 := 0) (j2 := 1) (by decide +kernel) ⟨by decide, by decide⟩ ⟨by decide, by decide⟩ ⟨by decide, by decide⟩
      refine zwW_p [(15, 0, 0), (1, 0, 2)] (q := 57) (ls' := [(2, 1)]) (st' := [(2, 1)]) (by decide +kernel) rfl ?_
      refine zwW_gc Ch14.1 (kd := 12) (bn := 7) (n := 13) (c := 9) (nx := 60) (by decide +kernel) ?_
      refine zwW_p [(0, 0, 0)] (q := 61) (ls' := [(2, 1)]) (st' := [(0, 0), (2, 9)]) (by decide +kernel) rfl ?_
      refine zwW_ps Ch14.1 (kd := 7) (bn := 0) (n := 9) (lo := 0) (hi := 400) (nx := 64) (by decide +kernel) ⟨by decide, by decide⟩ ?_
      intro h15 eh15 Ih15
      have Ch15 : CI h15 := Ch14.wc eh15 Ih15 (by decide) (by decide)
      have Qh15 : zXR [(9, 9, 0, 1)] 0 0 h14 h15 := zXR.wc eh15 rfl ⟨by decide, by decide, Or.inl (by decide)⟩ ⟨by decide, by decide⟩
      have Xh15 : zXR msx29_q (4) (1408) h h15 := Xh14.tr (c2 := 4) (s2 := 1408) Qh15 (by decide +kernel) (by decide) (by decide)
      have th15_14_2 : fld h15 14 2 = fld h14 14 2 := Qh15.f (a1 := 14) (a2 := 14) (j1 := 2) (j2 := 3) (by decide +kernel) ⟨by decide, by decide⟩ ⟨by decide, by decide⟩ ⟨by decide, by decide⟩
      have th15_9_0 : fld h15 9 0 = 0 := by rw [eh15]; exact fld_wr_eq (Ch14.1.s (a1 := 9) (a2 := 9) (k := 7) (n := 9) (by decide +kernel) (by decide) (by decide)) (by decide)
      refine zwW_p [(1, 0, 2)] (q := 65) (ls' := [(2, 1)]) (st' := [(2, 1)]) (by decide +kernel) rfl ?_
      refine zwW_gc Ch15.1 (kd := 12) (bn := 8) (n := 13) (c := 13) (nx := 68) (by decide +kernel) ?_
      refine zwW_gc Ch15.1 (kd := 9) (bn := 0) (n := 6) (c := 14) (nx := 71) (by decide +kernel) ?_
      refine zwW_cm Ch15.1 (op := 60) (k' := 96) (n := 0) (kd := 0) (m := 3) (nx := 74) (r := 14) (tl := []) (st' := []) (by decide +kernel) rfl (by decide +kernel) rfl (x96_14 Ch15) ?_
      rintro v16 _ ⟨rfl, ev16⟩
      have bv16 := zLb_14 Ch15
      refine zwW_p [(0, 1, 0)] (q := 75) (ls' := [(2, 1)]) (st' := [(0, 1), (0, v16)]) (by decide +kernel) rfl ?_
      refine zwW_sub (nx := 76) (by decide +kernel) ⟨by omega, by omega⟩ ?_
      refine zwW_ret (nx := 77) (a := 0) (b := 0) (by decide +kernel) rfl (Or.inl rfl) ?_
      exact ⟨Ch15, Xh15.le (by decide) (by decide), by omega, by first | omega | (have z : v6 = pFa t n c := f4; omega)⟩
    · refine zwW_p [(0, -1, 0)] (q := 27) (ls' := [(2, 1)]) (st' := [(0, -1)]) (by decide +kernel) rfl ?_
      refine zwW_ret (nx := 28) (a := 0) (b := 0) (by decide +kernel) rfl (Or.inl rfl) ?_
      exact ⟨Ch7, Xh7.le (by decide) (by decide), by omega, by first | omega | (have z : v6 = pFa t n c := f4; omega)⟩
def msx124_q : Zms := [(13, 13, 1, 2), (15, 15, 0, 12), (16, 16, 0, 12)]
-- WheelLand$Rules.enforce(LWheelLand$Sheet;I)V
theorem x124_q {sc : List Int} (h : Hp) (C : CI h) (r a : Int) (G_r : gS h r) (q_a : -2147483648 ≤ a ∧ a ≤ 2147483647) (p12 : fld h 13 1 < 12) (hl : h.length ≤ 999990000) : zwC sc 1 124 [(2, 13), (2, r), (0, a)] h (zwRv (fun g => CI g ∧ zXR msx124_q (0) (0) h g ∧ (fld g 13 1 = fld h 13 1 + 1))) := by
  refine zwC_of (D := 0) 3 (by decide +kernel) rfl (ls := [(2, 13), (2, r), (0, a)]) rfl ?_
  have lw_r := G_r.1
  have X : zXR msx124_q 0 0 h h := zXR.rf _ _
  refine zwW_p [(1, 0, 2)] (q := 1) (ls' := [(2, 13), (2, r), (0, a)]) (st' := [(2, 13)]) (by decide +kernel) rfl ?_
  refine zwW_gs C.1 (kd := 9) (bn := 1) (n := 6) (t := 0) (lo := 0) (hi := 12) (nx := 4) (by decide +kernel) ?_
  intro v1 ev1 lv1 uv1
  refine zwW_p [(1, 0, 2)] (q := 5) (ls' := [(2, 13), (2, r), (0, a)]) (st' := [(2, 13), (0, v1)]) (by decide +kernel) rfl ?_
  refine zwW_gc C.1 (kd := 9) (bn := 2) (n := 6) (c := 15) (nx := 8) (by decide +kernel) ?_
  refine zwW_len (kd := 24) (n := 12) (nx := 9) (by decide +kernel) (C.1.s (a1 := 15) (a2 := 15) (by decide +kernel) (by omega) (by omega)) rfl ?_
  refine zwic_ge (q := 42) (nx := 12) (by decide +kernel) (fun c2 => ?_) (fun c2 => ?_)
  · refine zwW_retv (nx := 43) (a := 0) (b := 0) (by decide +kernel) ?_
    exact ⟨C, X.le (by decide) (by decide), by omega⟩
  · refine zwW_p [(1, 0, 2)] (q := 13) (ls' := [(2, 13), (2, r), (0, a)]) (st' := [(2, 13)]) (by decide +kernel) rfl ?_
    refine zwW_gc C.1 (kd := 9) (bn := 2) (n := 6) (c := 15) (nx := 16) (by decide +kernel) ?_
    refine zwW_p [(1, 0, 2)] (q := 17) (ls' := [(2, 13), (2, r), (0, a)]) (st' := [(2, 13), (2, 15)]) (by decide +kernel) rfl ?_
    refine zwW_gs C.1 (kd := 9) (bn := 1) (n := 6) (t := 0) (lo := 0) (hi := 12) (nx := 20) (by decide +kernel) ?_
    intro v3 ev3 lv3 uv3
    refine zwW_p [(1, 1, 2)] (q := 21) (ls' := [(2, 13), (2, r), (0, a)]) (st' := [(2, r), (0, v3), (2, 15)]) (by decide +kernel) rfl ?_
    refine zwW_ast (a := 24) (kd := 24) (n := 12) (x := r) (nx := 22) (by decide +kernel) (C.1.s (a1 := 15) (a2 := 15) (by decide +kernel) (by decide) (by decide)) rfl (by omega) (by omega) (kept24 G_r) ?_
    rintro h4 eh4
    obtain ⟨Ch4, Qh4⟩ := C.ws (i := v3.toNat) G_r (by omega) (by omega) eh4
    have Xh4 : zXR msx124_q (0) (0) h h4 := X.tr (c2 := 0) (s2 := 0) Qh4 (by decide +kernel) (by decide) (by decide)
    have Gh4_0 : gS h4 r := G_r.x Qh4
    have th4_13_1 : fld h4 13 1 = fld h 13 1 := Qh4.f (a1 := 13) (a2 := 13) (j1 := 1) (j2 := 2) (by decide +kernel) ⟨by decide, by decide⟩ ⟨by decide, by decide⟩ ⟨by decide, by decide⟩
    refine zwW_p [(1, 0, 2)] (q := 23) (ls' := [(2, 13), (2, r), (0, a)]) (st' := [(2, 13)]) (by decide +kernel) rfl ?_
    refine zwW_gc Ch4.1 (kd := 9) (bn := 3) (n := 6) (c := 16) (nx := 26) (by decide +kernel) ?_
    refine zwW_p [(1, 0, 2)] (q := 27) (ls' := [(2, 13), (2, r), (0, a)]) (st' := [(2, 13), (2, 16)]) (by decide +kernel) rfl ?_
    refine zwW_gs Ch4.1 (kd := 9) (bn := 1) (n := 6) (t := 0) (lo := 0) (hi := 12) (nx := 30) (by decide +kernel) ?_
    intro v5 ev5 lv5 uv5
    refine zwW_p [(1, 2, 0)] (q := 31) (ls' := [(2, 13), (2, r), (0, a)]) (st' := [(0, a), (0, v5), (2, 16)]) (by decide +kernel) rfl ?_
    refine zwW_as Ch4.1 (a1 := 16) (a2 := 16) (n := 12) (lo := -2147483648) (hi := 2147483647) (nx := 32) (by decide +kernel) ⟨by decide, by decide⟩ ⟨by omega, by omega⟩ ⟨by omega, by omega⟩ ?_
    intro h6 eh6 Ih6
    have Ch6 : CI h6 := Ch4.wc eh6 Ih6 (by decide) (by decide)
    have Qh6 : zXR [(16, 16, 0, 12)] 0 0 h4 h6 := zXR.wc eh6 rfl ⟨by decide, by decide, Or.inl (by decide)⟩ ⟨by omega, by omega⟩
    have Xh6 : zXR msx124_q (0) (0) h h6 := Xh4.tr (c2 := 0) (s2 := 0) Qh6 (by decide +kernel) (by decide) (by decide)
    have Gh6_0 : gS h6 r := Gh4_0.x Qh6
    have th6_13_1 : fld h6 13 1 = fld h4 13 1 := Qh6.f (a1 := 13) (a2 := 13) (j1 := 1) (j2 := 2) (by decide +kernel) ⟨by decide, by decide⟩ ⟨by decide, by decide⟩ ⟨by decide, by decide⟩
    refine zwW_p [(1, 0, 2), (12, 0, 0)] (q := 34) (ls' := [(2, 13), (2, r), (0, a)]) (st' := [(2, 13), (2, 13)]) (by decide +kernel) rfl ?_
    refine zwW_gs Ch6.1 (kd := 9) (bn := 1) (n := 6) (t := 0) (lo := 0) (hi := 12) (nx := 37) (by decide +kernel) ?_
    intro v7 ev7 lv7 uv7
    refine zwW_p [(0, 1, 0)] (q := 38) (ls' := [(2, 13), (2, r), (0, a)]) (st' := [(0, 1), (0, v7), (2, 13)]) (by decide +kernel) rfl ?_
    refine zwW_add (nx := 39) (by decide +kernel) ⟨by omega, by omega⟩ ?_
    refine zwW_ps Ch6.1 (kd := 9) (bn := 1) (n := 6) (lo := 0) (hi := 12) (nx := 42) (by decide +kernel) ⟨by omega, by omega⟩ ?_
    intro h8 eh8 Ih8
    have Ch8 : CI h8 := Ch6.wc eh8 Ih8 (by decide) (by decide)
    have Qh8 : zXR [(13, 13, 1, 2)] 0 0 h6 h8 := zXR.wc eh8 rfl ⟨by decide, by decide, Or.inl (by decide)⟩ ⟨by decide, by decide⟩
    have Xh8 : zXR msx124_q (0) (0) h h8 := Xh6.tr (c2 := 0) (s2 := 0) Qh8 (by decide +kernel) (by decide) (by decide)
    have Gh8_0 : gS h8 r := Gh6_0.x Qh8
    have th8_13_1 : fld h8 13 1 = (v7 + 1) := by rw [eh8]; exact fld_wr_eq (Ch6.1.s (a1 := 13) (a2 := 13) (k := 9) (n := 6) (by decide +kernel) (by decide) (by decide)) (by decide)
    refine zwW_retv (nx := 43) (a := 0) (b := 0) (by decide +kernel) ?_
    exact ⟨Ch8, Xh8.le (by decide) (by decide), by omega⟩
def msx31_q : Zms := [(13, 13, 1, 2), (15, 15, 0, 12), (16, 16, 0, 12)]
-- WheelLand.force(II)I
theorem x31_q {sc : List Int} (h : Hp) (C : CI h) (a b : Int) (q_a : -2147483648 ≤ a ∧ a ≤ 2147483647) (q_b : -2147483648 ≤ b ∧ b ≤ 2147483647) (hl : h.length ≤ 999950000) : zwC sc 5 31 [(2, 1), (0, a), (0, b)] h (zwRt 0 (fun x g => CI g ∧ zXR msx31_q (0) (0) h g ∧ (-2147483648 ≤ x ∧ x ≤ 2147483647) ∧ ((x = fld h 13 1 + 1 ∧ fld g 13 1 = fld h 13 1 + 1 ∧ 0 ≤ a ∧ a < fld h 14 2 ∧ fld h 1 0 ≤ b ∧ b ≤ 155 ∧ fld h 13 1 < 12) ∨ (x = -1 ∧ fld g 13 1 = fld h 13 1 ∧ (a < 0 ∨ fld h 14 2 ≤ a ∨ b < fld h 1 0 ∨ 155 < b ∨ 12 ≤ fld h 13 1))))) := by
  refine zwC_of (D := 4) 3 (by decide +kernel) rfl (ls := [(2, 1), (0, a), (0, b)]) rfl ?_
  have X : zXR msx31_q 0 0 h h := zXR.rf _ _
  refine zwW_p [(1, 1, 0)] (q := 1) (ls' := [(2, 1), (0, a), (0, b)]) (st' := [(0, a)]) (by decide +kernel) rfl ?_
  refine zwif_lt (q := 44) (nx := 4) (by decide +kernel) (fun c1 => ?_) (fun c1 => ?_)
  · refine zwW_p [(0, -1, 0)] (q := 45) (ls' := [(2, 1), (0, a), (0, b)]) (st' := [(0, -1)]) (by decide +kernel) rfl ?_
    refine zwW_ret (nx := 46) (a := 0) (b := 0) (by decide +kernel) rfl (Or.inl rfl) ?_
    exact ⟨C, X.le (by decide) (by decide), by omega, by omega⟩
  · refine zwW_p [(1, 1, 0), (1, 0, 2)] (q := 6) (ls' := [(2, 1), (0, a), (0, b)]) (st' := [(2, 1), (0, a)]) (by decide +kernel) rfl ?_
    refine zwW_gc C.1 (kd := 12) (bn := 8) (n := 13) (c := 13) (nx := 9) (by decide +kernel) ?_
    refine zwW_gc C.1 (kd := 9) (bn := 0) (n := 6) (c := 14) (nx := 12) (by decide +kernel) ?_
    refine zwW_cm C.1 (op := 60) (k' := 96) (n := 0) (kd := 0) (m := 3) (nx := 15) (r := 14) (tl := []) (st' := [(0, a)]) (by decide +kernel) rfl (by decide +kernel) rfl (x96_14 C) ?_
    rintro v2 _ ⟨rfl, ev2⟩
    have bv2 := zLb_14 C
    refine zwic_ge (q := 44) (nx := 18) (by decide +kernel) (fun c3 => ?_) (fun c3 => ?_)
    · refine zwW_p [(0, -1, 0)] (q := 45) (ls' := [(2, 1), (0, a), (0, b)]) (st' := [(0, -1)]) (by decide +kernel) rfl ?_
      refine zwW_ret (nx := 46) (a := 0) (b := 0) (by decide +kernel) rfl (Or.inl rfl) ?_
      exact ⟨C, X.le (by decide) (by decide), by omega, by omega⟩
    · refine zwW_p [(1, 2, 0), (1, 0, 2)] (q := 20) (ls' := [(2, 1), (0, a), (0, b)]) (st' := [(2, 1), (0, b)]) (by decide +kernel) rfl ?_
      refine zwW_gs C.1 (kd := 12) (bn := 0) (n := 13) (t := 0) (lo := 0) (hi := 156) (nx := 23) (by decide +kernel) ?_
      intro v4 ev4 lv4 uv4
      refine zwW_p [(0, 155, 0)] (q := 26) (ls' := [(2, 1), (0, a), (0, b)]) (st' := [(0, 155), (0, v4), (0, b)]) (by decide +kernel) rfl ?_
      refine zwW_cs (k' := 98) (n := 3) (nx := 29) (as := [(0, b), (0, v4), (0, 155)]) (st' := []) (by decide +kernel) rfl (x98 h C b v4 155 (by omega) (by omega) (by omega)) rfl ?_
      rintro x _ ⟨rfl, ⟨rfl, c5⟩ | ⟨rfl, c5⟩⟩
      · refine zwif_ne (q := 44) (nx := 32) (by decide +kernel) (fun c6 => ?_) (fun c6 => ?_)
        · refine zwW_p [(0, -1, 0)] (q := 45) (ls' := [(2, 1), (0, a), (0, b)]) (st' := [(0, -1)]) (by decide +kernel) rfl ?_
          refine zwW_ret (nx := 46) (a := 0) (b := 0) (by decide +kernel) rfl (Or.inl rfl) ?_
          exact ⟨C, X.le (by decide) (by decide), by omega, by omega⟩
        · exfalso; omega
      · refine zwif_ne (q := 44) (nx := 32) (by decide +kernel) (fun c7 => ?_) (fun c7 => ?_)
        · exfalso; omega
        · refine zwW_p [(1, 0, 2)] (q := 33) (ls' := [(2, 1), (0, a), (0, b)]) (st' := [(2, 1)]) (by decide +kernel) rfl ?_
          refine zwW_gc C.1 (kd := 12) (bn := 8) (n := 13) (c := 13) (nx := 36) (by decide +kernel) ?_
          refine zwW_gs C.1 (kd := 9) (bn := 1) (n := 6) (t := 0) (lo := 0) (hi := 12) (nx := 39) (by decide +kernel) ?_
          intro v8 ev8 lv8 uv8
          refine zwW_p [(0, 12, 0)] (q := 41) (ls' := [(2, 1), (0, a), (0, b)]) (st' := [(0, 12), (0, v8)]) (by decide +kernel) rfl ?_
          refine zwic_lt (q := 46) (nx := 44) (by decide +kernel) (fun c9 => ?_) (fun c9 => ?_)
          · refine zwW_p [(1, 0, 2)] (q := 47) (ls' := [(2, 1), (0, a), (0, b)]) (st' := [(2, 1)]) (by decide +kernel) rfl ?_
            refine zwW_gc C.1 (kd := 12) (bn := 8) (n := 13) (c := 13) (nx := 50) (by decide +kernel) ?_
            refine zwW_p [(1, 0, 2)] (q := 51) (ls' := [(2, 1), (0, a), (0, b)]) (st' := [(2, 1), (2, 13)]) (by decide +kernel) rfl ?_
            refine zwW_gc C.1 (kd := 12) (bn := 8) (n := 13) (c := 13) (nx := 54) (by decide +kernel) ?_
            refine zwW_gc C.1 (kd := 9) (bn := 0) (n := 6) (c := 14) (nx := 57) (by decide +kernel) ?_
            refine zwW_p [(1, 1, 0)] (q := 58) (ls' := [(2, 1), (0, a), (0, b)]) (st' := [(0, a), (2, 14), (2, 13)]) (by decide +kernel) rfl ?_
            refine zwW_cm C.1 (op := 60) (k' := 123) (n := 1) (kd := 0) (m := 3) (nx := 61) (r := 14) (tl := [(0, a)]) (st' := [(2, 13)]) (by decide +kernel) rfl (by decide +kernel) rfl (x123_14 C (i := a) ⟨by omega, by omega⟩) ?_
            rintro v10 _ ⟨rfl, Gv10, ev10⟩
            have lv10 := Gv10.1
            refine zwW_cast (a := 10) (kd := 10) (n := 3) (nx := 64) (by decide +kernel) rfl (Or.inr Gv10.2.1) ?_
            refine zwW_p [(1, 2, 0)] (q := 65) (ls' := [(2, 1), (0, a), (0, b)]) (st' := [(0, b), (2, v10), (2, 13)]) (by decide +kernel) rfl ?_
            refine zwW_cmv C.1 (op := 60) (k' := 124) (n := 2) (kd := 9) (m := 6) (nx := 68) (r := 13) (tl := [(2, v10), (0, b)]) (st' := []) (by decide +kernel) rfl (by decide +kernel) rfl (x124_q h C v10 b Gv10 (by omega) (by omega) (by omega)) ?_
            rintro h12 ⟨Ch12, Qh12, f11⟩
            have Xh12 : zXR msx31_q (0) (0) h h12 := X.tr (c2 := 0) (s2 := 0) Qh12 (by decide +kernel) (by decide) (by decide)
            refine zwW_p [(1, 0, 2)] (q := 69) (ls' := [(2, 1), (0, a), (0, b)]) (st' := [(2, 1)]) (by decide +kernel) rfl ?_
            refine zwW_gc Ch12.1 (kd := 12) (bn := 8) (n := 13) (c := 13) (nx := 72) (by decide +kernel) ?_
            refine zwW_gs Ch12.1 (kd := 9) (bn := 1) (n := 6) (t := 0) (lo := 0) (hi := 12) (nx := 75) (by decide +kernel) ?_
            intro v13 ev13 lv13 uv13
            refine zwW_ret (nx := 76) (a := 0) (b := 0) (by decide +kernel) rfl (Or.inl rfl) ?_
            exact ⟨Ch12, Xh12.le (by decide) (by decide), by omega, by omega⟩
          · refine zwW_p [(0, -1, 0)] (q := 45) (ls' := [(2, 1), (0, a), (0, b)]) (st' := [(0, -1)]) (by decide +kernel) rfl ?_
            refine zwW_ret (nx := 46) (a := 0) (b := 0) (by decide +kernel) rfl (Or.inl rfl) ?_
            exact ⟨C, X.le (by decide) (by decide), by omega, by omega⟩
