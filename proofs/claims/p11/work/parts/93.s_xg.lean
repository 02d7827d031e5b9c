/-! contracts of the class -/
def msx19_z : Zms := [(1, 1, 0, 1), (1, 1, 1, 2), (4, 4, 0, 3), (17, 17, 0, 13), (18, 18, 0, 400), (34, 34, 2, 3), (35, 35, 0, 936), (36, 36, 0, 8), (1004, 1004, 6, 7), (1004, 1004, 8, 9), (1004, 1004, 9, 10), (1004, 1004, 10, 11), (1004, 1004, 14, 15), (1004, 1004, 15, 16), (1004, 1004, 18, 19), (1011, 1011, 3, 4), (1011, 1011, 4, 5), (1011, 1011, 5, 6), (1011, 1011, 6, 7), (1011, 1011, 7, 8), (1011, 1011, 9, 10), (1011, 1011, 10, 11), (1011, 1011, 13, 14), (1011, 1011, 14, 15), (1011, 1011, 15, 16), (1020, 1020, 0, 100000)]
-- WheelLand.go(I)I
theorem x19_z {sc : List Int} (h : Hp) (C : CI h) (a : Int) (q : qT) (q_a : -2147483648 ≤ a ∧ a ≤ 2147483647) (J : yR h) (V : zRq q h) (K : yInv (yC h)) (W : zLw h) (PD : zPd h) (hl : h.length ≤ 999910000) : zwC sc 9 19 [(2, 1), (0, a)] h (zwRt 0 (fun x g => CI g ∧ zXR msx19_z (0) (0) h g ∧ (-2147483648 ≤ x ∧ x ≤ 2147483647) ∧ (zRq q g) ∧ (x = yGoA q (yC h) a) ∧ (yC g = yGoF q (yC h) a) ∧ (yR g))) := by
  refine zwC_of (D := 8) 3 (by decide +kernel) rfl (ls := [(2, 1), (0, a), (9, 0)]) rfl ?_
  have X : zXR msx19_z 0 0 h h := zXR.rf _ _
  have u0 : yC h 37 0 = fld h 1 0 := rfl
  have u1 : yC h 37 1 = fld h 2 2 := rfl
  have u2 : yC h 37 2 = fld h 3 2 := rfl
  have u64 : yC h 37 64 = fld h 4 2 := rfl
  have u78 : yC h 37 78 = fld h 5 2 := rfl
  refine zwW_p [(1, 1, 0), (0, 0, 0), (0, 26, 0)] (q := 4) (ls' := [(2, 1), (0, a), (9, 0)]) (st' := [(0, 26), (0, 0), (0, a)]) (by decide +kernel) rfl ?_
  refine zwW_cs (k' := 98) (n := 3) (nx := 7) (as := [(0, a), (0, 0), (0, 26)]) (st' := []) (by decide +kernel) rfl (x98 h C a 0 26 (by omega) (by omega) (by omega)) rfl ?_
  rintro x _ ⟨rfl, ⟨rfl, c1⟩ | ⟨rfl, c1⟩⟩
  · refine zwif_eq (q := 12) (nx := 10) (by decide +kernel) (fun c2 => ?_) (fun c2 => ?_)
    · exfalso; omega
    · refine zwW_p [(0, -1, 0)] (q := 11) (ls' := [(2, 1), (0, a), (9, 0)]) (st' := [(0, -1)]) (by decide +kernel) rfl ?_
      refine zwW_ret (nx := 12) (a := 0) (b := 0) (by decide +kernel) rfl (Or.inl rfl) ?_
      exact ⟨C, X.le (by decide) (by decide), by omega, by first | exact {i14_0} | exact V, by first | (unfold yGoA; rw [if_neg (by omega)]) | (unfold yGoA; rw [if_pos (by omega), yGoN_e (k := ({k}).toNat) (n := a.toNat) (by omega)]; omega), by first | (unfold yGoF; rw [if_neg (by omega)]) | (unfold yGoF; rw [if_pos (by omega), yGoN_e (k := ({k}).toNat) (n := a.toNat) (by omega)]; exact (rfl : yC h = yC h)), by exact J⟩
  · refine zwif_eq (q := 12) (nx := 10) (by decide +kernel) (fun c3 => ?_) (fun c3 => ?_)
    · refine zwW_p [(0, 0, 0), (2, 2, 0)] (q := 14) (ls' := [(2, 1), (0, a), (0, 0)]) (st' := []) (by decide +kernel) rfl ?_
      have L4 : ∀ (n0 : Nat) (kL4 : Int) (hL4 : Hp), n0 = ((1000 - kL4)).toNat → (zRq q hL4) → (zLw hL4) → (zPd hL4) → (kL4 ≤ a) → (0 ≤ kL4 ∧ kL4 ≤ 26) → (yC hL4 = (yGoN q (yC h) (kL4).toNat)) → (yR hL4) → CI hL4 → zXR msx19_z (0) (0) h hL4 → zwW sc (8) 19 14 [(2, 1), (0, a), (0, kL4)] [] hL4 (zwRt 0 (fun x g => CI g ∧ zXR msx19_z (0) (0) h g ∧ (-2147483648 ≤ x ∧ x ≤ 2147483647) ∧ (zRq q g) ∧ (x = yGoA q (yC h) a) ∧ (yC g = yGoF q (yC h) a) ∧ (yR g))) := by
        intro n0
        induction n0 using Nat.strongRecOn with
        | ind n0 IHL4 =>
          intro kL4 hL4 hnL4 iL4_0 iL4_1 iL4_2 iL4_3 iL4_4 iL4_5 iL4_6 ChL4 XhL4
          refine zwW_p [(1, 2, 0), (1, 1, 0)] (q := 16) (ls' := [(2, 1), (0, a), (0, kL4)]) (st' := [(0, a), (0, kL4)]) (by decide +kernel) rfl ?_
          refine zwic_ge (q := 39) (nx := 19) (by decide +kernel) (fun c5 => ?_) (fun c5 => ?_)
          · refine zwW_p [(1, 0, 2)] (q := 40) (ls' := [(2, 1), (0, a), (0, kL4)]) (st' := [(2, 1)]) (by decide +kernel) rfl ?_
            refine zwW_gs ChL4.1 (kd := 12) (bn := 0) (n := 13) (t := 0) (lo := 0) (hi := 156) (nx := 43) (by decide +kernel) ?_
            intro v6 ev6 lv6 uv6
            have sv6 : v6 = (yGoN q (yC h) (kL4).toNat) 37 0 := Eq.trans ev6 (Eq.trans (Eq.symm (yC_s (h := hL4) (i := 0) rfl)) (Eq.trans (congrFun (congrFun iL4_5 37) 0) rfl))
            refine zwW_ret (nx := 44) (a := 0) (b := 0) (by decide +kernel) rfl (Or.inl rfl) ?_
            exact ⟨ChL4, XhL4.le (by decide) (by decide), by omega, by first | exact iL4_0 | exact V, by first | (unfold yGoA; rw [if_neg (by omega)]) | (unfold yGoA; rw [if_pos (by omega), yGoN_e (k := (kL4).toNat) (n := a.toNat) (by omega)]; omega), by first | (unfold yGoF; rw [if_neg (by omega)]) | (unfold yGoF; rw [if_pos (by omega), yGoN_e (k := (kL4).toNat) (n := a.toNat) (by omega)]; exact iL4_5), by exact iL4_6⟩
          · refine zwW_p [(1, 0, 2)] (q := 20) (ls' := [(2, 1), (0, a), (0, kL4)]) (st' := [(2, 1)]) (by decide +kernel) rfl ?_
            refine zwW_gs ChL4.1 (kd := 12) (bn := 0) (n := 13) (t := 0) (lo := 0) (hi := 156) (nx := 23) (by decide +kernel) ?_
            intro v7 ev7 lv7 uv7
            have sv7 : v7 = (yGoN q (yC h) (kL4).toNat) 37 0 := Eq.trans ev7 (Eq.trans (Eq.symm (yC_s (h := hL4) (i := 0) rfl)) (Eq.trans (congrFun (congrFun iL4_5 37) 0) rfl))
            refine zwW_p [(0, 156, 0)] (q := 26) (ls' := [(2, 1), (0, a), (0, kL4)]) (st' := [(0, 156), (0, v7)]) (by decide +kernel) rfl ?_
            refine zwic_ge (q := 39) (nx := 29) (by decide +kernel) (fun c8 => ?_) (fun c8 => ?_)
            · refine zwW_p [(1, 0, 2)] (q := 40) (ls' := [(2, 1), (0, a), (0, kL4)]) (st' := [(2, 1)]) (by decide +kernel) rfl ?_
              refine zwW_gs ChL4.1 (kd := 12) (bn := 0) (n := 13) (t := 0) (lo := 0) (hi := 156) (nx := 43) (by decide +kernel) ?_
              intro v9 ev9 lv9 uv9
              have sv9 : v9 = (yGoN q (yC h) (kL4).toNat) 37 0 := Eq.trans ev9 (Eq.trans (Eq.symm (yC_s (h := hL4) (i := 0) rfl)) (Eq.trans (congrFun (congrFun iL4_5 37) 0) rfl))
              refine zwW_ret (nx := 44) (a := 0) (b := 0) (by decide +kernel) rfl (Or.inl rfl) ?_
              exact ⟨ChL4, XhL4.le (by decide) (by decide), by omega, by first | exact iL4_0 | exact V, by first | (unfold yGoA; rw [if_neg (by omega)]) | (unfold yGoA; rw [if_pos (by omega), yGoN_e (k := (kL4).toNat) (n := a.toNat) (by omega)]; omega), by first | (unfold yGoF; rw [if_neg (by omega)]) | (unfold yGoF; rw [if_pos (by omega), yGoN_e (k := (kL4).toNat) (n := a.toNat) (by omega)]; exact iL4_5), by exact iL4_6⟩
            · refine zwW_p [(1, 0, 2)] (q := 30) (ls' := [(2, 1), (0, a), (0, kL4)]) (st' := [(2, 1)]) (by decide +kernel) rfl ?_
              refine zwW_cmv ChL4.1 (op := 60) (k' := 113) (n := 0) (kd := 12) (m := 13) (nx := 33) (r := 1) (tl := []) (st' := []) (by decide +kernel) rfl (by decide +kernel) rfl (x113_z hL4 ChL4 q iL4_6 iL4_0 (by rw [iL4_5]; exact (K.go _).1) (by rw [iL4_5]; exact (K.go _).2.1) (by rw [iL4_5]; exact (K.go _).2.2.1) iL4_1 iL4_2 (by omega) (by have := XhL4.hl C ChL4 (by decide) hl; omega)) ?_
              rintro h14 ⟨Ch14, Qh14, f10, f11, f12, f13⟩
              have Zh14 : yC h14 = (yWkC q (yGoN q (yC h) (kL4).toNat)) := by rw [f12, iL4_5]
              have Xh14 : zXR msx19_z (0) (0) h h14 := XhL4.tr (c2 := 0) (s2 := 0) Qh14 (by decide +kernel) (by decide) (by decide)
              have Wh14 : zLw h14 := iL4_1.fr Qh14 (by decide +kernel)
              have PDh14 : zPd h14 := iL4_2.fr ChL4 Qh14 (by decide +kernel)
              have VN : zRq q h14 := f11
              refine zwW_inc (i := 2) (c := 1) (x := kL4) (nx := 36) (by decide +kernel) rfl ⟨by omega, by omega⟩ (ls' := [(2, 1), (0, a), (0, (kL4 + 1))]) rfl ?_
              refine zwW_p [(24, 14, 0)] (q := 14) (ls' := [(2, 1), (0, a), (0, (kL4 + 1))]) (st' := []) (by decide +kernel) rfl ?_
              exact IHL4 ((1000 - (kL4 + 1))).toNat (by omega) (kL4 + 1) h14 rfl (VN) (Wh14) (PDh14) (by omega) (by omega) (by rw [show (kL4 + 1).toNat = (kL4).toNat + 1 by omega, yGoN_s, if_pos (by omega)]; exact Zh14) (f13) Ch14 (Xh14.le (by decide) (by decide))
      exact L4 _ 0 h rfl (V) (W) (PD) (by omega) (by omega) ((rfl : yC h = yC h)) (J) C (X.le (by decide) (by decide))
    · exfalso; omega
