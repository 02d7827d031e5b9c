/-! contracts of methods -/
-- WheelLandModel.go(I)I
theorem m20_z {sc : List Int} (h : Hp) (I : zI h) (a : Int) (q : qT) (hA : zAM h) (V : mRq q h) (K : yInv (yM h)) : zwC sc 9 20 [(2, 37), (0, a)] h (zwRt 0 (fun x g => zI g ∧ zMR ms20 h g ∧ (-2147483648 ≤ x ∧ x ≤ 2147483647) ∧ (x = yGoA q (yM h) a) ∧ (yM g = yGoF q (yM h) a))) := by
  refine zwC_of (D := 8) 3 (by decide +kernel) rfl (ls := [(2, 37), (0, a), (9, 0)]) rfl ?_
  have R : zMR ms20 h h := zMR.rf _ _
  have u0 : yM h 37 0 = fld h 37 0 := rfl
  have u1 : yM h 37 1 = fld h 37 1 := rfl
  have u2 : yM h 37 2 = fld h 37 2 := rfl
  have u64 : yM h 37 64 = fld h 37 64 := rfl
  have u78 : yM h 37 78 = fld h 37 78 := rfl
  have B0 := I.b (a1 := 37) (a2 := 37) (j1 := 2) (j2 := 3) (lo := 0) (hi := 20) (by decide +kernel) (r := 37) (j := 2) (by decide) (by decide) (by decide) (by decide)
  refine zwW_p [(1, 1, 0), (7, 0, 0), (0, 0, 1), (0, 26, 1)] (q := 6) (ls' := [(2, 37), (0, a), (9, 0)]) (st' := [(1, 26), (1, 0), (1, a)]) (by decide +kernel) rfl ?_
  refine zwW_cs (k' := 101) (n := 3) (nx := 9) (as := [(1, a), (1, 0), (1, 26)]) (st' := []) (by decide +kernel) rfl (m101 h a 0 26) rfl ?_
  rintro x _ ⟨rfl, ⟨rfl, c1⟩ | ⟨rfl, c1⟩⟩
  · refine zwif_ne (q := 14) (nx := 12) (by decide +kernel) (fun c2 => ?_) (fun c2 => ?_)
    · refine zwW_p [(0, 0, 0), (2, 2, 0)] (q := 16) (ls' := [(2, 37), (0, a), (0, 0)]) (st' := []) (by decide +kernel) rfl ?_
      have L3 : ∀ (n0 : Nat) (kL3 : Int) (hL3 : Hp), n0 = ((1000 - kL3)).toNat → (mRq q hL3) → (0 ≤ kL3 ∧ kL3 ≤ a) → (yM hL3 = (yGoN q (yM h) (kL3).toNat)) → zI hL3 → zMR ms20 h hL3 → zwW sc (8) 20 16 [(2, 37), (0, a), (0, kL3)] [] hL3 (zwRt 0 (fun x g => zI g ∧ zMR ms20 h g ∧ (-2147483648 ≤ x ∧ x ≤ 2147483647) ∧ (x = yGoA q (yM h) a) ∧ (yM g = yGoF q (yM h) a))) := by
        intro n0
        induction n0 using Nat.strongRecOn with
        | ind n0 IHL3 =>
          intro kL3 hL3 hnL3 iL3_0 iL3_1 iL3_2 IhL3 RhL3
          refine zwW_p [(1, 2, 0), (1, 1, 0)] (q := 18) (ls' := [(2, 37), (0, a), (0, kL3)]) (st' := [(0, a), (0, kL3)]) (by decide +kernel) rfl ?_
          refine zwic_ge (q := 41) (nx := 21) (by decide +kernel) (fun c4 => ?_) (fun c4 => ?_)
          · refine zwW_p [(1, 0, 2)] (q := 42) (ls' := [(2, 37), (0, a), (0, kL3)]) (st' := [(2, 37)]) (by decide +kernel) rfl ?_
            refine zwW_gs IhL3 (kd := 13) (bn := 0) (n := 97) (t := 0) (lo := 0) (hi := 156) (nx := 45) (by decide +kernel) ?_
            intro v5 ev5 lv5 uv5
            have sv5 : v5 = (yGoN q (yM h) (kL3).toNat) 37 0 := Eq.trans ev5 (Eq.trans (Eq.symm (yM_s (h := hL3) (i := 0) rfl)) (Eq.trans (congrFun (congrFun iL3_2 37) 0) rfl))
            refine zwW_ret (nx := 46) (a := 0) (b := 0) (by decide +kernel) rfl (Or.inl rfl) ?_
            exact ⟨IhL3, RhL3, by omega, by first | (unfold yGoA; rw [if_neg (by omega)]) | (unfold yGoA; rw [if_pos (by omega), yGoN_e (k := (kL3).toNat) (n := a.toNat) (by omega)]; omega), by first | (unfold yGoF; rw [if_neg (by omega)]) | (unfold yGoF; rw [if_pos (by omega), yGoN_e (k := (kL3).toNat) (n := a.toNat) (by omega)]; exact iL3_2)⟩
          · refine zwW_p [(1, 0, 2)] (q := 22) (ls' := [(2, 37), (0, a), (0, kL3)]) (st' := [(2, 37)]) (by decide +kernel) rfl ?_
            refine zwW_gs IhL3 (kd := 13) (bn := 0) (n := 97) (t := 0) (lo := 0) (hi := 156) (nx := 25) (by decide +kernel) ?_
            intro v6 ev6 lv6 uv6
            have sv6 : v6 = (yGoN q (yM h) (kL3).toNat) 37 0 := Eq.trans ev6 (Eq.trans (Eq.symm (yM_s (h := hL3) (i := 0) rfl)) (Eq.trans (congrFun (congrFun iL3_2 37) 0) rfl))
            refine zwW_p [(0, 156, 0)] (q := 28) (ls' := [(2, 37), (0, a), (0, kL3)]) (st' := [(0, 156), (0, v6)]) (by decide +kernel) rfl ?_
            refine zwic_ge (q := 41) (nx := 31) (by decide +kernel) (fun c7 => ?_) (fun c7 => ?_)
            · refine zwW_p [(1, 0, 2)] (q := 42) (ls' := [(2, 37), (0, a), (0, kL3)]) (st' := [(2, 37)]) (by decide +kernel) rfl ?_
              refine zwW_gs IhL3 (kd := 13) (bn := 0) (n := 97) (t := 0) (lo := 0) (hi := 156) (nx := 45) (by decide +kernel) ?_
              intro v8 ev8 lv8 uv8
              have sv8 : v8 = (yGoN q (yM h) (kL3).toNat) 37 0 := Eq.trans ev8 (Eq.trans (Eq.symm (yM_s (h := hL3) (i := 0) rfl)) (Eq.trans (congrFun (congrFun iL3_2 37) 0) rfl))
              refine zwW_ret (nx := 46) (a := 0) (b := 0) (by decide +kernel) rfl (Or.inl rfl) ?_
              exact ⟨IhL3, RhL3, by omega, by first | (unfold yGoA; rw [if_neg (by omega)]) | (unfold yGoA; rw [if_pos (by omega), yGoN_e (k := (kL3).toNat) (n := a.toNat) (by omega)]; omega), by first | (unfold yGoF; rw [if_neg (by omega)]) | (unfold yGoF; rw [if_pos (by omega), yGoN_e (k := (kL3).toNat) (n := a.toNat) (by omega)]; exact iL3_2)⟩
            · refine zwW_p [(1, 0, 2)] (q := 32) (ls' := [(2, 37), (0, a), (0, kL3)]) (st' := [(2, 37)]) (by decide +kernel) rfl ?_
              refine zwW_cmv IhL3 (op := 60) (k' := 114) (n := 0) (kd := 13) (m := 97) (nx := 35) (r := 37) (tl := []) (st' := []) (by decide +kernel) rfl (by decide +kernel) rfl (m114_z hL3 IhL3 q (by omega) (hA.mr RhL3 (by decide +kernel) (by omega)) iL3_0 (by rw [iL3_2]; exact (K.go _).1) (by rw [iL3_2]; exact (K.go _).2.1) (by rw [iL3_2]; exact (K.go _).2.2.1) (by rw [iL3_2]; exact (K.go _).2.2.2)) ?_
              rintro h11 ⟨Ih11, Qh11, f9, f10⟩
              have Rh11 : zMR ms20 h h11 := RhL3.tr Qh11 (by decide +kernel)
              have Vh11 : mRq q h11 := iL3_0.fr Qh11 (by decide +kernel)
              have Zh11 : yM h11 = (yWkM q (yGoN q (yM h) (kL3).toNat)) := by rw [f10, iL3_2]
              refine zwW_inc (i := 2) (c := 1) (x := kL3) (nx := 38) (by decide +kernel) rfl ⟨by omega, by omega⟩ (ls' := [(2, 37), (0, a), (0, (kL3 + 1))]) rfl ?_
              refine zwW_p [(24, 16, 0)] (q := 16) (ls' := [(2, 37), (0, a), (0, (kL3 + 1))]) (st' := []) (by decide +kernel) rfl ?_
              exact IHL3 ((1000 - (kL3 + 1))).toNat (by omega) (kL3 + 1) h11 rfl (Vh11) (by omega) (by rw [show (kL3 + 1).toNat = (kL3).toNat + 1 by omega, yGoN_s, if_pos (by omega)]; exact Zh11.trans yWk_e) Ih11 Rh11
      exact L3 _ 0 h rfl (V) (by omega) ((rfl : yM h = yM h)) I R
    · exfalso; omega
  · refine zwif_ne (q := 14) (nx := 12) (by decide +kernel) (fun c12 => ?_) (fun c12 => ?_)
    · exfalso; omega
    · refine zwW_p [(0, -1, 0)] (q := 13) (ls' := [(2, 37), (0, a), (9, 0)]) (st' := [(0, -1)]) (by decide +kernel) rfl ?_
      refine zwW_ret (nx := 14) (a := 0) (b := 0) (by decide +kernel) rfl (Or.inl rfl) ?_
      exact ⟨I, R, by omega, by first | (unfold yGoA; rw [if_neg (by omega)]) | (unfold yGoA; rw [if_pos (by omega), yGoN_e (k := ({k}).toNat) (n := a.toNat) (by omega)]; omega), by first | (unfold yGoF; rw [if_neg (by omega)]) | (unfold yGoF; rw [if_pos (by omega), yGoN_e (k := ({k}).toNat) (n := a.toNat) (by omega)]; exact (rfl : yM h = yM h))⟩
