/-! contracts of the class -/
-- WheelLand$House.couldSpin(I)I
theorem x230_z {sc : List Int} (h : Hp) (C : CI h) (r a : Int) (G_r : gH h r) (q_a : -2147483648 ≤ a ∧ a ≤ 2147483647) (J : yR h) (k : Nat) (P_r : r = zv h 3 k ∧ (k : Int) < fld h 3 2) (B : zBs (yC h)) (pa : a = yC h 37 0 / 13 % 4) : zwC sc 2 230 [(2, r), (0, a)] h (zwRt 0 (fun x g => h = g ∧ (-2147483648 ≤ x ∧ x ≤ 2147483647) ∧ (x = yCan (yC h) k))) := by
  refine zwC_of (D := 1) 2 (by decide +kernel) rfl (ls := [(2, r), (0, a)]) rfl ?_
  have lw_r := G_r.1
  have u0 : yC h 37 0 = fld h 1 0 := rfl
  have u1 : yC h 37 1 = fld h 2 2 := rfl
  have u2 : yC h 37 2 = fld h 3 2 := rfl
  have u64 : yC h 37 64 = fld h 4 2 := rfl
  have u78 : yC h 37 78 = fld h 5 2 := rfl
  have KB := B.1 k (by have := P_r.2; omega)
  have KI := (B.2.1 (yC h 79 k).toNat (by omega)).2
  refine zwW_p [(1, 0, 2)] (q := 1) (ls' := [(2, r), (0, a)]) (st' := [(2, r)]) (by decide +kernel) rfl ?_
  refine zwX_gi C (kd := 4) (bn := 2) (n := 19) (nx := 4) (by decide +kernel) G_r.2.1 G_r.1 rfl ?_
  intro v1 ev1 lv1 uv1
  have sv1 : v1 = (yC h) 80 k := Eq.trans ev1 (Eq.trans (congrArg (fun q => fld h q 2) P_r.1) (Eq.trans (Eq.symm (yC_f (h := h) (a := 80) (A := 3) (j := 2) (i := k) rfl P_r.2)) (Eq.trans (congrFun (congrFun (rfl : yC h = yC h) 80) k) rfl)))
  refine zwW_p [(1, 0, 2)] (q := 5) (ls' := [(2, r), (0, a)]) (st' := [(2, r), (0, v1)]) (by decide +kernel) rfl ?_
  refine zwW_get (kd := 4) (bn := 1) (t := 2) (n := 19) (nx := 8) (by decide +kernel) G_r.2.1 rfl ?_
  obtain ⟨v2, ev2⟩ : ∃ z, z = fld h r 1 := ⟨_, rfl⟩
  rw [← ev2]
  have Gv2 : gV h v2 := by rw [ev2]; exact G_r.2.2
  have lv2 := Gv2.1
  have qv2 : yC h 79 k = (yC h) 79 k := Eq.trans (congrFun (congrFun (rfl : yC h = yC h) 79) k) rfl
  have wv2 := J.r (a := 79) (A := 3) (j := 1) (B := 2) (i := k) rfl P_r.2
  rw [qv2] at wv2
  have pv2 : v2 = zv h 2 (((yC h) 79 k).toNat) ∧ ((((yC h) 79 k).toNat : Nat) : Int) < fld h 2 2 := ⟨by rw [ev2, P_r.1]; exact wv2.2.2, wv2.2.1⟩
  refine zwW_p [(1, 1, 0)] (q := 9) (ls' := [(2, r), (0, a)]) (st' := [(0, a), (2, v2), (0, v1)]) (by decide +kernel) rfl ?_
  refine zwW_cv (op := 60) (k' := 222) (n := 1) (kd := 11) (m := 17) (nx := 12) (r := v2) (tl := [(0, a)]) (st' := [(0, v1)]) (by decide +kernel) rfl (by decide +kernel) Gv2.2.1 (x222_z h C v2 a Gv2 (by omega) J (((yC h) 79 k).toNat) pv2 ⟨by omega, by omega⟩ (KI a.toNat (by omega))) rfl ?_
  rintro v3 _ ⟨rfl, f4, f5⟩
  have sv3 : v3 = yIdl (yC h) (((yC h) 79 k).toNat) a := by rw [f5]
  have I12 : 0 ≤ v3 ∧ v3 ≤ 40 := by rw [sv3]; exact KI a.toNat (by omega)
  refine zwW_mulp (A := 5) (B := 40) (nx := 13) (by decide +kernel) ⟨by omega, by omega⟩ ⟨by omega, by omega⟩ (by decide) ?_
  intro v6 ev6 lv6 uv6
  have Ev6 : v6 = ((yC h) 80 k) * (yIdl (yC h) (((yC h) 79 k).toNat) a) := by rw [ev6, sv1, sv3]
  refine zwW_p [(0, 10, 0), (1, 0, 2)] (q := 16) (ls' := [(2, r), (0, a)]) (st' := [(2, r), (0, 10), (0, v6)]) (by decide +kernel) rfl ?_
  refine zwX_gi C (kd := 4) (bn := 3) (n := 19) (nx := 19) (by decide +kernel) G_r.2.1 G_r.1 rfl ?_
  intro v7 ev7 lv7 uv7
  have sv7 : v7 = (yC h) 81 k := Eq.trans ev7 (Eq.trans (congrArg (fun q => fld h q 3) P_r.1) (Eq.trans (Eq.symm (yC_f (h := h) (a := 81) (A := 3) (j := 3) (i := k) rfl P_r.2)) (Eq.trans (congrFun (congrFun (rfl : yC h = yC h) 81) k) rfl)))
  refine zwW_add (nx := 20) (by decide +kernel) ⟨by omega, by omega⟩ ?_
  refine zwW_mulp (A := 200) (B := 19) (nx := 21) (by decide +kernel) ⟨by omega, by omega⟩ ⟨by omega, by omega⟩ (by decide) ?_
  intro v8 ev8 lv8 uv8
  have Ev8 : v8 = (((yC h) 80 k) * (yIdl (yC h) (((yC h) 79 k).toNat) a)) * (10 + ((yC h) 81 k)) := by rw [ev8, Ev6, sv7]
  refine zwW_p [(0, 24, 0)] (q := 23) (ls' := [(2, r), (0, a)]) (st' := [(0, 24), (0, v8)]) (by decide +kernel) rfl ?_
  refine zwW_div (nx := 24) (by decide +kernel) (by omega) (by omega) (by omega) ?_
  refine zwW_ret (nx := 25) (a := 0) (b := 0) (by decide +kernel) rfl (Or.inl rfl) ?_
  exact ⟨rfl, by omega, by unfold yCan; rw [← pa, ← sv3, ← sv1, ← sv7, ← ev6, ← ev8]⟩
-- WheelLand$House.strength()I
theorem x169_z {sc : List Int} (h : Hp) (C : CI h) (r : Int) (G_r : gH h r) (J : yR h) (k : Nat) (P_r : r = zv h 3 k ∧ (k : Int) < fld h 3 2) : zwC sc 1 169 [(2, r)] h (zwRt 0 (fun x g => h = g ∧ (-2147483648 ≤ x ∧ x ≤ 2147483647) ∧ (x = yStr (yC h) k))) := by
  refine zwC_of (D := 0) 1 (by decide +kernel) rfl (ls := [(2, r)]) rfl ?_
  have lw_r := G_r.1
  have u0 : yC h 37 0 = fld h 1 0 := rfl
  have u1 : yC h 37 1 = fld h 2 2 := rfl
  have u2 : yC h 37 2 = fld h 3 2 := rfl
  have u64 : yC h 37 64 = fld h 4 2 := rfl
  have u78 : yC h 37 78 = fld h 5 2 := rfl
  refine zwW_p [(0, 20, 0), (1, 0, 2)] (q := 3) (ls' := [(2, r)]) (st' := [(2, r), (0, 20)]) (by decide +kernel) rfl ?_
  refine zwW_get (kd := 4) (bn := 1) (t := 2) (n := 19) (nx := 6) (by decide +kernel) G_r.2.1 rfl ?_
  obtain ⟨v1, ev1⟩ : ∃ z, z = fld h r 1 := ⟨_, rfl⟩
  rw [← ev1]
  have Gv1 : gV h v1 := by rw [ev1]; exact G_r.2.2
  have lv1 := Gv1.1
  have qv1 : yC h 79 k = (yC h) 79 k := Eq.trans (congrFun (congrFun (rfl : yC h = yC h) 79) k) rfl
  have wv1 := J.r (a := 79) (A := 3) (j := 1) (B := 2) (i := k) rfl P_r.2
  rw [qv1] at wv1
  have pv1 : v1 = zv h 2 (((yC h) 79 k).toNat) ∧ ((((yC h) 79 k).toNat : Nat) : Int) < fld h 2 2 := ⟨by rw [ev1, P_r.1]; exact wv1.2.2, wv1.2.1⟩
  refine zwX_gi C (kd := 11) (bn := 2) (n := 17) (nx := 9) (by decide +kernel) Gv1.2.1 Gv1.1 rfl ?_
  intro v2 ev2 lv2 uv2
  have sv2 : v2 = (yC h) 65 (((yC h) 79 k).toNat) := Eq.trans ev2 (Eq.trans (congrArg (fun q => fld h q 2) pv1.1) (Eq.trans (Eq.symm (yC_f (h := h) (a := 65) (A := 2) (j := 2) (i := ((yC h) 79 k).toNat) rfl pv1.2)) (Eq.trans (congrFun (congrFun (rfl : yC h = yC h) 65) (((yC h) 79 k).toNat)) rfl)))
  refine zwW_mlw (nx := 10) (by decide +kernel) ?_
  intro v3 ev3 lv3 uv3
  have Ev3 : v3 = w32 (20 * ((yC h) 65 (((yC h) 79 k).toNat))) := by rw [ev3, sv2]
  refine zwW_p [(0, 3, 0), (1, 0, 2)] (q := 12) (ls' := [(2, r)]) (st' := [(2, r), (0, 3), (0, v3)]) (by decide +kernel) rfl ?_
  refine zwX_gi C (kd := 4) (bn := 3) (n := 19) (nx := 15) (by decide +kernel) G_r.2.1 G_r.1 rfl ?_
  intro v4 ev4 lv4 uv4
  have sv4 : v4 = (yC h) 81 k := Eq.trans ev4 (Eq.trans (congrArg (fun q => fld h q 3) P_r.1) (Eq.trans (Eq.symm (yC_f (h := h) (a := 81) (A := 3) (j := 3) (i := k) rfl P_r.2)) (Eq.trans (congrFun (congrFun (rfl : yC h = yC h) 81) k) rfl)))
  refine zwW_mlw (nx := 16) (by decide +kernel) ?_
  intro v5 ev5 lv5 uv5
  have Ev5 : v5 = w32 (3 * ((yC h) 81 k)) := by rw [ev5, sv4]
  refine zwW_adw (nx := 17) (by decide +kernel) ?_
  intro v6 ev6 lv6 uv6
  have Ev6 : v6 = w32 ((w32 (20 * ((yC h) 65 (((yC h) 79 k).toNat)))) + (w32 (3 * ((yC h) 81 k)))) := by rw [ev6, Ev3, Ev5]
  refine zwW_p [(0, 2, 0), (1, 0, 2)] (q := 19) (ls' := [(2, r)]) (st' := [(2, r), (0, 2), (0, v6)]) (by decide +kernel) rfl ?_
  refine zwX_gi C (kd := 4) (bn := 7) (n := 19) (nx := 22) (by decide +kernel) G_r.2.1 G_r.1 rfl ?_
  intro v7 ev7 lv7 uv7
  have sv7 : v7 = (yC h) 85 k := Eq.trans ev7 (Eq.trans (congrArg (fun q => fld h q 7) P_r.1) (Eq.trans (Eq.symm (yC_f (h := h) (a := 85) (A := 3) (j := 7) (i := k) rfl P_r.2)) (Eq.trans (congrFun (congrFun (rfl : yC h = yC h) 85) k) rfl)))
  refine zwW_mlw (nx := 23) (by decide +kernel) ?_
  intro v8 ev8 lv8 uv8
  have Ev8 : v8 = w32 (2 * ((yC h) 85 k)) := by rw [ev8, sv7]
  refine zwW_sbw (nx := 24) (by decide +kernel) ?_
  intro v9 ev9 lv9 uv9
  have Ev9 : v9 = w32 ((w32 ((w32 (20 * ((yC h) 65 (((yC h) 79 k).toNat)))) + (w32 (3 * ((yC h) 81 k))))) - (w32 (2 * ((yC h) 85 k)))) := by rw [ev9, Ev6, Ev8]
  refine zwW_p [(0, 0, 0)] (q := 25) (ls' := [(2, r)]) (st' := [(0, 0), (0, v9)]) (by decide +kernel) rfl ?_
  refine zwW_max (nx := 28) (by decide +kernel) rfl ?_
  intro v10 ev10
  have Ev10 : v10 = max (w32 ((w32 ((w32 (20 * ((yC h) 65 (((yC h) 79 k).toNat)))) + (w32 (3 * ((yC h) 81 k))))) - (w32 (2 * ((yC h) 85 k))))) 0 := by rw [ev10, Ev9]
  refine zwW_ret (nx := 29) (a := 0) (b := 0) (by decide +kernel) rfl (Or.inl rfl) ?_
  exact ⟨rfl, by omega, by unfold yStr; (repeat' (first | rw [if_pos (by omega)] | rw [if_neg (by omega)])); all_goals (first | rfl | omega)⟩
def msx185_z : Zms := [(4, 4, 0, 3), (1004, 1004, 18, 19), (1011, 1011, 3, 4)]
-- WheelLand.spinAll()I
theorem x185_z {sc : List Int} (h : Hp) (C : CI h) (J : yR h) (B0 : zBs (yC h)) (hl : h.length ≤ 999930000) : zwC sc 7 185 [(2, 1)] h (zwRt 0 (fun x g => CI g ∧ zXR msx185_z (0) (0) h g ∧ (-2147483648 ≤ x ∧ x ≤ 2147483647) ∧ (x = yToA (yC h)) ∧ (yC g = yLyA (yC h)) ∧ (yR g))) := by
  refine zwC_of (D := 6) 6 (by decide +kernel) rfl (ls := [(2, 1), (9, 0), (9, 0), (9, 0), (9, 0), (9, 0)]) rfl ?_
  have X : zXR msx185_z 0 0 h h := zXR.rf _ _
  have u0 : yC h 37 0 = fld h 1 0 := rfl
  have u1 : yC h 37 1 = fld h 2 2 := rfl
  have u2 : yC h 37 2 = fld h 3 2 := rfl
  have u64 : yC h 37 64 = fld h 4 2 := rfl
  have u78 : yC h 37 78 = fld h 5 2 := rfl
  have b33 := zLb_3 C
  have TBN := fun n hn => yTo_b B0 (yEp_4 (S := yC h)) n hn
  refine zwW_p [(1, 0, 2)] (q := 1) (ls' := [(2, 1), (9, 0), (9, 0), (9, 0), (9, 0), (9, 0)]) (st' := [(2, 1)]) (by decide +kernel) rfl ?_
  refine zwW_gs C.1 (kd := 12) (bn := 0) (n := 13) (t := 0) (lo := 0) (hi := 156) (nx := 4) (by decide +kernel) ?_
  intro v1 ev1 lv1 uv1
  have sv1 : v1 = (yC h) 37 0 := Eq.trans ev1 (Eq.trans (Eq.symm (yC_s (h := h) (i := 0) rfl)) (Eq.trans (congrFun (congrFun (rfl : yC h = yC h) 37) 0) rfl))
  refine zwW_cs (k' := 162) (n := 1) (nx := 7) (as := [(0, v1)]) (st' := []) (by decide +kernel) rfl (x162 h C v1 (by omega) (by omega)) rfl ?_
  rintro v2 _ ⟨rfl, f3, f4, f5⟩
  refine zwW_p [(2, 1, 0), (0, 0, 0), (2, 2, 0), (0, 0, 0), (2, 3, 0)] (q := 12) (ls' := [(2, 1), (0, v2), (0, 0), (0, 0), (9, 0), (9, 0)]) (st' := []) (by decide +kernel) rfl ?_
  have L6 : ∀ (n0 : Nat) (tL6 kL6 : Int) (w4L6 w5L6 : Vl) (hL6 : Hp), n0 = ((1000 - kL6)).toNat → (tL6 = yTo (yC h) (yEp (yC h)) (kL6).toNat) → (fld hL6 3 2 = fld h 3 2 ∧ fld hL6 1 0 = fld h 1 0 ∧ kL6 ≤ fld h 3 2) → (0 ≤ tL6 ∧ tL6 ≤ 76000) → (0 ≤ kL6 ∧ kL6 ≤ 20) → (yC hL6 = (yLyN (yC h) (kL6).toNat)) → (yR hL6) → CI hL6 → zXR msx185_z (0) (0) h hL6 → zwW sc (6) 185 12 [(2, 1), (0, v2), (0, tL6), (0, kL6), w4L6, w5L6] [] hL6 (zwRt 0 (fun x g => CI g ∧ zXR msx185_z (0) (0) h g ∧ (-2147483648 ≤ x ∧ x ≤ 2147483647) ∧ (x = yToA (yC h)) ∧ (yC g = yLyA (yC h)) ∧ (yR g))) := by
    intro n0
    induction n0 using Nat.strongRecOn with
    | ind n0 IHL6 =>
      intro tL6 kL6 w4L6 w5L6 hL6 hnL6 iL6_0 iL6_1 iL6_2 iL6_3 iL6_4 iL6_5 ChL6 XhL6
      refine zwW_p [(1, 3, 0), (1, 0, 2)] (q := 14) (ls' := [(2, 1), (0, v2), (0, tL6), (0, kL6), w4L6, w5L6]) (st' := [(2, 1), (0, kL6)]) (by decide +kernel) rfl ?_
      refine zwW_gc ChL6.1 (kd := 12) (bn := 3) (n := 13) (c := 3) (nx := 17) (by decide +kernel) ?_
      refine zwW_cm ChL6.1 (op := 60) (k' := 96) (n := 0) (kd := 0) (m := 3) (nx := 20) (r := 3) (tl := []) (st' := [(0, kL6)]) (by decide +kernel) rfl (by decide +kernel) rfl (x96_3 ChL6) ?_
      rintro v7 _ ⟨rfl, ev7⟩
      have bv7 := zLb_3 ChL6
      have sv7 : v7 = (yLyN (yC h) (kL6).toNat) 37 2 := Eq.trans ev7 (Eq.trans (Eq.symm (yC_s (h := hL6) (i := 2) rfl)) (Eq.trans (congrFun (congrFun iL6_4 37) 2) rfl))
      refine zwic_ge (q := 129) (nx := 23) (by decide +kernel) (fun c8 => ?_) (fun c8 => ?_)
      · refine zwW_p [(1, 2, 0)] (q := 130) (ls' := [(2, 1), (0, v2), (0, tL6), (0, kL6), w4L6, w5L6]) (st' := [(0, tL6)]) (by decide +kernel) rfl ?_
        refine zwW_ret (nx := 131) (a := 0) (b := 0) (by decide +kernel) rfl (Or.inl rfl) ?_
        exact ⟨ChL6, XhL6.le (by decide) (by decide), by omega, by unfold yToA; rw [show (yC h 37 2).toNat = (kL6).toNat by omega]; exact iL6_0, by refine Eq.trans iL6_4 ?_; unfold yLyA; rw [show (yC h 37 2).toNat = (kL6).toNat by omega], by exact iL6_5⟩
      · refine zwW_p [(1, 0, 2)] (q := 24) (ls' := [(2, 1), (0, v2), (0, tL6), (0, kL6), w4L6, w5L6]) (st' := [(2, 1)]) (by decide +kernel) rfl ?_
        refine zwW_gc ChL6.1 (kd := 12) (bn := 3) (n := 13) (c := 3) (nx := 27) (by decide +kernel) ?_
        refine zwW_p [(1, 3, 0)] (q := 28) (ls' := [(2, 1), (0, v2), (0, tL6), (0, kL6), w4L6, w5L6]) (st' := [(0, kL6), (2, 3)]) (by decide +kernel) rfl ?_
        refine zwW_cm ChL6.1 (op := 60) (k' := 123) (n := 1) (kd := 0) (m := 3) (nx := 31) (r := 3) (tl := [(0, kL6)]) (st' := []) (by decide +kernel) rfl (by decide +kernel) rfl (x123_3 ChL6 (i := kL6) ⟨by omega, by omega⟩) ?_
        rintro v9 _ ⟨rfl, Gv9, ev9⟩
        have lv9 := Gv9.1
        have pv9 : v9 = zv hL6 3 kL6.toNat ∧ ((kL6.toNat : Nat) : Int) < fld hL6 3 2 := ⟨ev9, by omega⟩
        refine zwW_cast (a := 4) (kd := 4) (n := 19) (nx := 34) (by decide +kernel) rfl (Or.inr Gv9.2.1) ?_
        refine zwW_p [(2, 4, 2)] (q := 36) (ls' := [(2, 1), (0, v2), (0, tL6), (0, kL6), (2, v9), w5L6]) (st' := []) (by decide +kernel) rfl ?_
        have EL := yLyN_e B0 (k := (kL6).toNat) (by omega)
        have BT := B0.lyn (k := (kL6).toNat) (by omega)
        have KB := BT.1 (kL6).toNat (by rw [EL.2.1]; omega)
        have KV := (BT.2.1 ((yLyN (yC h) (kL6).toNat) 79 (kL6).toNat).toNat (by omega)).1
        have P36 := pv9
        have Z36 := iL6_4
        have YT : yTo (yC h) (yEp (yC h)) ((kL6).toNat + 1) = yTo (yC h) (yEp (yC h)) (kL6).toNat + yX (yLyN (yC h) (kL6).toNat) (yEp (yLyN (yC h) (kL6).toNat)) (kL6).toNat := yTo_ly B0 (by omega)
        have T1 := TBN ((kL6).toNat + 1) (by omega)
        have T0 := TBN (kL6).toNat (by omega)
        have XB := yX_b BT (yEp_4 (S := (yLyN (yC h) (kL6).toNat))) (k := (kL6).toNat) (by rw [EL.2.1]; omega)
        refine zwW_p [(1, 4, 2), (12, 0, 0)] (q := 39) (ls' := [(2, 1), (0, v2), (0, tL6), (0, kL6), (2, v9), w5L6]) (st' := [(2, v9), (2, v9)]) (by decide +kernel) rfl ?_
        refine zwX_gi ChL6 (kd := 4) (bn := 18) (n := 19) (nx := 42) (by decide +kernel) Gv9.2.1 Gv9.1 rfl ?_
        intro v10 ev10 lv10 uv10
        have sv10 : v10 = (yLyN (yC h) (kL6).toNat) 95 kL6.toNat := Eq.trans ev10 (Eq.trans (congrArg (fun q => fld hL6 q 18) pv9.1) (Eq.trans (Eq.symm (yC_f (h := hL6) (a := 95) (A := 3) (j := 18) (i := kL6.toNat) rfl pv9.2)) (Eq.trans (congrFun (congrFun iL6_4 95) kL6.toNat) rfl)))
        refine zwW_p [(1, 4, 2), (1, 1, 0)] (q := 45) (ls' := [(2, 1), (0, v2), (0, tL6), (0, kL6), (2, v9), w5L6]) (st' := [(0, v2), (2, v9), (0, v10), (2, v9)]) (by decide +kernel) rfl ?_
        refine zwW_cv (op := 60) (k' := 230) (n := 1) (kd := 4) (m := 19) (nx := 48) (r := v9) (tl := [(0, v2)]) (st' := [(0, v10), (2, v9)]) (by decide +kernel) rfl (by decide +kernel) Gv9.2.1 (x230_z hL6 ChL6 v9 v2 Gv9 (by omega) iL6_5 kL6.toNat pv9 (by rw [iL6_4]; exact BT) (by rw [iL6_4, EL.2.2.2]; omega)) rfl ?_
        rintro v11 _ ⟨rfl, f12, f13⟩
        have sv11 : v11 = yCan (yLyN (yC h) (kL6).toNat) kL6.toNat := by rw [f13, iL6_4]
        refine zwW_adw (nx := 49) (by decide +kernel) ?_
        intro v14 ev14 lv14 uv14
        have Ev14 : v14 = w32 (((yLyN (yC h) (kL6).toNat) 95 kL6.toNat) + (yCan (yLyN (yC h) (kL6).toNat) kL6.toNat)) := by rw [ev14, sv10, sv11]
        refine zwX_pi ChL6 (kd := 4) (bn := 18) (n := 19) (nx := 52) (by decide +kernel) Gv9.2.1 Gv9.1 ⟨by omega, by omega⟩ ?_
        rintro h15 eh15 Ch15 Qh15
        have Zh15 : yC h15 = (zs (yLyN (yC h) (kL6).toNat) 95 kL6.toNat (w32 (((yLyN (yC h) (kL6).toNat) 95 kL6.toNat) + (yCan (yLyN (yC h) (kL6).toNat) kL6.toNat)))) := by rw [yC_w (a := 95) (A := 3) (j := 18) (k := kL6.toNat) ChL6 iL6_5 rfl pv9 eh15, iL6_4, Ev14]
        have Xh15 : zXR msx185_z (0) (0) h h15 := XhL6.tr (c2 := 0) (s2 := 0) Qh15 (by decide +kernel) (by decide) (by decide)
        have Gh15_0 : gH h15 v9 := Gv9.x Qh15
        have Jh15 : yR h15 := iL6_5.fr ChL6 Qh15 (by decide +kernel)
        have pv9_h15 : v9 = zv h15 3 kL6.toNat ∧ ((kL6.toNat : Nat) : Int) < fld h15 3 2 := zpv ChL6 Qh15 (A := 3) (by decide) (by decide +kernel) pv9
        have th15_1_0 : fld h15 1 0 = fld hL6 1 0 := Qh15.f (a1 := 1) (a2 := 1) (j1 := 0) (j2 := 1) (by decide +kernel) ⟨by decide, by decide⟩ ⟨by decide, by decide⟩ ⟨by decide, by decide⟩
        have th15_3_2 : fld h15 3 2 = fld hL6 3 2 := Qh15.f (a1 := 3) (a2 := 3) (j1 := 2) (j2 := 3) (by decide +kernel) ⟨by decide, by decide⟩ ⟨by decide, by decide⟩ ⟨by decide, by decide⟩
        have th15_4_2 : fld h15 4 2 = fld hL6 4 2 := Qh15.f (a1 := 4) (a2 := 4) (j1 := 2) (j2 := 3) (by decide +kernel) ⟨by decide, by decide⟩ ⟨by decide, by decide⟩ ⟨by decide, by decide⟩
        refine zwW_p [(1, 0, 2), (1, 4, 2)] (q := 55) (ls' := [(2, 1), (0, v2), (0, tL6), (0, kL6), (2, v9), w5L6]) (st' := [(2, v9), (2, 1)]) (by decide +kernel) rfl ?_
        refine zwW_cm Ch15.1 (op := 60) (k' := 170) (n := 1) (kd := 12) (m := 13) (nx := 58) (r := 1) (tl := [(2, v9)]) (st' := []) (by decide +kernel) rfl (by decide +kernel) rfl (x170_s h15 Ch15 v9 (yLyN (yC h) (kL6).toNat) (kL6).toNat Gh15_0 (zX_of Ch15 Jh15 Zh15 (by decide) BT) BT (by rw [EL.2.1]; omega) pv9_h15.1) ?_
        rintro v16 _ ⟨rfl, f17, f18, f19⟩
        have U58 : v16 = yX (yLyN (yC h) (kL6).toNat) (yEp (yLyN (yC h) (kL6).toNat)) (kL6).toNat := f19.1
        refine zwW_p [(2, 5, 0), (1, 5, 0)] (q := 62) (ls' := [(2, 1), (0, v2), (0, tL6), (0, kL6), (2, v9), (0, v16)]) (st' := [(0, v16)]) (by decide +kernel) rfl ?_
        refine zwif_le (q := 123) (nx := 65) (by decide +kernel) (fun c20 => ?_) (fun c20 => ?_)
        · refine zwW_inc (i := 3) (c := 1) (x := kL6) (nx := 126) (by decide +kernel) rfl ⟨by omega, by omega⟩ (ls' := [(2, 1), (0, v2), (0, tL6), (0, (kL6 + 1)), (2, v9), (0, v16)]) rfl ?_
          refine zwW_p [(24, 12, 0)] (q := 12) (ls' := [(2, 1), (0, v2), (0, tL6), (0, (kL6 + 1)), (2, v9), (0, v16)]) (st' := []) (by decide +kernel) rfl ?_
          exact IHL6 ((1000 - (kL6 + 1))).toNat (by omega) tL6 (kL6 + 1) (2, v9) (0, v16) h15 rfl (by rw [show (kL6 + 1).toNat = (kL6).toNat + 1 by omega, YT]; omega) (by omega) (by omega) (by omega) (by rw [show (kL6 + 1).toNat = (kL6).toNat + 1 by omega, yLyN_s]; first | exact Zh15.trans K117 | (unfold yLy1; rw [if_neg (by omega)]; exact Zh15)) (Jh15) Ch15 (Xh15.le (by decide) (by decide))
        · refine zwW_p [(1, 4, 2)] (q := 67) (ls' := [(2, 1), (0, v2), (0, tL6), (0, kL6), (2, v9), (0, v16)]) (st' := [(2, v9)]) (by decide +kernel) rfl ?_
          refine zwW_get (kd := 4) (bn := 1) (t := 2) (n := 19) (nx := 70) (by decide +kernel) Gh15_0.2.1 rfl ?_
          obtain ⟨v21, ev21⟩ : ∃ z, z = fld h15 v9 1 := ⟨_, rfl⟩
          rw [← ev21]
          have Gv21 : gV h15 v21 := by rw [ev21]; exact Gh15_0.2.2
          have lv21 := Gv21.1
          have qv21 : yC h15 79 kL6.toNat = (yLyN (yC h) (kL6).toNat) 79 kL6.toNat := Eq.trans (congrFun (congrFun Zh15 79) kL6.toNat) (Eq.trans (zs_na (by decide) : (zs (yLyN (yC h) (kL6).toNat) 95 kL6.toNat (w32 (((yLyN (yC h) (kL6).toNat) 95 kL6.toNat) + (yCan (yLyN (yC h) (kL6).toNat) kL6.toNat)))) 79 kL6.toNat = (yLyN (yC h) (kL6).toNat) 79 kL6.toNat) rfl)
          have wv21 := Jh15.r (a := 79) (A := 3) (j := 1) (B := 2) (i := kL6.toNat) rfl pv9_h15.2
          rw [qv21] at wv21
          have pv21 : v21 = zv h15 2 (((yLyN (yC h) (kL6).toNat) 79 kL6.toNat).toNat) ∧ ((((yLyN (yC h) (kL6).toNat) 79 kL6.toNat).toNat : Nat) : Int) < fld h15 2 2 := ⟨by rw [ev21, pv9_h15.1]; exact wv21.2.2, wv21.2.1⟩
          refine zwW_p [(12, 0, 0)] (q := 71) (ls' := [(2, 1), (0, v2), (0, tL6), (0, kL6), (2, v9), (0, v16)]) (st' := [(2, v21), (2, v21)]) (by decide +kernel) rfl ?_
          refine zwX_gi Ch15 (kd := 11) (bn := 3) (n := 17) (nx := 74) (by decide +kernel) Gv21.2.1 Gv21.1 rfl ?_
          intro v22 ev22 lv22 uv22
          have sv22 : v22 = (yLyN (yC h) (kL6).toNat) 66 (((yLyN (yC h) (kL6).toNat) 79 kL6.toNat).toNat) := Eq.trans ev22 (Eq.trans (congrArg (fun q => fld h15 q 3) pv21.1) (Eq.trans (Eq.symm (yC_f (h := h15) (a := 66) (A := 2) (j := 3) (i := ((yLyN (yC h) (kL6).toNat) 79 kL6.toNat).toNat) rfl pv21.2)) (Eq.trans (congrFun (congrFun Zh15 66) (((yLyN (yC h) (kL6).toNat) 79 kL6.toNat).toNat)) (Eq.trans (zs_na (by decide) : (zs (yLyN (yC h) (kL6).toNat) 95 kL6.toNat (w32 (((yLyN (yC h) (kL6).toNat) 95 kL6.toNat) + (yCan (yLyN (yC h) (kL6).toNat) kL6.toNat)))) 66 (((yLyN (yC h) (kL6).toNat) 79 kL6.toNat).toNat) = (yLyN (yC h) (kL6).toNat) 66 (((yLyN (yC h) (kL6).toNat) 79 kL6.toNat).toNat)) rfl))))
          refine zwW_p [(1, 5, 0), (1, 4, 2)] (q := 78) (ls' := [(2, 1), (0, v2), (0, tL6), (0, kL6), (2, v9), (0, v16)]) (st' := [(2, v9), (0, v16), (0, v22), (2, v21)]) (by decide +kernel) rfl ?_
          refine zwX_gi Ch15 (kd := 4) (bn := 7) (n := 19) (nx := 81) (by decide +kernel) Gh15_0.2.1 Gh15_0.1 rfl ?_
          intro v23 ev23 lv23 uv23
          have sv23 : v23 = (yLyN (yC h) (kL6).toNat) 85 kL6.toNat := Eq.trans ev23 (Eq.trans (congrArg (fun q => fld h15 q 7) pv9_h15.1) (Eq.trans (Eq.symm (yC_f (h := h15) (a := 85) (A := 3) (j := 7) (i := kL6.toNat) rfl pv9_h15.2)) (Eq.trans (congrFun (congrFun Zh15 85) kL6.toNat) (Eq.trans (zs_na (by decide) : (zs (yLyN (yC h) (kL6).toNat) 95 kL6.toNat (w32 (((yLyN (yC h) (kL6).toNat) 95 kL6.toNat) + (yCan (yLyN (yC h) (kL6).toNat) kL6.toNat)))) 85 kL6.toNat = (yLyN (yC h) (kL6).toNat) 85 kL6.toNat) rfl))))
          refine zwW_cs (k' := 151) (n := 2) (nx := 84) (as := [(0, v16), (0, v23)]) (st' := [(0, v22), (2, v21)]) (by decide +kernel) rfl (x151_s h15 Ch15 v16 v23 (by omega) (by omega) ⟨by omega, by omega⟩ ⟨by omega, by omega⟩) rfl ?_
          rintro v24 _ ⟨rfl, f25, f26⟩
          refine zwW_sub (nx := 85) (by decide +kernel) ⟨by omega, by omega⟩ ?_
          have V85 : (yLyN (yC h) (kL6).toNat) 66 ((yLyN (yC h) (kL6).toNat) 79 (kL6).toNat).toNat - v24 = (yLyN (yC h) (kL6).toNat) 66 ((yLyN (yC h) (kL6).toNat) 79 (kL6).toNat).toNat - (yX (yLyN (yC h) (kL6).toNat) (yEp (yLyN (yC h) (kL6).toNat)) (kL6).toNat + (yLyN (yC h) (kL6).toNat) 85 (kL6).toNat - 1) / (yLyN (yC h) (kL6).toNat) 85 (kL6).toNat := by
            obtain ⟨f1, -, -⟩ := f26
            rw [← U58, f1, sv23]
          refine zwX_pi Ch15 (kd := 11) (bn := 3) (n := 17) (nx := 88) (by decide +kernel) Gv21.2.1 Gv21.1 ⟨by omega, by omega⟩ ?_
          rintro h27 eh27 Ch27 Qh27
          have Uh27 : yC h27 = (zs (zs (yLyN (yC h) (kL6).toNat) 95 kL6.toNat (w32 (((yLyN (yC h) (kL6).toNat) 95 kL6.toNat) + (yCan (yLyN (yC h) (kL6).toNat) kL6.toNat)))) 66 (((yLyN (yC h) (kL6).toNat) 79 kL6.toNat).toNat) (((yLyN (yC h) (kL6).toNat) 66 (((yLyN (yC h) (kL6).toNat) 79 kL6.toNat).toNat)) - v24)) := by rw [yC_w (a := 66) (A := 2) (j := 3) (k := ((yLyN (yC h) (kL6).toNat) 79 kL6.toNat).toNat) Ch15 Jh15 rfl pv21 eh27, Zh15, sv22]
          have Zh27 : yC h27 = (zs (zs (yLyN (yC h) (kL6).toNat) 66 (((yLyN (yC h) (kL6).toNat) 79 kL6.toNat).toNat) (((yLyN (yC h) (kL6).toNat) 66 (((yLyN (yC h) (kL6).toNat) 79 kL6.toNat).toNat)) - v24)) 95 kL6.toNat (w32 (((yLyN (yC h) (kL6).toNat) 95 kL6.toNat) + (yCan (yLyN (yC h) (kL6).toNat) kL6.toNat)))) := by rw [Uh27, zs_sw (a := 95) (b := 66) (by decide)]
          have Xh27 : zXR msx185_z (0) (0) h h27 := Xh15.tr (c2 := 0) (s2 := 0) Qh27 (by decide +kernel) (by decide) (by decide)
          have Gh27_0 : gH h27 v9 := Gh15_0.x Qh27
          have Jh27 : yR h27 := Jh15.fr Ch15 Qh27 (by decide +kernel)
          have pv9_h27 : v9 = zv h27 3 kL6.toNat ∧ ((kL6.toNat : Nat) : Int) < fld h27 3 2 := zpv Ch15 Qh27 (A := 3) (by decide) (by decide +kernel) pv9_h15
          have th27_1_0 : fld h27 1 0 = fld h15 1 0 := Qh27.f (a1 := 1) (a2 := 1) (j1 := 0) (j2 := 1) (by decide +kernel) ⟨by decide, by decide⟩ ⟨by decide, by decide⟩ ⟨by decide, by decide⟩
          have th27_3_2 : fld h27 3 2 = fld h15 3 2 := Qh27.f (a1 := 3) (a2 := 3) (j1 := 2) (j2 := 3) (by decide +kernel) ⟨by decide, by decide⟩ ⟨by decide, by decide⟩ ⟨by decide, by decide⟩
          have th27_4_2 : fld h27 4 2 = fld h15 4 2 := Qh27.f (a1 := 4) (a2 := 4) (j1 := 2) (j2 := 3) (by decide +kernel) ⟨by decide, by decide⟩ ⟨by decide, by decide⟩ ⟨by decide, by decide⟩
          refine zwW_p [(1, 0, 2)] (q := 89) (ls' := [(2, 1), (0, v2), (0, tL6), (0, kL6), (2, v9), (0, v16)]) (st' := [(2, 1)]) (by decide +kernel) rfl ?_
          refine zwW_gc Ch27.1 (kd := 12) (bn := 4) (n := 13) (c := 4) (nx := 92) (by decide +kernel) ?_
          have Q85 : fld h27 v9 7 = (yLyN (yC h) (kL6).toNat) 85 (kL6).toNat := (congrArg (fun q => fld h27 q 7) pv9_h27.1).trans ((Eq.symm (yC_f (h := h27) (a := 85) (A := 3) (j := 7) (i := (kL6).toNat) rfl pv9_h27.2)).trans ((congrFun (congrFun Zh27 85) (kL6).toNat).trans ((zs_na (by decide)).trans (zs_na (by decide)))))
          have QS : yStr (yC h27) (kL6).toNat = yStr (yLyN (yC h) (kL6).toNat) (kL6).toNat := by
            rw [Zh27]
            unfold yStr
            simp (disch := decide) only [zs_na]
          refine zwW_new (kd := 6) (n := 7) (nx := 95) (by decide +kernel) rfl rfl ?_
          rintro h28 r29 eh28 er29
          have Oh28 : zOld h27 h28 := by rw [eh28]; exact zOld.app _
          have Yh28 : zDy h28 := by rw [eh28]; exact Ch27.2.1.app (fun x hx => by rw [List.eq_of_mem_replicate hx]; decide)
          have Ch28 : CI h28 := Ch27.old Oh28 Yh28
          have Xh28 := Oh28.X Ch27
          have th28_1_0 : fld h28 1 0 = fld h27 1 0 := Xh28.f (a1 := 1) (a2 := 1) (j1 := 0) (j2 := 1) (by decide +kernel) ⟨by decide, by decide⟩ ⟨by decide, by decide⟩ ⟨by decide, by decide⟩
          have th28_3_2 : fld h28 3 2 = fld h27 3 2 := Xh28.f (a1 := 3) (a2 := 3) (j1 := 2) (j2 := 3) (by decide +kernel) ⟨by decide, by decide⟩ ⟨by decide, by decide⟩ ⟨by decide, by decide⟩
          have th28_4_2 : fld h28 4 2 = fld h27 4 2 := Xh28.f (a1 := 4) (a2 := 4) (j1 := 2) (j2 := 3) (by decide +kernel) ⟨by decide, by decide⟩ ⟨by decide, by decide⟩ ⟨by decide, by decide⟩
          have Gh28_0 : gH h28 v9 := Gh27_0.x Xh28
          have Zh28 : yC h28 = (zs (zs (yLyN (yC h) (kL6).toNat) 66 (((yLyN (yC h) (kL6).toNat) 79 kL6.toNat).toNat) (((yLyN (yC h) (kL6).toNat) 66 (((yLyN (yC h) (kL6).toNat) 79 kL6.toNat).toNat)) - v24)) 95 kL6.toNat (w32 (((yLyN (yC h) (kL6).toNat) 95 kL6.toNat) + (yCan (yLyN (yC h) (kL6).toNat) kL6.toNat)))) := (yC_fr Ch27 Xh28 (by decide +kernel) (Ch27.1.b (a1 := 37) (a2 := 37) (j1 := 86) (j2 := 87) (lo := 0) (hi := 6) (by decide +kernel) (r := 37) (j := 86) (by decide) (by decide) (by decide) (by decide)).2).trans Zh27
          refine zwW_p [(12, 0, 0), (1, 0, 2)] (q := 97) (ls' := [(2, 1), (0, v2), (0, tL6), (0, kL6), (2, v9), (0, v16)]) (st' := [(2, 1), (2, r29), (2, r29), (2, 4)]) (by decide +kernel) rfl ?_
          refine zwW_gc Ch28.1 (kd := 12) (bn := 4) (n := 13) (c := 4) (nx := 100) (by decide +kernel) ?_
          refine zwW_cm Ch28.1 (op := 60) (k' := 96) (n := 0) (kd := 0) (m := 3) (nx := 103) (r := 4) (tl := []) (st' := [(2, r29), (2, r29), (2, 4)]) (by decide +kernel) rfl (by decide +kernel) rfl (x96_4 Ch28) ?_
          rintro v30 _ ⟨rfl, ev30⟩
          have bv30 := zLb_4 Ch28
          have sv30 : v30 = (yLyN (yC h) (kL6).toNat) 37 64 := Eq.trans ev30 (Eq.trans (Eq.symm (yC_s (h := h28) (i := 64) rfl)) (Eq.trans (congrFun (congrFun Zh28 37) 64) (Eq.trans (zs_na (by decide) : (zs (zs (yLyN (yC h) (kL6).toNat) 66 (((yLyN (yC h) (kL6).toNat) 79 kL6.toNat).toNat) (((yLyN (yC h) (kL6).toNat) 66 (((yLyN (yC h) (kL6).toNat) 79 kL6.toNat).toNat)) - v24)) 95 kL6.toNat (w32 (((yLyN (yC h) (kL6).toNat) 95 kL6.toNat) + (yCan (yLyN (yC h) (kL6).toNat) kL6.toNat)))) 37 64 = (zs (yLyN (yC h) (kL6).toNat) 66 (((yLyN (yC h) (kL6).toNat) 79 kL6.toNat).toNat) (((yLyN (yC h) (kL6).toNat) 66 (((yLyN (yC h) (kL6).toNat) 79 kL6.toNat).toNat)) - v24)) 37 64) (Eq.trans (zs_na (by decide) : (zs (yLyN (yC h) (kL6).toNat) 66 (((yLyN (yC h) (kL6).toNat) 79 kL6.toNat).toNat) (((yLyN (yC h) (kL6).toNat) 66 (((yLyN (yC h) (kL6).toNat) 79 kL6.toNat).toNat)) - v24)) 37 64 = (yLyN (yC h) (kL6).toNat) 37 64) rfl))))
          refine zwW_p [(1, 4, 2), (1, 0, 2)] (q := 106) (ls' := [(2, 1), (0, v2), (0, tL6), (0, kL6), (2, v9), (0, v16)]) (st' := [(2, 1), (2, v9), (0, v30), (2, r29), (2, r29), (2, 4)]) (by decide +kernel) rfl ?_
          refine zwW_gs Ch28.1 (kd := 12) (bn := 0) (n := 13) (t := 0) (lo := 0) (hi := 156) (nx := 109) (by decide +kernel) ?_
          intro v31 ev31 lv31 uv31
          have sv31 : v31 = (yLyN (yC h) (kL6).toNat) 37 0 := Eq.trans ev31 (Eq.trans (Eq.symm (yC_s (h := h28) (i := 0) rfl)) (Eq.trans (congrFun (congrFun Zh28 37) 0) (Eq.trans (zs_na (by decide) : (zs (zs (yLyN (yC h) (kL6).toNat) 66 (((yLyN (yC h) (kL6).toNat) 79 kL6.toNat).toNat) (((yLyN (yC h) (kL6).toNat) 66 (((yLyN (yC h) (kL6).toNat) 79 kL6.toNat).toNat)) - v24)) 95 kL6.toNat (w32 (((yLyN (yC h) (kL6).toNat) 95 kL6.toNat) + (yCan (yLyN (yC h) (kL6).toNat) kL6.toNat)))) 37 0 = (zs (yLyN (yC h) (kL6).toNat) 66 (((yLyN (yC h) (kL6).toNat) 79 kL6.toNat).toNat) (((yLyN (yC h) (kL6).toNat) 66 (((yLyN (yC h) (kL6).toNat) 79 kL6.toNat).toNat)) - v24)) 37 0) (Eq.trans (zs_na (by decide) : (zs (yLyN (yC h) (kL6).toNat) 66 (((yLyN (yC h) (kL6).toNat) 79 kL6.toNat).toNat) (((yLyN (yC h) (kL6).toNat) 66 (((yLyN (yC h) (kL6).toNat) 79 kL6.toNat).toNat)) - v24)) 37 0 = (yLyN (yC h) (kL6).toNat) 37 0) rfl))))
          refine zwW_p [(1, 5, 0)] (q := 111) (ls' := [(2, 1), (0, v2), (0, tL6), (0, kL6), (2, v9), (0, v16)]) (st' := [(0, v16), (0, v31), (2, v9), (0, v30), (2, r29), (2, r29), (2, 4)]) (by decide +kernel) rfl ?_
          subst er29 eh28
          refine zwW_cvv (op := 62) (k' := 231) (n := 4) (kd := 6) (m := 7) (nx := 114) (r := ((h27.length + 1 : Nat) : Int)) (tl := [(0, v30), (2, v9), (0, v31), (0, v16)]) (st' := [(2, ((h27.length + 1 : Nat) : Int)), (2, 4)]) (by decide +kernel) rfl (by decide +kernel) (sh_new _ _) (x231_z h27 Ch27 v30 v9 v31 v16 (by omega) (by omega) (by omega) Gh27_0 (fun g O Cg => zwC_to (x169_z g Cg v9 (Gh27_0.x (O.X Ch27)) (Jh27.fr Ch27 (O.X Ch27) (by decide +kernel)) (kL6).toNat (zpv Ch27 (O.X Ch27) (A := 3) (by decide) (by decide +kernel) pv9_h27)) (fun rr gg w => by obtain ⟨x, e, w1, w2, w3⟩ := w; exact ⟨x, e, w1, w3.trans (by rw [yC_fr Ch27 (O.X Ch27) (by decide +kernel) (Ch27.1.b (a1 := 37) (a2 := 37) (j1 := 86) (j2 := 87) (lo := 0) (hi := 6) (by decide +kernel) (r := 37) (j := 86) (by decide) (by decide) (by decide) (by decide)).2])⟩)) yStr_in (st := yStr (yC h27) (kL6).toNat)) rfl ?_
          rintro h32 ⟨Ch32, Qh32, Nh32, Fh32_0⟩
          obtain ⟨nr29, err29⟩ : ∃ z, z = ((h27.length + 1 : Nat) : Int) := ⟨_, rfl⟩
          rw [← err29] at Nh32 ⊢
          try rw [← err29] at Fh32_0
          have Xh32 : zXR msx185_z (1) (7) h h32 := Xh27.tr (c2 := 1) (s2 := 7) Qh32 (by decide +kernel) (by decide) (by decide)
          have Gh32_0 : gH h32 v9 := Gh27_0.x Qh32
          have Zh32 : yC h32 = (zs (zs (yLyN (yC h) (kL6).toNat) 66 (((yLyN (yC h) (kL6).toNat) 79 kL6.toNat).toNat) (((yLyN (yC h) (kL6).toNat) 66 (((yLyN (yC h) (kL6).toNat) 79 kL6.toNat).toNat)) - v24)) 95 kL6.toNat (w32 (((yLyN (yC h) (kL6).toNat) 95 kL6.toNat) + (yCan (yLyN (yC h) (kL6).toNat) kL6.toNat)))) := (yC_fr Ch27 Qh32 (by decide +kernel) (Ch27.1.b (a1 := 37) (a2 := 37) (j1 := 86) (j2 := 87) (lo := 0) (hi := 6) (by decide +kernel) (r := 37) (j := 86) (by decide) (by decide) (by decide) (by decide)).2).trans Zh27
          have Jh32 : yR h32 := Jh27.fr Ch27 Qh32 (by decide +kernel)
          have pv9_h32 : v9 = zv h32 3 kL6.toNat ∧ ((kL6.toNat : Nat) : Int) < fld h32 3 2 := zpv Ch27 Qh32 (A := 3) (by decide) (by decide +kernel) pv9_h27
          have th32_1_0 : fld h32 1 0 = fld h27 1 0 := Qh32.f (a1 := 1) (a2 := 1) (j1 := 0) (j2 := 1) (by decide +kernel) ⟨by decide, by decide⟩ ⟨by decide, by decide⟩ ⟨by decide, by decide⟩
          have th32_3_2 : fld h32 3 2 = fld h27 3 2 := Qh32.f (a1 := 3) (a2 := 3) (j1 := 2) (j2 := 3) (by decide +kernel) ⟨by decide, by decide⟩ ⟨by decide, by decide⟩ ⟨by decide, by decide⟩
          have th32_4_2 : fld h32 4 2 = fld h27 4 2 := Qh32.f (a1 := 4) (a2 := 4) (j1 := 2) (j2 := 3) (by decide +kernel) ⟨by decide, by decide⟩ ⟨by decide, by decide⟩ ⟨by decide, by decide⟩
          have lnr29 := Nh32.1
          refine zwW_cm Ch32.1 (op := 60) (k' := 100) (n := 1) (kd := 0) (m := 3) (nx := 117) (r := 4) (tl := [(2, nr29)]) (st' := []) (by decide +kernel) rfl (by decide +kernel) rfl (x100_4 Ch32 Nh32 (by omega) (by have := Xh32.hl C Ch32 (by decide) hl; omega)) ?_
          rintro x h34 ⟨rfl, Ah34⟩
          have Ch34 := Ah34.1
          have Qh34 : zXR [(4, 4, 0, 3)] (-1) (-7) h32 h34 := Ah34.2.1
          have zh34 : fld h34 4 2 = fld h32 4 2 + 1 := Ah34.2.2.1
          have YLh34 := yC_lot2 Ch32 Jh32 Ah34 Nh32 Fh32_0 (n := (v30).toNat) (k := (kL6).toNat) (by omega) (by omega) pv9_h32.1 pv9_h32.2
          have JLh34 := yR_lot Ch32 Jh32 Ah34 Nh32 Fh32_0 (n := (v30).toNat) (k := (kL6).toNat) (by omega) (by omega) pv9_h32.1 pv9_h32.2
          have Zh34 : yC h34 = (zs (zs (zs (zs (zs (zs (zs (zs (zs (yLyN (yC h) (kL6).toNat) 66 (((yLyN (yC h) (kL6).toNat) 79 kL6.toNat).toNat) (((yLyN (yC h) (kL6).toNat) 66 (((yLyN (yC h) (kL6).toNat) 79 kL6.toNat).toNat)) - v24)) 95 kL6.toNat (w32 (((yLyN (yC h) (kL6).toNat) 95 kL6.toNat) + (yCan (yLyN (yC h) (kL6).toNat) kL6.toNat)))) 170 ((v30).toNat) (((kL6).toNat : Nat) : Int)) 171 ((v30).toNat) v31) 172 ((v30).toNat) (fld h27 v9 7)) 173 ((v30).toNat) (yStr (yC h27) (kL6).toNat)) 174 ((v30).toNat) v16) 175 ((v30).toNat) v16) 37 64 ((((v30).toNat : Nat) : Int) + 1)) := by rw [YLh34, Zh32]
          have Xh34 : zXR msx185_z (0) (0) h h34 := Xh32.tr (c2 := 0) (s2 := 0) Qh34 (by decide +kernel) (by decide) (by decide)
          have Gh34_0 : gH h34 v9 := Gh32_0.x Qh34
          have pv9_h34 : v9 = zv h34 3 kL6.toNat ∧ ((kL6.toNat : Nat) : Int) < fld h34 3 2 := zpv Ch32 Qh34 (A := 3) (by decide) (by decide +kernel) pv9_h32
          have th34_1_0 : fld h34 1 0 = fld h32 1 0 := Qh34.f (a1 := 1) (a2 := 1) (j1 := 0) (j2 := 1) (by decide +kernel) ⟨by decide, by decide⟩ ⟨by decide, by decide⟩ ⟨by decide, by decide⟩
          have th34_3_2 : fld h34 3 2 = fld h32 3 2 := Qh34.f (a1 := 3) (a2 := 3) (j1 := 2) (j2 := 3) (by decide +kernel) ⟨by decide, by decide⟩ ⟨by decide, by decide⟩ ⟨by decide, by decide⟩
          have q64 : (v30).toNat = ((yLyN (yC h) (kL6).toNat) 37 64).toNat := by rw [sv30]
          have K117 : (zs (zs (zs (zs (zs (zs (zs (zs (zs (yLyN (yC h) (kL6).toNat) 66 (((yLyN (yC h) (kL6).toNat) 79 kL6.toNat).toNat) (((yLyN (yC h) (kL6).toNat) 66 (((yLyN (yC h) (kL6).toNat) 79 kL6.toNat).toNat)) - v24)) 95 kL6.toNat (w32 (((yLyN (yC h) (kL6).toNat) 95 kL6.toNat) + (yCan (yLyN (yC h) (kL6).toNat) kL6.toNat)))) 170 ((v30).toNat) (((kL6).toNat : Nat) : Int)) 171 ((v30).toNat) v31) 172 ((v30).toNat) (fld h27 v9 7)) 173 ((v30).toNat) (yStr (yC h27) (kL6).toNat)) 174 ((v30).toNat) v16) 175 ((v30).toNat) v16) 37 64 ((((v30).toNat : Nat) : Int) + 1)) = yLy1 (yLyN (yC h) (kL6).toNat) (kL6).toNat := by
            unfold yLy1
            rw [if_pos (by omega)]
            exact zs_cg (zs_cg (zs_cg (zs_cg (zs_cg (zs_cg (zs_cg (zs_cg (zs_cg rfl rfl V85) rfl rfl) q64 (by omega)) q64 sv31) q64 Q85) q64 QS) q64 U58) q64 U58) rfl (by omega)
          refine zwW_p [(15, 0, 0), (1, 2, 0), (1, 5, 0)] (q := 121) (ls' := [(2, 1), (0, v2), (0, tL6), (0, kL6), (2, v9), (0, v16)]) (st' := [(0, v16), (0, tL6)]) (by decide +kernel) rfl ?_
          refine zwW_add (nx := 122) (by decide +kernel) ⟨by omega, by omega⟩ ?_
          refine zwW_p [(2, 2, 0)] (q := 123) (ls' := [(2, 1), (0, v2), (0, (tL6 + v16)), (0, kL6), (2, v9), (0, v16)]) (st' := []) (by decide +kernel) rfl ?_
          refine zwW_inc (i := 3) (c := 1) (x := kL6) (nx := 126) (by decide +kernel) rfl ⟨by omega, by omega⟩ (ls' := [(2, 1), (0, v2), (0, (tL6 + v16)), (0, (kL6 + 1)), (2, v9), (0, v16)]) rfl ?_
          refine zwW_p [(24, 12, 0)] (q := 12) (ls' := [(2, 1), (0, v2), (0, (tL6 + v16)), (0, (kL6 + 1)), (2, v9), (0, v16)]) (st' := []) (by decide +kernel) rfl ?_
          exact IHL6 ((1000 - (kL6 + 1))).toNat (by omega) (tL6 + v16) (kL6 + 1) (2, v9) (0, v16) h34 rfl (by rw [show (kL6 + 1).toNat = (kL6).toNat + 1 by omega, YT]; omega) (by omega) (by omega) (by omega) (by rw [show (kL6 + 1).toNat = (kL6).toNat + 1 by omega, yLyN_s]; first | exact Zh34.trans K117 | (unfold yLy1; rw [if_neg (by omega)]; exact Zh34)) (JLh34) Ch34 (Xh34.le (by decide) (by decide))
  exact L6 _ 0 0 (9, 0) (9, 0) h rfl (rfl) (by omega) (by omega) (by omega) (rfl) (J) C (X.le (by decide) (by decide))
