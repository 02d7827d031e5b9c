/-! joined: 93.w_wv 93.x_xw -/
section
/-! weaving and bringing, pure -/
section YWV
variable {h g : Hp} {S T : zT} {a i j k l n v : Nat} {b c d x y : Int} {q : qT} {N : Nat → Int}
theorem tm2 {x : Int} : x.tmod 2 = 0 ↔ x % 2 = 0 := ⟨fun e => Int.emod_eq_zero_of_dvd (Int.dvd_of_tmod_eq_zero e), fun e => Int.tmod_eq_zero_of_dvd (Int.dvd_of_emod_eq_zero e)⟩
theorem zu_sw (e : i ≠ j) : zu (zu N i x) j y = zu (zu N j y) i x := by
  funext p
  by_cases h1 : p = j
  · subst h1
    rw [zu_eq, zu_ne (fun z => e z.symm), zu_eq]
  · rw [zu_ne h1]
    by_cases h2 : p = i
    · subst h2
      rw [zu_eq, zu_eq]
    · rw [zu_ne h2, zu_ne h2, zu_ne h1]
theorem wn_sw : zu (zu (zu (zu (zu N 6 b) 7 c) 8 d) 9 x) 11 y = zu (zu (zu (zu (zu N 6 b) 11 y) 7 c) 8 d) 9 x := by
  rw [zu_sw (i := 9) (j := 11) (by decide), zu_sw (i := 8) (j := 11) (by decide), zu_sw (i := 7) (j := 11) (by decide)]
/-- the least days, from a village to another -/
def yFarq (S : zT) (u v : Nat) : Int := if S 8 (8 * u + v) < 1000000 then S 8 (8 * u + v) else -1
def yF8 (S : zT) : Prop := ∀ u v : Nat, u < 8 → v < 8 → 0 ≤ S 8 (8 * u + v)
theorem yFarq_b (F : yF8 S) (hk : k < 8) (hl : l < 8) : -1 ≤ yFarq S k l ∧ yFarq S k l ≤ 999999 := by
  have w := F k l hk hl
  unfold yFarq
  split <;> omega
theorem yM_8 (hi : i < 64) : yM h 8 i = fld h 8 i := yM_p (a := 8) (n := 64) rfl hi
theorem yFq_m (hk : k < 8) (hl : l < 8) : zDa h k l = yFarq (yM h) k l := by
  unfold zDa yFarq zLe
  rw [yM_8 (by omega)]
theorem yFq_c (hk : k < 8) (hl : l < 8) : zDa h k l = yFarq (yC h) k l := by
  have e : yC h 8 (8 * k + l) = yM h 8 (8 * k + l) := yC_8 rfl
  unfold zDa yFarq zLe
  rw [e, yM_8 (by omega)]
/-- names told for so many hanks of a lot, woven by a house -/
def yWN (S : zT) (k l : Nat) (n : Int) : Nat → Int := zu (zu (zu (zu (zu (yNmH S (S 170 l).toNat (yNm0 (S 37 0))) 6 (S 82 k)) 11 (yFarq S (S 79 (S 170 l).toNat).toNat (S 79 k).toNat)) 7 (S 172 l)) 8 (S 173 l)) 9 n
def yWask (q : qT) (S : zT) (c : Int) (k l : Nat) (n : Int) : Int := q c (S 37 0) (yWN S k l n)
theorem yOK.lo (K : yOK S) (hl : (l : Int) < S 37 64) : (0 ≤ S 172 l ∧ S 172 l ≤ 60) ∧ (0 ≤ S 173 l ∧ S 173 l ≤ 300) ∧ (0 ≤ S 170 l ∧ S 170 l < S 37 2) := K.2.2.2 l hl
theorem eNs_zn (H : eNs N) (hx : eNum x) : eNs (zu N i x) := fun j hj => by
  by_cases z : j = i
  · rw [z, zu_eq]
    exact hx
  · rw [zu_ne z]
    exact H j hj
theorem eNs_wn (K : yOK S) (F : yF8 S) (hk : (k : Int) < S 37 2) (hl : (l : Int) < S 37 64) (hn : -1000 ≤ x ∧ x ≤ 1000) : eNs (yWN S k l x) := by
  have s := K.s
  have w := K.lo hl
  have u := K.ho hk
  have t := K.ho (k := (S 170 l).toNat) (by omega)
  have f := yFarq_b F (k := (S 79 (S 170 l).toNat).toNat) (l := (S 79 k).toNat) (by omega) (by omega)
  refine eNs_zu (eNs_zu (eNs_zu (eNs_zn (eNs_zu (eNs_nmh K (eNs_nm0 K) (by omega)) (by omega)) ?_) (by omega)) (by omega)) hn
  unfold eNum
  omega
/-- the bar -/
def yLbar (q : qT) (S : zT) (k l : Nat) (n : Int) : Int := if S 91 k ≤ 0 then 1 else if S 172 l < S 89 k ∨ S 90 k < S 172 l then 2 else if S 173 l < S 172 l + 30 then 3 else if yFarq S (S 79 (S 170 l).toNat).toNat (S 79 k).toNat = -1 then 4 else if q 3 (S 37 0) (yWN S k l n) = 0 then 5 else 0
def yBarF (q : qT) (S : zT) (k l : Nat) (n : Int) : Int := if yLbar q S k l n ≠ 0 then yLbar q S k l n else if S 175 l < n then 6 else if w32 (S 91 k - S 92 k) < n then 7 else 0
def yBarA (q : qT) (S : zT) (a b c : Int) : Int := if (0 ≤ a ∧ a < S 37 2) ∧ (0 ≤ b ∧ b < S 37 64) ∧ (c % 2 = 0 ∧ 2 ≤ c ∧ c ≤ 100) then yBarF q S a.toNat b.toNat c else -1
/-- weaving -/
def yWvS (q : qT) (S : zT) (k l : Nat) (n : Int) : zT := zs (zs (zs (zs (zs (zs (zs (zs (zs (zs (zs (zs S 84 (S 170 l).toNat (w32 (S 84 (S 170 l).toNat - max (yWask q S 1 k l n) 0))) 84 k (w32 (zs S 84 (S 170 l).toNat (w32 (S 84 (S 170 l).toNat - max (yWask q S 1 k l n) 0)) 84 k + max (yWask q S 1 k l n) 0))) 92 k (w32 (S 92 k + n))) 175 l (w32 (S 175 l - n))) 180 (S 37 78).toNat l) 181 (S 37 78).toNat k) 182 (S 37 78).toNat (S 37 0)) 183 (S 37 78).toNat (n / 2)) 184 (S 37 78).toNat (-1)) 185 (S 37 78).toNat (if yWask q S 4 k l n = 0 then 0 else 1)) 37 70 (w32 (S 37 70 + n))) 37 78 (S 37 78 + 1)
def yWvA (q : qT) (S : zT) (a b c : Int) : Int := if ((0 ≤ a ∧ a < S 37 2) ∧ (0 ≤ b ∧ b < S 37 64) ∧ (c % 2 = 0 ∧ 2 ≤ c ∧ c ≤ 100)) ∧ S 37 78 < 200 ∧ S 37 0 < 156 ∧ yBarF q S a.toNat b.toNat c = 0 then S 37 78 else -1
def yWvF (q : qT) (S : zT) (a b c : Int) : zT := if ((0 ≤ a ∧ a < S 37 2) ∧ (0 ≤ b ∧ b < S 37 64) ∧ (c % 2 = 0 ∧ 2 ≤ c ∧ c ≤ 100)) ∧ S 37 78 < 200 ∧ S 37 0 < 156 ∧ yBarF q S a.toNat b.toNat c = 0 then yWvS q S a.toNat b.toNat c else S
/-- bringing: there is room for all -/
def yRm (S : zT) : Prop := ∀ u v : Nat, (u : Int) < S 37 78 → (v : Int) < S 37 1 → S 184 u = -1 → (0 ≤ S 67 v ∧ 0 ≤ S 68 v ∧ 0 ≤ S 183 u) ∧ S 67 v + S 68 v + S 183 u ≤ 9999
def yPut (S : zT) (k : Nat) (a b : Int) : zT := if b = 0 then zs S 68 k (w32 (S 68 k + a)) else zs (zs S 67 k (w32 (S 67 k + a))) 75 k (w32 (S 75 k + a))
def yBrS (S : zT) (u v : Nat) : zT := if S 185 u = 0 then zs (zs S 68 v (w32 (S 68 v + S 183 u))) 184 u v else zs (zs (zs S 67 v (w32 (S 67 v + S 183 u))) 75 v (w32 (S 75 v + S 183 u))) 184 u v
def yBrA (S : zT) (a b : Int) : Int := if (0 ≤ a ∧ a < S 37 78) ∧ (0 ≤ b ∧ b < S 37 1) ∧ S 184 a.toNat = -1 ∧ yFarq S (S 79 (S 181 a.toNat).toNat).toNat b.toNat ≠ -1 then w32 (yBrS S a.toNat b.toNat 67 b.toNat + yBrS S a.toNat b.toNat 68 b.toNat) else -1
def yBrF (S : zT) (a b : Int) : zT := if (0 ≤ a ∧ a < S 37 78) ∧ (0 ≤ b ∧ b < S 37 1) ∧ S 184 a.toNat = -1 ∧ yFarq S (S 79 (S 181 a.toNat).toNat).toNat b.toNat ≠ -1 then yBrS S a.toNat b.toNat else S
theorem yPut_br {u v : Nat} (hb : b = (v : Int)) : yPut (zs S 184 u b) v (S 183 u) (S 185 u) = yBrS S u v := by
  subst hb
  unfold yPut yBrS
  by_cases h : S 185 u = 0
  · rw [if_pos h, if_pos h, zs_na (by decide), zs_sw (a := 184) (b := 68) (by decide)]
  · rw [if_neg h, if_neg h, zs_na (by decide), zs_na (by decide), zs_sw (a := 184) (b := 67) (by decide), zs_sw (a := 184) (b := 75) (by decide)]
theorem z57_0 : S = z57 S n 0 := by
  funext a i
  exact (if_neg (fun z => absurd z.2.2 (Nat.not_lt_zero _))).symm
theorem z57_s (h : k < 157) : zs (z57 S n k) 57 (157 * n + k) 10 = z57 S n (k + 1) := by
  funext a i
  rw [zs_if]
  show (if _ then _ else (if _ then _ else _)) = (if _ then _ else _)
  by_cases e : a = 57 ∧ i = 157 * n + k
  · rw [if_pos e, if_pos ⟨e.1, by omega, by omega⟩]
  · rw [if_neg e]
    by_cases f : a = 57 ∧ i / 157 = n ∧ i % 157 < k
    · rw [if_pos f, if_pos ⟨f.1, f.2.1, by omega⟩]
    · rw [if_neg f, if_neg (fun z => by omega)]
/-- a village, a house -/
def yVilA (S : zT) (a b c : Int) : Int := if S 37 1 < 8 ∧ (0 ≤ a ∧ a / 1000000 ≤ 40 ∧ a / 10000 % 100 ≤ 40 ∧ a / 100 % 100 ≤ 40 ∧ a % 100 ≤ 40) ∧ (1 ≤ b ∧ b ≤ 9) ∧ (0 ≤ c ∧ c ≤ 9999) then S 37 1 else -1
def yVilF (S : zT) (a b c : Int) : zT := if S 37 1 < 8 ∧ (0 ≤ a ∧ a / 1000000 ≤ 40 ∧ a / 10000 % 100 ≤ 40 ∧ a / 100 % 100 ≤ 40 ∧ a % 100 ≤ 40) ∧ (1 ≤ b ∧ b ≤ 9) ∧ (0 ≤ c ∧ c ≤ 9999) then yVil S (S 37 1).toNat a b c else S
def yHouA (S : zT) (a b : Int) : Int := if (0 ≤ a ∧ a < S 37 1) ∧ S 37 2 < 20 ∧ S 37 0 < 156 ∧ (0 ≤ b ∧ b / 1000 ≤ 5 ∧ 1 ≤ b / 100 % 10 ∧ b / 10 % 10 ≤ 5 ∧ 1 ≤ b % 10) then S 37 2 else -1
def yHouF (S : zT) (a b : Int) : zT := if (0 ≤ a ∧ a < S 37 1) ∧ S 37 2 < 20 ∧ S 37 0 < 156 ∧ (0 ≤ b ∧ b / 1000 ≤ 5 ∧ 1 ≤ b / 100 % 10 ∧ b / 10 % 10 ≤ 5 ∧ 1 ≤ b % 10) then yHou S (S 37 2).toNat a (b / 1000) (b / 100 % 10) (b / 10 % 10) (b % 10) else S
end YWV
end
section
/-! contracts of the class -/
-- WheelLand.daysBetween(LWheelLand$Village;LWheelLand$Village;)I
theorem x105_z {sc : List Int} (h : Hp) (C : CI h) (r y : Int) (G_r : gV h r) (G_y : gV h y) (J : yR h) (k : Nat) (P_r : r = zv h 2 k ∧ (k : Int) < fld h 2 2) (l : Nat) (P_y : y = zv h 2 l ∧ (l : Int) < fld h 2 2) (PF8 : yF8 (yC h)) : zwC sc 3 105 [(2, 1), (2, r), (2, y)] h (zwRt 0 (fun x g => h = g ∧ (-2147483648 ≤ x ∧ x ≤ 2147483647) ∧ (-1 ≤ x ∧ x ≤ 999999) ∧ (x = yFarq (yC h) k l))) := by
  refine zwC_of (D := 2) 3 (by decide +kernel) rfl (ls := [(2, 1), (2, r), (2, y)]) rfl ?_
  have lw_r := G_r.1
  have lw_y := G_y.1
  have u0 : yC h 37 0 = fld h 1 0 := rfl
  have u1 : yC h 37 1 = fld h 2 2 := rfl
  have u2 : yC h 37 2 = fld h 3 2 := rfl
  have u64 : yC h 37 64 = fld h 4 2 := rfl
  have u78 : yC h 37 78 = fld h 5 2 := rfl
  have b22 := zLb_2 C
  have B105 := yFarq_b PF8 (k := k) (l := l) (by have := P_r.2; omega) (by have := P_y.2; omega)
  refine zwW_p [(1, 1, 2)] (q := 1) (ls' := [(2, 1), (2, r), (2, y)]) (st' := [(2, r)]) (by decide +kernel) rfl ?_
  refine zwnu_eq (q := 8) (nx := 4) (by decide +kernel) (by omega) (fun c1 => ?_) (fun c1 => ?_)
  · exfalso; omega
  · refine zwW_p [(1, 2, 2)] (q := 5) (ls' := [(2, 1), (2, r), (2, y)]) (st' := [(2, y)]) (by decide +kernel) rfl ?_
    refine zwnu_ne (q := 12) (nx := 8) (by decide +kernel) (by omega) (fun c2 => ?_) (fun c2 => ?_)
    · refine zwW_p [(1, 0, 2)] (q := 13) (ls' := [(2, 1), (2, r), (2, y)]) (st' := [(2, 1)]) (by decide +kernel) rfl ?_
      refine zwW_gc C.1 (kd := 12) (bn := 6) (n := 13) (c := 6) (nx := 16) (by decide +kernel) ?_
      refine zwW_p [(1, 1, 2)] (q := 17) (ls' := [(2, 1), (2, r), (2, y)]) (st' := [(2, r), (2, 6)]) (by decide +kernel) rfl ?_
      refine zwX_gi C (kd := 11) (bn := 0) (n := 17) (nx := 20) (by decide +kernel) G_r.2.1 G_r.1 rfl ?_
      intro v3 ev3 lv3 uv3
      have sv3 : v3 = ((k : Nat) : Int) := Eq.trans ev3 (Eq.trans (congrArg (fun q => fld h q 0) P_r.1) (J.1 2 (by decide) _ P_r.2))
      refine zwW_p [(1, 2, 2)] (q := 21) (ls' := [(2, 1), (2, r), (2, y)]) (st' := [(2, y), (0, v3), (2, 6)]) (by decide +kernel) rfl ?_
      refine zwX_gi C (kd := 11) (bn := 0) (n := 17) (nx := 24) (by decide +kernel) G_y.2.1 G_y.1 rfl ?_
      intro v4 ev4 lv4 uv4
      have sv4 : v4 = ((l : Nat) : Int) := Eq.trans ev4 (Eq.trans (congrArg (fun q => fld h q 0) P_y.1) (J.1 2 (by decide) _ P_y.2))
      refine zwW_cm C.1 (op := 60) (k' := 184) (n := 2) (kd := 8) (m := 2) (nx := 27) (r := 6) (tl := [(0, v3), (0, v4)]) (st' := []) (by decide +kernel) rfl (by decide +kernel) rfl (x184 h C v3 v4 (by omega) (by omega)) ?_
      rintro v5 _ ⟨rfl, f6, f7⟩
      have A24 : v5 = yFarq (yC h) k l := by
        have z := f7 (by omega)
        rw [z, sv3, sv4, Int.toNat_natCast, Int.toNat_natCast]
        exact yFq_c (by have := P_r.2; omega) (by have := P_y.2; omega)
      refine zwW_ret (nx := 28) (a := 0) (b := 0) (by decide +kernel) rfl (Or.inl rfl) ?_
      exact ⟨rfl, by omega, by omega, by first | exact A24 | (exfalso; omega)⟩
    · exfalso; omega
-- WheelLand.canBeWoven(I)Z
theorem x130_z {sc : List Int} (h : Hp) (C : CI h) (a : Int) (q_a : -2147483648 ≤ a ∧ a ≤ 2147483647) : zwC sc 2 130 [(0, a)] h (zwRt 0 (fun x g => h = g ∧ ((x = 1 ∧ (a % 2 = 0 ∧ 2 ≤ a ∧ a ≤ 100)) ∨ (x = 0 ∧ (¬ (a % 2 = 0 ∧ 2 ≤ a ∧ a ≤ 100)))))) := by
  refine zwC_of (D := 1) 1 (by decide +kernel) rfl (ls := [(0, a)]) rfl ?_
  have T2 := tm2 (x := a)
  refine zwW_p [(1, 0, 0), (0, 2, 0)] (q := 2) (ls' := [(0, a)]) (st' := [(0, 2), (0, a)]) (by decide +kernel) rfl ?_
  refine zwW_tmw (nx := 3) (by decide +kernel) (by first | omega | exact ⟨by omega, by omega⟩) (by omega) ?_
  intro v1 ev1 lv1 uv1
  refine zwif_ne (q := 20) (nx := 6) (by decide +kernel) (fun c2 => ?_) (fun c2 => ?_)
  · refine zwW_p [(0, 0, 0)] (q := 21) (ls' := [(0, a)]) (st' := [(0, 0)]) (by decide +kernel) rfl ?_
    refine zwW_ret (nx := 22) (a := 1) (b := 0) (by decide +kernel) rfl (Or.inr (Or.inl ⟨rfl, Or.inl rfl⟩)) ?_
    exact ⟨rfl, Or.inr ⟨rfl, by omega⟩⟩
  · refine zwW_p [(1, 0, 0), (0, 2, 0), (0, 100, 0)] (q := 10) (ls' := [(0, a)]) (st' := [(0, 100), (0, 2), (0, a)]) (by decide +kernel) rfl ?_
    refine zwW_cs (k' := 98) (n := 3) (nx := 13) (as := [(0, a), (0, 2), (0, 100)]) (st' := []) (by decide +kernel) rfl (x98 h C a 2 100 (by omega) (by omega) (by omega)) rfl ?_
    rintro x _ ⟨rfl, ⟨rfl, c3⟩ | ⟨rfl, c3⟩⟩
    · refine zwif_ne (q := 20) (nx := 16) (by decide +kernel) (fun c4 => ?_) (fun c4 => ?_)
      · refine zwW_p [(0, 0, 0)] (q := 21) (ls' := [(0, a)]) (st' := [(0, 0)]) (by decide +kernel) rfl ?_
        refine zwW_ret (nx := 22) (a := 1) (b := 0) (by decide +kernel) rfl (Or.inr (Or.inl ⟨rfl, Or.inl rfl⟩)) ?_
        exact ⟨rfl, Or.inr ⟨rfl, by omega⟩⟩
      · exfalso; omega
    · refine zwif_ne (q := 20) (nx := 16) (by decide +kernel) (fun c5 => ?_) (fun c5 => ?_)
      · exfalso; omega
      · refine zwW_p [(0, 1, 0), (24, 21, 0)] (q := 21) (ls' := [(0, a)]) (st' := [(0, 1)]) (by decide +kernel) rfl ?_
        refine zwW_ret (nx := 22) (a := 1) (b := 0) (by decide +kernel) rfl (Or.inr (Or.inl ⟨rfl, Or.inr rfl⟩)) ?_
        exact ⟨rfl, Or.inl ⟨rfl, by omega⟩⟩
def msx134_z : Zms := [(17, 17, 0, 13), (18, 18, 0, 400)]
-- WheelLand.askOfWeaving(ILWheelLand$House;LWheelLand$Lot;I)I
theorem x134_z {sc : List Int} (h : Hp) (C : CI h) (a r y b : Int) (q : qT) (q_a : -2147483648 ≤ a ∧ a ≤ 2147483647) (G_r : gH h r) (G_y : gL h y) (q_b : -2147483648 ≤ b ∧ b ≤ 2147483647) (J : yR h) (k : Nat) (P_r : r = zv h 3 k ∧ (k : Int) < fld h 3 2) (l : Nat) (P_y : y = zv h 4 l ∧ (l : Int) < fld h 4 2) (V : zRq q h) (ok : yOK (yC h)) (PF8 : yF8 (yC h)) (pa : 0 ≤ a ∧ a ≤ 4) (pb : -1000 ≤ b ∧ b ≤ 1000) : zwC sc 4 134 [(2, 1), (0, a), (2, r), (2, y), (0, b)] h (zwRt 0 (fun x g => CI g ∧ zXR msx134_z (0) (0) h g ∧ (-2147483648 ≤ x ∧ x ≤ 2147483647) ∧ (-1000000 ≤ x ∧ x ≤ 1000000) ∧ (x = yWask q (yC h) a k l b) ∧ (yR g))) := by
  refine zwC_of (D := 3) 5 (by decide +kernel) rfl (ls := [(2, 1), (0, a), (2, r), (2, y), (0, b)]) rfl ?_
  have lw_r := G_r.1
  have lw_y := G_y.1
  have X : zXR msx134_z 0 0 h h := zXR.rf _ _
  have u0 : yC h 37 0 = fld h 1 0 := rfl
  have u1 : yC h 37 1 = fld h 2 2 := rfl
  have u2 : yC h 37 2 = fld h 3 2 := rfl
  have u64 : yC h 37 64 = fld h 4 2 := rfl
  have WNS := eNs_wn ok PF8 (k := k) (l := l) (x := b) (by have := P_r.2; omega) (by have := P_y.2; omega) pb
  have B134 : eNum (q a (yC h 37 0) (yWN (yC h) k l b)) := by
    by_cases z : a < 3
    · exact V.num WNS ⟨pa.1, z⟩
    · exact (V.bit WNS (by first | omega | exact ⟨by omega, by omega⟩)).num
  unfold eNum at B134
  refine zwW_p [(1, 0, 2)] (q := 1) (ls' := [(2, 1), (0, a), (2, r), (2, y), (0, b)]) (st' := [(2, 1)]) (by decide +kernel) rfl ?_
  refine zwW_gc C.1 (kd := 12) (bn := 8) (n := 13) (c := 13) (nx := 4) (by decide +kernel) ?_
  refine zwW_p [(1, 0, 2)] (q := 5) (ls' := [(2, 1), (0, a), (2, r), (2, y), (0, b)]) (st' := [(2, 1), (2, 13)]) (by decide +kernel) rfl ?_
  refine zwW_gs C.1 (kd := 12) (bn := 0) (n := 13) (t := 0) (lo := 0) (hi := 156) (nx := 8) (by decide +kernel) ?_
  intro v1 ev1 lv1 uv1
  have sv1 : v1 = (yC h) 37 0 := Eq.trans ev1 (Eq.trans (Eq.symm (yC_s (h := h) (i := 0) rfl)) (Eq.trans (congrFun (congrFun (rfl : yC h = yC h) 37) 0) rfl))
  refine zwW_cmv C.1 (op := 60) (k' := 166) (n := 1) (kd := 9) (m := 6) (nx := 11) (r := 13) (tl := [(0, v1)]) (st' := []) (by decide +kernel) rfl (by decide +kernel) rfl (x166_n h C v1 (by omega) (by omega)) ?_
  rintro h3 ⟨Ch3, Qh3, f2⟩
  have Zh3 : yC h3 = (yC h) := (yC_fr C Qh3 (by decide +kernel) (C.1.b (a1 := 37) (a2 := 37) (j1 := 86) (j2 := 87) (lo := 0) (hi := 6) (by decide +kernel) (r := 37) (j := 86) (by decide) (by decide) (by decide) (by decide)).2).trans (rfl : yC h = yC h)
  have Xh3 : zXR msx134_z (0) (0) h h3 := X.tr (c2 := 0) (s2 := 0) Qh3 (by decide +kernel) (by decide) (by decide)
  have Gh3_0 : gH h3 r := G_r.x Qh3
  have Gh3_1 : gL h3 y := G_y.x Qh3
  have Jh3 : yR h3 := J.fr C Qh3 (by decide +kernel)
  have pr_h3 : r = zv h3 3 k ∧ ((k : Nat) : Int) < fld h3 3 2 := zpv C Qh3 (A := 3) (by decide) (by decide +kernel) P_r
  have py_h3 : y = zv h3 4 l ∧ ((l : Nat) : Int) < fld h3 4 2 := zpv C Qh3 (A := 4) (by decide) (by decide +kernel) P_y
  have Vh3 : zRq q h3 := V.fr C Qh3 (by decide +kernel)
  have G8 : n13 17 h3 (yNm0 (yC h 37 0)) := f2.cg (by rw [sv1])
  refine zwW_p [(1, 0, 2)] (q := 12) (ls' := [(2, 1), (0, a), (2, r), (2, y), (0, b)]) (st' := [(2, 1)]) (by decide +kernel) rfl ?_
  refine zwW_gc Ch3.1 (kd := 12) (bn := 8) (n := 13) (c := 13) (nx := 15) (by decide +kernel) ?_
  refine zwW_p [(1, 3, 2)] (q := 16) (ls' := [(2, 1), (0, a), (2, r), (2, y), (0, b)]) (st' := [(2, y), (2, 13)]) (by decide +kernel) rfl ?_
  refine zwW_get (kd := 6) (bn := 1) (t := 2) (n := 7) (nx := 19) (by decide +kernel) Gh3_1.2.1 rfl ?_
  obtain ⟨v4, ev4⟩ : ∃ z, z = fld h3 y 1 := ⟨_, rfl⟩
  rw [← ev4]
  have Gv4 : gH h3 v4 := by rw [ev4]; exact Gh3_1.2.2
  have lv4 := Gv4.1
  have qv4 : yC h3 170 l = (yC h) 170 l := Eq.trans (congrFun (congrFun Zh3 170) l) rfl
  have wv4 := Jh3.r (a := 170) (A := 4) (j := 1) (B := 3) (i := l) rfl py_h3.2
  rw [qv4] at wv4
  have pv4 : v4 = zv h3 3 (((yC h) 170 l).toNat) ∧ ((((yC h) 170 l).toNat : Nat) : Int) < fld h3 3 2 := ⟨by rw [ev4, py_h3.1]; exact wv4.2.2, wv4.2.1⟩
  refine zwW_p [(1, 0, 2)] (q := 20) (ls' := [(2, 1), (0, a), (2, r), (2, y), (0, b)]) (st' := [(2, 1), (2, v4), (2, 13)]) (by decide +kernel) rfl ?_
  refine zwW_gs Ch3.1 (kd := 12) (bn := 0) (n := 13) (t := 0) (lo := 0) (hi := 156) (nx := 23) (by decide +kernel) ?_
  intro v5 ev5 lv5 uv5
  have sv5 : v5 = (yC h) 37 0 := Eq.trans ev5 (Eq.trans (Eq.symm (yC_s (h := h3) (i := 0) rfl)) (Eq.trans (congrFun (congrFun Zh3 37) 0) rfl))
  refine zwW_cs (k' := 162) (n := 1) (nx := 26) (as := [(0, v5)]) (st' := [(2, v4), (2, 13)]) (by decide +kernel) rfl (x162 h3 Ch3 v5 (by omega) (by omega)) rfl ?_
  rintro v6 _ ⟨rfl, f7, f8, f9⟩
  have Z26 := Zh3
  refine zwW_cmv Ch3.1 (op := 60) (k' := 167) (n := 2) (kd := 9) (m := 6) (nx := 29) (r := 13) (tl := [(2, v4), (0, v6)]) (st' := []) (by decide +kernel) rfl (by decide +kernel) rfl (x167_z h3 Ch3 v4 v6 (yNm0 (yC h 37 0)) Gv4 (by omega) Jh3 (((yC h) 170 l).toNat) pv4 (by rw [Zh3]; exact ok) G8 (by rw [Zh3]; omega)) ?_
  rintro h12 ⟨Ch12, Qh12, f10, f11⟩
  have Zh12 : yC h12 = (yC h) := (yC_fr Ch3 Qh12 (by decide +kernel) (Ch3.1.b (a1 := 37) (a2 := 37) (j1 := 86) (j2 := 87) (lo := 0) (hi := 6) (by decide +kernel) (r := 37) (j := 86) (by decide) (by decide) (by decide) (by decide)).2).trans Zh3
  have Xh12 : zXR msx134_z (0) (0) h h12 := Xh3.tr (c2 := 0) (s2 := 0) Qh12 (by decide +kernel) (by decide) (by decide)
  have Gh12_0 : gH h12 r := Gh3_0.x Qh12
  have Gh12_1 : gL h12 y := Gh3_1.x Qh12
  have pr_h12 : r = zv h12 3 k ∧ ((k : Nat) : Int) < fld h12 3 2 := zpv Ch3 Qh12 (A := 3) (by decide) (by decide +kernel) pr_h3
  have py_h12 : y = zv h12 4 l ∧ ((l : Nat) : Int) < fld h12 4 2 := zpv Ch3 Qh12 (A := 4) (by decide) (by decide +kernel) py_h3
  have Vh12 : zRq q h12 := Vh3.fr Ch3 Qh12 (by decide +kernel)
  have G26 : n13 17 h12 (yNmH (yC h) (yC h 170 l).toNat (yNm0 (yC h 37 0))) := by
    have z := f10
    rw [Z26] at z
    exact z
  refine zwW_p [(1, 0, 2)] (q := 30) (ls' := [(2, 1), (0, a), (2, r), (2, y), (0, b)]) (st' := [(2, 1)]) (by decide +kernel) rfl ?_
  refine zwW_gc Ch12.1 (kd := 12) (bn := 8) (n := 13) (c := 13) (nx := 33) (by decide +kernel) ?_
  refine zwW_p [(1, 2, 2)] (q := 34) (ls' := [(2, 1), (0, a), (2, r), (2, y), (0, b)]) (st' := [(2, r), (2, 13)]) (by decide +kernel) rfl ?_
  refine zwX_gi Ch12 (kd := 4) (bn := 4) (n := 19) (nx := 37) (by decide +kernel) Gh12_0.2.1 Gh12_0.1 rfl ?_
  intro v13 ev13 lv13 uv13
  have sv13 : v13 = (yC h) 82 k := Eq.trans ev13 (Eq.trans (congrArg (fun q => fld h12 q 4) pr_h12.1) (Eq.trans (Eq.symm (yC_f (h := h12) (a := 82) (A := 3) (j := 4) (i := k) rfl pr_h12.2)) (Eq.trans (congrFun (congrFun Zh12 82) k) rfl)))
  refine zwW_p [(1, 0, 2), (1, 3, 2)] (q := 39) (ls' := [(2, 1), (0, a), (2, r), (2, y), (0, b)]) (st' := [(2, y), (2, 1), (0, v13), (2, 13)]) (by decide +kernel) rfl ?_
  refine zwW_get (kd := 6) (bn := 1) (t := 2) (n := 7) (nx := 42) (by decide +kernel) Gh12_1.2.1 rfl ?_
  obtain ⟨v14, ev14⟩ : ∃ z, z = fld h12 y 1 := ⟨_, rfl⟩
  rw [← ev14]
  have Gv14 : gH h12 v14 := by rw [ev14]; exact Gh12_1.2.2
  have lv14 := Gv14.1
  have qv14 : yC h12 170 l = (yC h) 170 l := Eq.trans (congrFun (congrFun Zh12 170) l) rfl
  have wv14 := f11.r (a := 170) (A := 4) (j := 1) (B := 3) (i := l) rfl py_h12.2
  rw [qv14] at wv14
  have pv14 : v14 = zv h12 3 (((yC h) 170 l).toNat) ∧ ((((yC h) 170 l).toNat : Nat) : Int) < fld h12 3 2 := ⟨by rw [ev14, py_h12.1]; exact wv14.2.2, wv14.2.1⟩
  refine zwW_get (kd := 4) (bn := 1) (t := 2) (n := 19) (nx := 45) (by decide +kernel) Gv14.2.1 rfl ?_
  obtain ⟨v15, ev15⟩ : ∃ z, z = fld h12 v14 1 := ⟨_, rfl⟩
  rw [← ev15]
  have Gv15 : gV h12 v15 := by rw [ev15]; exact Gv14.2.2
  have lv15 := Gv15.1
  have qv15 : yC h12 79 (((yC h) 170 l).toNat) = (yC h) 79 (((yC h) 170 l).toNat) := Eq.trans (congrFun (congrFun Zh12 79) (((yC h) 170 l).toNat)) rfl
  have wv15 := f11.r (a := 79) (A := 3) (j := 1) (B := 2) (i := ((yC h) 170 l).toNat) rfl pv14.2
  rw [qv15] at wv15
  have pv15 : v15 = zv h12 2 (((yC h) 79 (((yC h) 170 l).toNat)).toNat) ∧ ((((yC h) 79 (((yC h) 170 l).toNat)).toNat : Nat) : Int) < fld h12 2 2 := ⟨by rw [ev15, pv14.1]; exact wv15.2.2, wv15.2.1⟩
  refine zwW_p [(1, 2, 2)] (q := 46) (ls' := [(2, 1), (0, a), (2, r), (2, y), (0, b)]) (st' := [(2, r), (2, v15), (2, 1), (0, v13), (2, 13)]) (by decide +kernel) rfl ?_
  refine zwW_get (kd := 4) (bn := 1) (t := 2) (n := 19) (nx := 49) (by decide +kernel) Gh12_0.2.1 rfl ?_
  obtain ⟨v16, ev16⟩ : ∃ z, z = fld h12 r 1 := ⟨_, rfl⟩
  rw [← ev16]
  have Gv16 : gV h12 v16 := by rw [ev16]; exact Gh12_0.2.2
  have lv16 := Gv16.1
  have qv16 : yC h12 79 k = (yC h) 79 k := Eq.trans (congrFun (congrFun Zh12 79) k) rfl
  have wv16 := f11.r (a := 79) (A := 3) (j := 1) (B := 2) (i := k) rfl pr_h12.2
  rw [qv16] at wv16
  have pv16 : v16 = zv h12 2 (((yC h) 79 k).toNat) ∧ ((((yC h) 79 k).toNat : Nat) : Int) < fld h12 2 2 := ⟨by rw [ev16, pr_h12.1]; exact wv16.2.2, wv16.2.1⟩
  refine zwW_cm Ch12.1 (op := 60) (k' := 105) (n := 2) (kd := 12) (m := 13) (nx := 52) (r := 1) (tl := [(2, v15), (2, v16)]) (st' := [(0, v13), (2, 13)]) (by decide +kernel) rfl (by decide +kernel) rfl (x105_z h12 Ch12 v15 v16 Gv15 Gv16 f11 (((yC h) 79 (((yC h) 170 l).toNat)).toNat) pv15 (((yC h) 79 k).toNat) pv16 (by rw [Zh12]; exact PF8)) ?_
  rintro v17 _ ⟨rfl, f18, f19, f20⟩
  have sv17 : v17 = yFarq (yC h) (((yC h) 79 (((yC h) 170 l).toNat)).toNat) (((yC h) 79 k).toNat) := by rw [f20, Zh12]
  refine zwW_cmv Ch12.1 (op := 60) (k' := 168) (n := 2) (kd := 9) (m := 6) (nx := 55) (r := 13) (tl := [(0, v13), (0, v17)]) (st' := []) (by decide +kernel) rfl (by decide +kernel) rfl (x168_n h12 Ch12 v13 v17 (yNmH (yC h) (yC h 170 l).toNat (yNm0 (yC h 37 0))) (by omega) (by omega) G26) ?_
  rintro h22 ⟨Ch22, Qh22, f21⟩
  have Zh22 : yC h22 = (yC h) := (yC_fr Ch12 Qh22 (by decide +kernel) (Ch12.1.b (a1 := 37) (a2 := 37) (j1 := 86) (j2 := 87) (lo := 0) (hi := 6) (by decide +kernel) (r := 37) (j := 86) (by decide) (by decide) (by decide) (by decide)).2).trans Zh12
  have Xh22 : zXR msx134_z (0) (0) h h22 := Xh12.tr (c2 := 0) (s2 := 0) Qh22 (by decide +kernel) (by decide) (by decide)
  have Gh22_0 : gH h22 r := Gh12_0.x Qh22
  have Gh22_1 : gL h22 y := Gh12_1.x Qh22
  have Jh22 : yR h22 := f11.fr Ch12 Qh22 (by decide +kernel)
  have pr_h22 : r = zv h22 3 k ∧ ((k : Nat) : Int) < fld h22 3 2 := zpv Ch12 Qh22 (A := 3) (by decide) (by decide +kernel) pr_h12
  have py_h22 : y = zv h22 4 l ∧ ((l : Nat) : Int) < fld h22 4 2 := zpv Ch12 Qh22 (A := 4) (by decide) (by decide +kernel) py_h12
  have Vh22 : zRq q h22 := Vh12.fr Ch12 Qh22 (by decide +kernel)
  have G52 : n13 17 h22 (zu (zu (yNmH (yC h) (yC h 170 l).toNat (yNm0 (yC h 37 0))) 6 (yC h 82 k)) 11 (yFarq (yC h) (yC h 79 (yC h 170 l).toNat).toNat (yC h 79 k).toNat)) := f21.cg (by rw [sv13, sv17])
  refine zwW_p [(1, 0, 2)] (q := 56) (ls' := [(2, 1), (0, a), (2, r), (2, y), (0, b)]) (st' := [(2, 1)]) (by decide +kernel) rfl ?_
  refine zwW_gc Ch22.1 (kd := 12) (bn := 8) (n := 13) (c := 13) (nx := 59) (by decide +kernel) ?_
  refine zwW_p [(1, 3, 2)] (q := 60) (ls' := [(2, 1), (0, a), (2, r), (2, y), (0, b)]) (st' := [(2, y), (2, 13)]) (by decide +kernel) rfl ?_
  refine zwX_gi Ch22 (kd := 6) (bn := 3) (n := 7) (nx := 63) (by decide +kernel) Gh22_1.2.1 Gh22_1.1 rfl ?_
  intro v23 ev23 lv23 uv23
  have sv23 : v23 = (yC h) 172 l := Eq.trans ev23 (Eq.trans (congrArg (fun q => fld h22 q 3) py_h22.1) (Eq.trans (Eq.symm (yC_f (h := h22) (a := 172) (A := 4) (j := 3) (i := l) rfl py_h22.2)) (Eq.trans (congrFun (congrFun Zh22 172) l) rfl)))
  refine zwW_p [(1, 3, 2)] (q := 64) (ls' := [(2, 1), (0, a), (2, r), (2, y), (0, b)]) (st' := [(2, y), (0, v23), (2, 13)]) (by decide +kernel) rfl ?_
  refine zwX_gi Ch22 (kd := 6) (bn := 4) (n := 7) (nx := 67) (by decide +kernel) Gh22_1.2.1 Gh22_1.1 rfl ?_
  intro v24 ev24 lv24 uv24
  have sv24 : v24 = (yC h) 173 l := Eq.trans ev24 (Eq.trans (congrArg (fun q => fld h22 q 4) py_h22.1) (Eq.trans (Eq.symm (yC_f (h := h22) (a := 173) (A := 4) (j := 4) (i := l) rfl py_h22.2)) (Eq.trans (congrFun (congrFun Zh22 173) l) rfl)))
  refine zwW_p [(1, 4, 0)] (q := 69) (ls' := [(2, 1), (0, a), (2, r), (2, y), (0, b)]) (st' := [(0, b), (0, v24), (0, v23), (2, 13)]) (by decide +kernel) rfl ?_
  refine zwW_cmv Ch22.1 (op := 60) (k' := 171) (n := 3) (kd := 9) (m := 6) (nx := 72) (r := 13) (tl := [(0, v23), (0, v24), (0, b)]) (st' := []) (by decide +kernel) rfl (by decide +kernel) rfl (x171_n h22 Ch22 v23 v24 b (zu (zu (yNmH (yC h) (yC h 170 l).toNat (yNm0 (yC h 37 0))) 6 (yC h 82 k)) 11 (yFarq (yC h) (yC h 79 (yC h 170 l).toNat).toNat (yC h 79 k).toNat)) (by omega) (by omega) (by omega) G52) ?_
  rintro h26 ⟨Ch26, Qh26, f25⟩
  have Zh26 : yC h26 = (yC h) := (yC_fr Ch22 Qh26 (by decide +kernel) (Ch22.1.b (a1 := 37) (a2 := 37) (j1 := 86) (j2 := 87) (lo := 0) (hi := 6) (by decide +kernel) (r := 37) (j := 86) (by decide) (by decide) (by decide) (by decide)).2).trans Zh22
  have Xh26 : zXR msx134_z (0) (0) h h26 := Xh22.tr (c2 := 0) (s2 := 0) Qh26 (by decide +kernel) (by decide) (by decide)
  have Gh26_0 : gH h26 r := Gh22_0.x Qh26
  have Gh26_1 : gL h26 y := Gh22_1.x Qh26
  have Jh26 : yR h26 := Jh22.fr Ch22 Qh26 (by decide +kernel)
  have pr_h26 : r = zv h26 3 k ∧ ((k : Nat) : Int) < fld h26 3 2 := zpv Ch22 Qh26 (A := 3) (by decide) (by decide +kernel) pr_h22
  have py_h26 : y = zv h26 4 l ∧ ((l : Nat) : Int) < fld h26 4 2 := zpv Ch22 Qh26 (A := 4) (by decide) (by decide +kernel) py_h22
  have Vh26 : zRq q h26 := Vh22.fr Ch22 Qh26 (by decide +kernel)
  have G69 : n13 17 h26 (yWN (yC h) k l b) := f25.cg (by unfold yWN; rw [sv23, sv24])
  refine zwW_p [(1, 0, 2)] (q := 73) (ls' := [(2, 1), (0, a), (2, r), (2, y), (0, b)]) (st' := [(2, 1)]) (by decide +kernel) rfl ?_
  refine zwW_gc Ch26.1 (kd := 12) (bn := 8) (n := 13) (c := 13) (nx := 76) (by decide +kernel) ?_
  refine zwW_p [(1, 1, 0), (1, 0, 2)] (q := 78) (ls' := [(2, 1), (0, a), (2, r), (2, y), (0, b)]) (st' := [(2, 1), (0, a), (2, 13)]) (by decide +kernel) rfl ?_
  refine zwW_gs Ch26.1 (kd := 12) (bn := 0) (n := 13) (t := 0) (lo := 0) (hi := 156) (nx := 81) (by decide +kernel) ?_
  intro v27 ev27 lv27 uv27
  have sv27 : v27 = (yC h) 37 0 := Eq.trans ev27 (Eq.trans (Eq.symm (yC_s (h := h26) (i := 0) rfl)) (Eq.trans (congrFun (congrFun Zh26 37) 0) rfl))
  refine zwW_cm Ch26.1 (op := 60) (k' := 172) (n := 2) (kd := 9) (m := 6) (nx := 84) (r := 13) (tl := [(0, a), (0, v27)]) (st' := []) (by decide +kernel) rfl (by decide +kernel) rfl (x172_e h26 Ch26 a v27 (by omega) (by omega) pa Vh26.1.1 Vh26.1.2.1 Vh26.1.2.2 (G69.ns WNS) Vh26.2.1.1 Vh26.2.1.2) ?_
  rintro v30 h31 ⟨Ch31, Qh31, f28, f29⟩
  have Zh31 : yC h31 = (yC h) := (yC_fr Ch26 Qh31 (by decide +kernel) (Ch26.1.b (a1 := 37) (a2 := 37) (j1 := 86) (j2 := 87) (lo := 0) (hi := 6) (by decide +kernel) (r := 37) (j := 86) (by decide) (by decide) (by decide) (by decide)).2).trans Zh26
  have Xh31 : zXR msx134_z (0) (0) h h31 := Xh26.tr (c2 := 0) (s2 := 0) Qh31 (by decide +kernel) (by decide) (by decide)
  have Gh31_0 : gH h31 r := Gh26_0.x Qh31
  have Gh31_1 : gL h31 y := Gh26_1.x Qh31
  have Jh31 : yR h31 := Jh26.fr Ch26 Qh31 (by decide +kernel)
  have pr_h31 : r = zv h31 3 k ∧ ((k : Nat) : Int) < fld h31 3 2 := zpv Ch26 Qh31 (A := 3) (by decide) (by decide +kernel) pr_h26
  have py_h31 : y = zv h31 4 l ∧ ((l : Nat) : Int) < fld h31 4 2 := zpv Ch26 Qh31 (A := 4) (by decide) (by decide +kernel) py_h26
  have Vh31 : zRq q h31 := Vh26.fr Ch26 Qh31 (by decide +kernel)
  have A81 : v30 = q a (yC h 37 0) (yWN (yC h) k l b) := by
    have z := f29
    rw [z, G69.tl, Vh26.2.2 _ _ _ pa.1 pa.2, sv27]
  refine zwW_ret (nx := 85) (a := 0) (b := 0) (by decide +kernel) rfl (Or.inl rfl) ?_
  exact ⟨Ch31, Xh31.le (by decide) (by decide), by omega, by omega, by exact A81, by exact Jh31⟩
def msx207_z : Zms := [(17, 17, 0, 13), (18, 18, 0, 400)]
-- WheelLand.lastingBarOf(LWheelLand$House;LWheelLand$Lot;I)I
theorem x207_z {sc : List Int} (h : Hp) (C : CI h) (r y a : Int) (q : qT) (G_r : gH h r) (G_y : gL h y) (q_a : -2147483648 ≤ a ∧ a ≤ 2147483647) (J : yR h) (k : Nat) (P_r : r = zv h 3 k ∧ (k : Int) < fld h 3 2) (l : Nat) (P_y : y = zv h 4 l ∧ (l : Int) < fld h 4 2) (V : zRq q h) (ok : yOK (yC h)) (PF8 : yF8 (yC h)) (pb : -1000 ≤ a ∧ a ≤ 1000) : zwC sc 5 207 [(2, 1), (2, r), (2, y), (0, a)] h (zwRt 0 (fun x g => CI g ∧ zXR msx207_z (0) (0) h g ∧ (-2147483648 ≤ x ∧ x ≤ 2147483647) ∧ (0 ≤ x ∧ x ≤ 5) ∧ (x = yLbar q (yC h) k l a) ∧ (yR g))) := by
  refine zwC_of (D := 4) 4 (by decide +kernel) rfl (ls := [(2, 1), (2, r), (2, y), (0, a)]) rfl ?_
  have lw_r := G_r.1
  have lw_y := G_y.1
  have X : zXR msx207_z 0 0 h h := zXR.rf _ _
  have u0 : yC h 37 0 = fld h 1 0 := rfl
  have u1 : yC h 37 1 = fld h 2 2 := rfl
  have u2 : yC h 37 2 = fld h 3 2 := rfl
  have u64 : yC h 37 64 = fld h 4 2 := rfl
  have WNS := eNs_wn ok PF8 (k := k) (l := l) (x := a) (by have := P_r.2; omega) (by have := P_y.2; omega) pb
  have BT := V.bit (c := 3) (w := yC h 37 0) WNS (by first | decide | exact ⟨by decide, by decide⟩)
  unfold eBit at BT
  have KL := ok.lo (l := l) (by have := P_y.2; omega)
  refine zwW_p [(1, 1, 2)] (q := 1) (ls' := [(2, 1), (2, r), (2, y), (0, a)]) (st' := [(2, r)]) (by decide +kernel) rfl ?_
  refine zwW_cv (op := 60) (k' := 110) (n := 0) (kd := 4) (m := 19) (nx := 4) (r := r) (tl := []) (st' := []) (by decide +kernel) rfl (by decide +kernel) G_r.2.1 (x110_z h C r G_r J k P_r) rfl ?_
  rintro x _ ⟨rfl, ⟨rfl, c1⟩ | ⟨rfl, c1⟩⟩
  · refine zwif_ne (q := 9) (nx := 7) (by decide +kernel) (fun c2 => ?_) (fun c2 => ?_)
    · refine zwW_p [(1, 2, 2)] (q := 10) (ls' := [(2, 1), (2, r), (2, y), (0, a)]) (st' := [(2, y)]) (by decide +kernel) rfl ?_
      refine zwX_gi C (kd := 6) (bn := 3) (n := 7) (nx := 13) (by decide +kernel) G_y.2.1 G_y.1 rfl ?_
      intro v3 ev3 lv3 uv3
      have sv3 : v3 = (yC h) 172 l := Eq.trans ev3 (Eq.trans (congrArg (fun q => fld h q 3) P_y.1) (Eq.trans (Eq.symm (yC_f (h := h) (a := 172) (A := 4) (j := 3) (i := l) rfl P_y.2)) (Eq.trans (congrFun (congrFun (rfl : yC h = yC h) 172) l) rfl)))
      refine zwW_p [(1, 1, 2)] (q := 14) (ls' := [(2, 1), (2, r), (2, y), (0, a)]) (st' := [(2, r), (0, v3)]) (by decide +kernel) rfl ?_
      refine zwX_gi C (kd := 4) (bn := 11) (n := 19) (nx := 17) (by decide +kernel) G_r.2.1 G_r.1 rfl ?_
      intro v4 ev4 lv4 uv4
      have sv4 : v4 = (yC h) 89 k := Eq.trans ev4 (Eq.trans (congrArg (fun q => fld h q 11) P_r.1) (Eq.trans (Eq.symm (yC_f (h := h) (a := 89) (A := 3) (j := 11) (i := k) rfl P_r.2)) (Eq.trans (congrFun (congrFun (rfl : yC h = yC h) 89) k) rfl)))
      refine zwW_p [(1, 1, 2)] (q := 18) (ls' := [(2, 1), (2, r), (2, y), (0, a)]) (st' := [(2, r), (0, v4), (0, v3)]) (by decide +kernel) rfl ?_
      refine zwX_gi C (kd := 4) (bn := 12) (n := 19) (nx := 21) (by decide +kernel) G_r.2.1 G_r.1 rfl ?_
      intro v5 ev5 lv5 uv5
      have sv5 : v5 = (yC h) 90 k := Eq.trans ev5 (Eq.trans (congrArg (fun q => fld h q 12) P_r.1) (Eq.trans (Eq.symm (yC_f (h := h) (a := 90) (A := 3) (j := 12) (i := k) rfl P_r.2)) (Eq.trans (congrFun (congrFun (rfl : yC h = yC h) 90) k) rfl)))
      refine zwW_cs (k' := 98) (n := 3) (nx := 24) (as := [(0, v3), (0, v4), (0, v5)]) (st' := []) (by decide +kernel) rfl (x98 h C v3 v4 v5 (by omega) (by omega) (by omega)) rfl ?_
      rintro x _ ⟨rfl, ⟨rfl, c6⟩ | ⟨rfl, c6⟩⟩
      · refine zwif_eq (q := 29) (nx := 27) (by decide +kernel) (fun c7 => ?_) (fun c7 => ?_)
        · exfalso; omega
        · refine zwW_p [(0, 2, 0)] (q := 28) (ls' := [(2, 1), (2, r), (2, y), (0, a)]) (st' := [(0, 2)]) (by decide +kernel) rfl ?_
          refine zwW_ret (nx := 29) (a := 0) (b := 0) (by decide +kernel) rfl (Or.inl rfl) ?_
          exact ⟨C, X.le (by decide) (by decide), by omega, by omega, by unfold yLbar; (try unfold yWask at *); (repeat' (first | rw [if_pos (by omega)] | rw [if_neg (by omega)])); all_goals (first | rfl | omega), by exact J⟩
      · refine zwif_eq (q := 29) (nx := 27) (by decide +kernel) (fun c8 => ?_) (fun c8 => ?_)
        · refine zwW_p [(1, 2, 2)] (q := 30) (ls' := [(2, 1), (2, r), (2, y), (0, a)]) (st' := [(2, y)]) (by decide +kernel) rfl ?_
          refine zwX_gi C (kd := 6) (bn := 4) (n := 7) (nx := 33) (by decide +kernel) G_y.2.1 G_y.1 rfl ?_
          intro v9 ev9 lv9 uv9
          have sv9 : v9 = (yC h) 173 l := Eq.trans ev9 (Eq.trans (congrArg (fun q => fld h q 4) P_y.1) (Eq.trans (Eq.symm (yC_f (h := h) (a := 173) (A := 4) (j := 4) (i := l) rfl P_y.2)) (Eq.trans (congrFun (congrFun (rfl : yC h = yC h) 173) l) rfl)))
          refine zwW_p [(1, 2, 2)] (q := 34) (ls' := [(2, 1), (2, r), (2, y), (0, a)]) (st' := [(2, y), (0, v9)]) (by decide +kernel) rfl ?_
          refine zwX_gi C (kd := 6) (bn := 3) (n := 7) (nx := 37) (by decide +kernel) G_y.2.1 G_y.1 rfl ?_
          intro v10 ev10 lv10 uv10
          have sv10 : v10 = (yC h) 172 l := Eq.trans ev10 (Eq.trans (congrArg (fun q => fld h q 3) P_y.1) (Eq.trans (Eq.symm (yC_f (h := h) (a := 172) (A := 4) (j := 3) (i := l) rfl P_y.2)) (Eq.trans (congrFun (congrFun (rfl : yC h = yC h) 172) l) rfl)))
          refine zwW_p [(0, 30, 0)] (q := 39) (ls' := [(2, 1), (2, r), (2, y), (0, a)]) (st' := [(0, 30), (0, v10), (0, v9)]) (by decide +kernel) rfl ?_
          refine zwW_add (nx := 40) (by decide +kernel) (by first | omega | exact ⟨by omega, by omega⟩) ?_
          refine zwic_ge (q := 45) (nx := 43) (by decide +kernel) (fun c11 => ?_) (fun c11 => ?_)
          · refine zwW_p [(1, 0, 2), (1, 2, 2)] (q := 47) (ls' := [(2, 1), (2, r), (2, y), (0, a)]) (st' := [(2, y), (2, 1)]) (by decide +kernel) rfl ?_
            refine zwW_get (kd := 6) (bn := 1) (t := 2) (n := 7) (nx := 50) (by decide +kernel) G_y.2.1 rfl ?_
            obtain ⟨v12, ev12⟩ : ∃ z, z = fld h y 1 := ⟨_, rfl⟩
            rw [← ev12]
            have Gv12 : gH h v12 := by rw [ev12]; exact G_y.2.2
            have lv12 := Gv12.1
            have qv12 : yC h 170 l = (yC h) 170 l := Eq.trans (congrFun (congrFun (rfl : yC h = yC h) 170) l) rfl
            have wv12 := J.r (a := 170) (A := 4) (j := 1) (B := 3) (i := l) rfl P_y.2
            rw [qv12] at wv12
            have pv12 : v12 = zv h 3 (((yC h) 170 l).toNat) ∧ ((((yC h) 170 l).toNat : Nat) : Int) < fld h 3 2 := ⟨by rw [ev12, P_y.1]; exact wv12.2.2, wv12.2.1⟩
            refine zwW_get (kd := 4) (bn := 1) (t := 2) (n := 19) (nx := 53) (by decide +kernel) Gv12.2.1 rfl ?_
            obtain ⟨v13, ev13⟩ : ∃ z, z = fld h v12 1 := ⟨_, rfl⟩
            rw [← ev13]
            have Gv13 : gV h v13 := by rw [ev13]; exact Gv12.2.2
            have lv13 := Gv13.1
            have qv13 : yC h 79 (((yC h) 170 l).toNat) = (yC h) 79 (((yC h) 170 l).toNat) := Eq.trans (congrFun (congrFun (rfl : yC h = yC h) 79) (((yC h) 170 l).toNat)) rfl
            have wv13 := J.r (a := 79) (A := 3) (j := 1) (B := 2) (i := ((yC h) 170 l).toNat) rfl pv12.2
            rw [qv13] at wv13
            have pv13 : v13 = zv h 2 (((yC h) 79 (((yC h) 170 l).toNat)).toNat) ∧ ((((yC h) 79 (((yC h) 170 l).toNat)).toNat : Nat) : Int) < fld h 2 2 := ⟨by rw [ev13, pv12.1]; exact wv13.2.2, wv13.2.1⟩
            refine zwW_p [(1, 1, 2)] (q := 54) (ls' := [(2, 1), (2, r), (2, y), (0, a)]) (st' := [(2, r), (2, v13), (2, 1)]) (by decide +kernel) rfl ?_
            refine zwW_get (kd := 4) (bn := 1) (t := 2) (n := 19) (nx := 57) (by decide +kernel) G_r.2.1 rfl ?_
            obtain ⟨v14, ev14⟩ : ∃ z, z = fld h r 1 := ⟨_, rfl⟩
            rw [← ev14]
            have Gv14 : gV h v14 := by rw [ev14]; exact G_r.2.2
            have lv14 := Gv14.1
            have qv14 : yC h 79 k = (yC h) 79 k := Eq.trans (congrFun (congrFun (rfl : yC h = yC h) 79) k) rfl
            have wv14 := J.r (a := 79) (A := 3) (j := 1) (B := 2) (i := k) rfl P_r.2
            rw [qv14] at wv14
            have pv14 : v14 = zv h 2 (((yC h) 79 k).toNat) ∧ ((((yC h) 79 k).toNat : Nat) : Int) < fld h 2 2 := ⟨by rw [ev14, P_r.1]; exact wv14.2.2, wv14.2.1⟩
            refine zwW_cm C.1 (op := 60) (k' := 105) (n := 2) (kd := 12) (m := 13) (nx := 60) (r := 1) (tl := [(2, v13), (2, v14)]) (st' := []) (by decide +kernel) rfl (by decide +kernel) rfl (x105_z h C v13 v14 Gv13 Gv14 J (((yC h) 79 (((yC h) 170 l).toNat)).toNat) pv13 (((yC h) 79 k).toNat) pv14 PF8) ?_
            rintro v15 _ ⟨rfl, f16, f17, f18⟩
            have sv15 : v15 = yFarq (yC h) (((yC h) 79 (((yC h) 170 l).toNat)).toNat) (((yC h) 79 k).toNat) := by rw [f18]
            refine zwW_p [(0, -1, 0)] (q := 61) (ls' := [(2, 1), (2, r), (2, y), (0, a)]) (st' := [(0, -1), (0, v15)]) (by decide +kernel) rfl ?_
            refine zwic_ne (q := 66) (nx := 64) (by decide +kernel) (fun c19 => ?_) (fun c19 => ?_)
            · refine zwW_p [(1, 0, 2), (0, 3, 0), (1, 1, 2), (1, 2, 2), (1, 3, 0)] (q := 71) (ls' := [(2, 1), (2, r), (2, y), (0, a)]) (st' := [(0, a), (2, y), (2, r), (0, 3), (2, 1)]) (by decide +kernel) rfl ?_
              refine zwW_cm C.1 (op := 60) (k' := 134) (n := 4) (kd := 12) (m := 13) (nx := 74) (r := 1) (tl := [(0, 3), (2, r), (2, y), (0, a)]) (st' := []) (by decide +kernel) rfl (by decide +kernel) rfl (x134_z h C 3 r y a q (by omega) G_r G_y (by omega) J k P_r l P_y V ok PF8 (by first | decide | exact ⟨by decide, by decide⟩) pb) ?_
              rintro v24 h25 ⟨Ch25, Qh25, f20, f21, f22, f23⟩
              have sv24 : v24 = yWask q (yC h) 3 k l a := by rw [f22]
              have Zh25 : yC h25 = (yC h) := (yC_fr C Qh25 (by decide +kernel) (C.1.b (a1 := 37) (a2 := 37) (j1 := 86) (j2 := 87) (lo := 0) (hi := 6) (by decide +kernel) (r := 37) (j := 86) (by decide) (by decide) (by decide) (by decide)).2).trans (rfl : yC h = yC h)
              have Xh25 : zXR msx207_z (0) (0) h h25 := X.tr (c2 := 0) (s2 := 0) Qh25 (by decide +kernel) (by decide) (by decide)
              have Gh25_0 : gH h25 r := G_r.x Qh25
              have Gh25_1 : gL h25 y := G_y.x Qh25
              have pr_h25 : r = zv h25 3 k ∧ ((k : Nat) : Int) < fld h25 3 2 := zpv C Qh25 (A := 3) (by decide) (by decide +kernel) P_r
              have py_h25 : y = zv h25 4 l ∧ ((l : Nat) : Int) < fld h25 4 2 := zpv C Qh25 (A := 4) (by decide) (by decide +kernel) P_y
              have Vh25 : zRq q h25 := V.fr C Qh25 (by decide +kernel)
              refine zwif_ne (q := 81) (nx := 77) (by decide +kernel) (fun c26 => ?_) (fun c26 => ?_)
              · refine zwW_p [(0, 0, 0)] (q := 82) (ls' := [(2, 1), (2, r), (2, y), (0, a)]) (st' := [(0, 0)]) (by decide +kernel) rfl ?_
                refine zwW_ret (nx := 83) (a := 0) (b := 0) (by decide +kernel) rfl (Or.inl rfl) ?_
                exact ⟨Ch25, Xh25.le (by decide) (by decide), by omega, by omega, by unfold yLbar; (try unfold yWask at *); (repeat' (first | rw [if_pos (by omega)] | rw [if_neg (by omega)])); all_goals (first | rfl | omega), by exact f23⟩
              · refine zwW_p [(0, 5, 0), (24, 82, 0)] (q := 82) (ls' := [(2, 1), (2, r), (2, y), (0, a)]) (st' := [(0, 5)]) (by decide +kernel) rfl ?_
                refine zwW_ret (nx := 83) (a := 0) (b := 0) (by decide +kernel) rfl (Or.inl rfl) ?_
                exact ⟨Ch25, Xh25.le (by decide) (by decide), by omega, by omega, by unfold yLbar; (try unfold yWask at *); (repeat' (first | rw [if_pos (by omega)] | rw [if_neg (by omega)])); all_goals (first | rfl | omega), by exact f23⟩
            · refine zwW_p [(0, 4, 0)] (q := 65) (ls' := [(2, 1), (2, r), (2, y), (0, a)]) (st' := [(0, 4)]) (by decide +kernel) rfl ?_
              refine zwW_ret (nx := 66) (a := 0) (b := 0) (by decide +kernel) rfl (Or.inl rfl) ?_
              exact ⟨C, X.le (by decide) (by decide), by omega, by omega, by unfold yLbar; (try unfold yWask at *); (repeat' (first | rw [if_pos (by omega)] | rw [if_neg (by omega)])); all_goals (first | rfl | omega), by exact J⟩
          · refine zwW_p [(0, 3, 0)] (q := 44) (ls' := [(2, 1), (2, r), (2, y), (0, a)]) (st' := [(0, 3)]) (by decide +kernel) rfl ?_
            refine zwW_ret (nx := 45) (a := 0) (b := 0) (by decide +kernel) rfl (Or.inl rfl) ?_
            exact ⟨C, X.le (by decide) (by decide), by omega, by omega, by unfold yLbar; (try unfold yWask at *); (repeat' (first | rw [if_pos (by omega)] | rw [if_neg (by omega)])); all_goals (first | rfl | omega), by exact J⟩
        · exfalso; omega
    · exfalso; omega
  · refine zwif_ne (q := 9) (nx := 7) (by decide +kernel) (fun c27 => ?_) (fun c27 => ?_)
    · exfalso; omega
    · refine zwW_p [(0, 1, 0)] (q := 8) (ls' := [(2, 1), (2, r), (2, y), (0, a)]) (st' := [(0, 1)]) (by decide +kernel) rfl ?_
      refine zwW_ret (nx := 9) (a := 0) (b := 0) (by decide +kernel) rfl (Or.inl rfl) ?_
      exact ⟨C, X.le (by decide) (by decide), by omega, by omega, by unfold yLbar; (try unfold yWask at *); (repeat' (first | rw [if_pos (by omega)] | rw [if_neg (by omega)])); all_goals (first | rfl | omega), by exact J⟩
def msx131_z : Zms := [(17, 17, 0, 13), (18, 18, 0, 400)]
-- WheelLand.barOf(LWheelLand$House;LWheelLand$Lot;I)I
theorem x131_z {sc : List Int} (h : Hp) (C : CI h) (r y a : Int) (q : qT) (G_r : gH h r) (G_y : gL h y) (q_a : -2147483648 ≤ a ∧ a ≤ 2147483647) (J : yR h) (k : Nat) (P_r : r = zv h 3 k ∧ (k : Int) < fld h 3 2) (l : Nat) (P_y : y = zv h 4 l ∧ (l : Int) < fld h 4 2) (V : zRq q h) (ok : yOK (yC h)) (PF8 : yF8 (yC h)) (pb : -1000 ≤ a ∧ a ≤ 1000) : zwC sc 6 131 [(2, 1), (2, r), (2, y), (0, a)] h (zwRt 0 (fun x g => CI g ∧ zXR msx131_z (0) (0) h g ∧ (-2147483648 ≤ x ∧ x ≤ 2147483647) ∧ (0 ≤ x ∧ x ≤ 7) ∧ (x = yBarF q (yC h) k l a) ∧ (yR g))) := by
  refine zwC_of (D := 5) 5 (by decide +kernel) rfl (ls := [(2, 1), (2, r), (2, y), (0, a), (9, 0)]) rfl ?_
  have lw_r := G_r.1
  have lw_y := G_y.1
  have X : zXR msx131_z 0 0 h h := zXR.rf _ _
  have u0 : yC h 37 0 = fld h 1 0 := rfl
  have u1 : yC h 37 1 = fld h 2 2 := rfl
  have u2 : yC h 37 2 = fld h 3 2 := rfl
  have u64 : yC h 37 64 = fld h 4 2 := rfl
  have u78 : yC h 37 78 = fld h 5 2 := rfl
  refine zwW_p [(1, 0, 2), (1, 1, 2), (1, 2, 2), (1, 3, 0)] (q := 4) (ls' := [(2, 1), (2, r), (2, y), (0, a), (9, 0)]) (st' := [(0, a), (2, y), (2, r), (2, 1)]) (by decide +kernel) rfl ?_
  refine zwW_cm C.1 (op := 60) (k' := 207) (n := 3) (kd := 12) (m := 13) (nx := 7) (r := 1) (tl := [(2, r), (2, y), (0, a)]) (st' := []) (by decide +kernel) rfl (by decide +kernel) rfl (x207_z h C r y a q G_r G_y (by omega) J k P_r l P_y V ok PF8 pb) ?_
  rintro v5 h6 ⟨Ch6, Qh6, f1, f2, f3, f4⟩
  have sv5 : v5 = yLbar q (yC h) k l a := by rw [f3]
  have Zh6 : yC h6 = (yC h) := (yC_fr C Qh6 (by decide +kernel) (C.1.b (a1 := 37) (a2 := 37) (j1 := 86) (j2 := 87) (lo := 0) (hi := 6) (by decide +kernel) (r := 37) (j := 86) (by decide) (by decide) (by decide) (by decide)).2).trans (rfl : yC h = yC h)
  have Xh6 : zXR msx131_z (0) (0) h h6 := X.tr (c2 := 0) (s2 := 0) Qh6 (by decide +kernel) (by decide) (by decide)
  have Gh6_0 : gH h6 r := G_r.x Qh6
  have Gh6_1 : gL h6 y := G_y.x Qh6
  have pr_h6 : r = zv h6 3 k ∧ ((k : Nat) : Int) < fld h6 3 2 := zpv C Qh6 (A := 3) (by decide) (by decide +kernel) P_r
  have py_h6 : y = zv h6 4 l ∧ ((l : Nat) : Int) < fld h6 4 2 := zpv C Qh6 (A := 4) (by decide) (by decide +kernel) P_y
  have Vh6 : zRq q h6 := V.fr C Qh6 (by decide +kernel)
  refine zwW_p [(2, 4, 0), (1, 4, 0)] (q := 11) (ls' := [(2, 1), (2, r), (2, y), (0, a), (0, v5)]) (st' := [(0, v5)]) (by decide +kernel) rfl ?_
  refine zwif_eq (q := 17) (nx := 14) (by decide +kernel) (fun c7 => ?_) (fun c7 => ?_)
  · refine zwW_p [(1, 2, 2)] (q := 18) (ls' := [(2, 1), (2, r), (2, y), (0, a), (0, v5)]) (st' := [(2, y)]) (by decide +kernel) rfl ?_
    refine zwX_gi Ch6 (kd := 6) (bn := 6) (n := 7) (nx := 21) (by decide +kernel) Gh6_1.2.1 Gh6_1.1 rfl ?_
    intro v8 ev8 lv8 uv8
    have sv8 : v8 = (yC h) 175 l := Eq.trans ev8 (Eq.trans (congrArg (fun q => fld h6 q 6) py_h6.1) (Eq.trans (Eq.symm (yC_f (h := h6) (a := 175) (A := 4) (j := 6) (i := l) rfl py_h6.2)) (Eq.trans (congrFun (congrFun Zh6 175) l) rfl)))
    refine zwW_p [(1, 3, 0)] (q := 22) (ls' := [(2, 1), (2, r), (2, y), (0, a), (0, v5)]) (st' := [(0, a), (0, v8)]) (by decide +kernel) rfl ?_
    refine zwic_ge (q := 28) (nx := 25) (by decide +kernel) (fun c9 => ?_) (fun c9 => ?_)
    · refine zwW_p [(1, 1, 2)] (q := 29) (ls' := [(2, 1), (2, r), (2, y), (0, a), (0, v5)]) (st' := [(2, r)]) (by decide +kernel) rfl ?_
      refine zwX_gi Ch6 (kd := 4) (bn := 13) (n := 19) (nx := 32) (by decide +kernel) Gh6_0.2.1 Gh6_0.1 rfl ?_
      intro v10 ev10 lv10 uv10
      have sv10 : v10 = (yC h) 91 k := Eq.trans ev10 (Eq.trans (congrArg (fun q => fld h6 q 13) pr_h6.1) (Eq.trans (Eq.symm (yC_f (h := h6) (a := 91) (A := 3) (j := 13) (i := k) rfl pr_h6.2)) (Eq.trans (congrFun (congrFun Zh6 91) k) rfl)))
      refine zwW_p [(1, 1, 2)] (q := 33) (ls' := [(2, 1), (2, r), (2, y), (0, a), (0, v5)]) (st' := [(2, r), (0, v10)]) (by decide +kernel) rfl ?_
      refine zwX_gi Ch6 (kd := 4) (bn := 14) (n := 19) (nx := 36) (by decide +kernel) Gh6_0.2.1 Gh6_0.1 rfl ?_
      intro v11 ev11 lv11 uv11
      have sv11 : v11 = (yC h) 92 k := Eq.trans ev11 (Eq.trans (congrArg (fun q => fld h6 q 14) pr_h6.1) (Eq.trans (Eq.symm (yC_f (h := h6) (a := 92) (A := 3) (j := 14) (i := k) rfl pr_h6.2)) (Eq.trans (congrFun (congrFun Zh6 92) k) rfl)))
      refine zwW_sbw (nx := 37) (by decide +kernel) ?_
      intro v12 ev12 lv12 uv12
      have Ev12 : v12 = w32 (((yC h) 91 k) - ((yC h) 92 k)) := by rw [ev12, sv10, sv11]
      refine zwW_p [(1, 3, 0)] (q := 38) (ls' := [(2, 1), (2, r), (2, y), (0, a), (0, v5)]) (st' := [(0, a), (0, v12)]) (by decide +kernel) rfl ?_
      refine zwic_ge (q := 46) (nx := 41) (by decide +kernel) (fun c13 => ?_) (fun c13 => ?_)
      · refine zwW_p [(0, 0, 0)] (q := 47) (ls' := [(2, 1), (2, r), (2, y), (0, a), (0, v5)]) (st' := [(0, 0)]) (by decide +kernel) rfl ?_
        refine zwW_ret (nx := 48) (a := 0) (b := 0) (by decide +kernel) rfl (Or.inl rfl) ?_
        exact ⟨Ch6, Xh6.le (by decide) (by decide), by omega, by omega, by unfold yBarF; (repeat' (first | rw [if_pos (by omega)] | rw [if_neg (by omega)])); all_goals (first | rfl | omega), by exact f4⟩
      · refine zwW_p [(0, 7, 0), (24, 47, 0)] (q := 47) (ls' := [(2, 1), (2, r), (2, y), (0, a), (0, v5)]) (st' := [(0, 7)]) (by decide +kernel) rfl ?_
        refine zwW_ret (nx := 48) (a := 0) (b := 0) (by decide +kernel) rfl (Or.inl rfl) ?_
        exact ⟨Ch6, Xh6.le (by decide) (by decide), by omega, by omega, by unfold yBarF; (repeat' (first | rw [if_pos (by omega)] | rw [if_neg (by omega)])); all_goals (first | rfl | omega), by exact f4⟩
    · refine zwW_p [(0, 6, 0)] (q := 27) (ls' := [(2, 1), (2, r), (2, y), (0, a), (0, v5)]) (st' := [(0, 6)]) (by decide +kernel) rfl ?_
      refine zwW_ret (nx := 28) (a := 0) (b := 0) (by decide +kernel) rfl (Or.inl rfl) ?_
      exact ⟨Ch6, Xh6.le (by decide) (by decide), by omega, by omega, by unfold yBarF; (repeat' (first | rw [if_pos (by omega)] | rw [if_neg (by omega)])); all_goals (first | rfl | omega), by exact f4⟩
  · refine zwW_p [(1, 4, 0)] (q := 16) (ls' := [(2, 1), (2, r), (2, y), (0, a), (0, v5)]) (st' := [(0, v5)]) (by decide +kernel) rfl ?_
    refine zwW_ret (nx := 17) (a := 0) (b := 0) (by decide +kernel) rfl (Or.inl rfl) ?_
    exact ⟨Ch6, Xh6.le (by decide) (by decide), by omega, by omega, by unfold yBarF; (repeat' (first | rw [if_pos (by omega)] | rw [if_neg (by omega)])); all_goals (first | rfl | omega), by exact f4⟩
def msx39_z : Zms := [(17, 17, 0, 13), (18, 18, 0, 400)]
-- WheelLand.bar(III)I
theorem x39_z {sc : List Int} (h : Hp) (C : CI h) (a b c : Int) (q : qT) (q_a : -2147483648 ≤ a ∧ a ≤ 2147483647) (q_b : -2147483648 ≤ b ∧ b ≤ 2147483647) (q_c : -2147483648 ≤ c ∧ c ≤ 2147483647) (J : yR h) (V : zRq q h) (ok : yOK (yC h)) (PF8 : yF8 (yC h)) : zwC sc 7 39 [(2, 1), (0, a), (0, b), (0, c)] h (zwRt 0 (fun x g => CI g ∧ zXR msx39_z (0) (0) h g ∧ (-2147483648 ≤ x ∧ x ≤ 2147483647) ∧ (x = yBarA q (yC h) a b c) ∧ (yR g))) := by
  refine zwC_of (D := 6) 6 (by decide +kernel) rfl (ls := [(2, 1), (0, a), (0, b), (0, c), (9, 0), (9, 0)]) rfl ?_
  have X : zXR msx39_z 0 0 h h := zXR.rf _ _
  have u0 : yC h 37 0 = fld h 1 0 := rfl
  have u1 : yC h 37 1 = fld h 2 2 := rfl
  have u2 : yC h 37 2 = fld h 3 2 := rfl
  have u64 : yC h 37 64 = fld h 4 2 := rfl
  refine zwW_p [(1, 0, 2), (1, 1, 0)] (q := 2) (ls' := [(2, 1), (0, a), (0, b), (0, c), (9, 0), (9, 0)]) (st' := [(0, a), (2, 1)]) (by decide +kernel) rfl ?_
  refine zwW_cm C.1 (op := 60) (k' := 109) (n := 1) (kd := 12) (m := 13) (nx := 5) (r := 1) (tl := [(0, a)]) (st' := []) (by decide +kernel) rfl (by decide +kernel) rfl (x109 h C a (by omega)) ?_
  rintro v2 _ ⟨rfl, ⟨rfl, c1⟩ | ⟨Gv2, c1⟩⟩
  · refine zwW_p [(2, 4, 2), (1, 0, 2), (1, 2, 0)] (q := 9) (ls' := [(2, 1), (0, a), (0, b), (0, c), (2, 0), (9, 0)]) (st' := [(0, b), (2, 1)]) (by decide +kernel) rfl ?_
    refine zwW_cm C.1 (op := 60) (k' := 115) (n := 1) (kd := 12) (m := 13) (nx := 12) (r := 1) (tl := [(0, b)]) (st' := []) (by decide +kernel) rfl (by decide +kernel) rfl (x115 h C b (by omega)) ?_
    rintro v4 _ ⟨rfl, ⟨rfl, c3⟩ | ⟨Gv4, c3⟩⟩
    · refine zwW_p [(2, 5, 2), (1, 4, 2)] (q := 16) (ls' := [(2, 1), (0, a), (0, b), (0, c), (2, 0), (2, 0)]) (st' := [(2, 0)]) (by decide +kernel) rfl ?_
      refine zwnu_eq (q := 31) (nx := 19) (by decide +kernel) (by decide) (fun c5 => ?_) (fun c5 => ?_)
      · refine zwW_p [(0, -1, 0)] (q := 32) (ls' := [(2, 1), (0, a), (0, b), (0, c), (2, 0), (2, 0)]) (st' := [(0, -1)]) (by decide +kernel) rfl ?_
        refine zwW_ret (nx := 33) (a := 0) (b := 0) (by decide +kernel) rfl (Or.inl rfl) ?_
        exact ⟨C, X.le (by decide) (by decide), by omega, by unfold yBarA; (repeat' (first | rw [if_neg (by omega)] | rw [if_pos (by omega)])); all_goals (first | rfl | omega), by exact J⟩
      · exfalso; omega
    · have lv4 := Gv4.1
      have ev4 := c3.2.2
      have pv4 : v4 = zv h 4 b.toNat ∧ ((b.toNat : Nat) : Int) < fld h 4 2 := ⟨ev4, by omega⟩
      refine zwW_p [(2, 5, 2), (1, 4, 2)] (q := 16) (ls' := [(2, 1), (0, a), (0, b), (0, c), (2, 0), (2, v4)]) (st' := [(2, 0)]) (by decide +kernel) rfl ?_
      refine zwnu_eq (q := 31) (nx := 19) (by decide +kernel) (by decide) (fun c6 => ?_) (fun c6 => ?_)
      · refine zwW_p [(0, -1, 0)] (q := 32) (ls' := [(2, 1), (0, a), (0, b), (0, c), (2, 0), (2, v4)]) (st' := [(0, -1)]) (by decide +kernel) rfl ?_
        refine zwW_ret (nx := 33) (a := 0) (b := 0) (by decide +kernel) rfl (Or.inl rfl) ?_
        exact ⟨C, X.le (by decide) (by decide), by omega, by unfold yBarA; (repeat' (first | rw [if_neg (by omega)] | rw [if_pos (by omega)])); all_goals (first | rfl | omega), by exact J⟩
      · exfalso; omega
  · have lv2 := Gv2.1
    have ev2 := c1.2.2
    have pv2 : v2 = zv h 3 a.toNat ∧ ((a.toNat : Nat) : Int) < fld h 3 2 := ⟨ev2, by omega⟩
    refine zwW_p [(2, 4, 2), (1, 0, 2), (1, 2, 0)] (q := 9) (ls' := [(2, 1), (0, a), (0, b), (0, c), (2, v2), (9, 0)]) (st' := [(0, b), (2, 1)]) (by decide +kernel) rfl ?_
    refine zwW_cm C.1 (op := 60) (k' := 115) (n := 1) (kd := 12) (m := 13) (nx := 12) (r := 1) (tl := [(0, b)]) (st' := []) (by decide +kernel) rfl (by decide +kernel) rfl (x115 h C b (by omega)) ?_
    rintro v8 _ ⟨rfl, ⟨rfl, c7⟩ | ⟨Gv8, c7⟩⟩
    · refine zwW_p [(2, 5, 2), (1, 4, 2)] (q := 16) (ls' := [(2, 1), (0, a), (0, b), (0, c), (2, v2), (2, 0)]) (st' := [(2, v2)]) (by decide +kernel) rfl ?_
      refine zwnu_eq (q := 31) (nx := 19) (by decide +kernel) (by omega) (fun c9 => ?_) (fun c9 => ?_)
      · exfalso; omega
      · refine zwW_p [(1, 5, 2)] (q := 21) (ls' := [(2, 1), (0, a), (0, b), (0, c), (2, v2), (2, 0)]) (st' := [(2, 0)]) (by decide +kernel) rfl ?_
        refine zwnu_eq (q := 31) (nx := 24) (by decide +kernel) (by decide) (fun c10 => ?_) (fun c10 => ?_)
        · refine zwW_p [(0, -1, 0)] (q := 32) (ls' := [(2, 1), (0, a), (0, b), (0, c), (2, v2), (2, 0)]) (st' := [(0, -1)]) (by decide +kernel) rfl ?_
          refine zwW_ret (nx := 33) (a := 0) (b := 0) (by decide +kernel) rfl (Or.inl rfl) ?_
          exact ⟨C, X.le (by decide) (by decide), by omega, by unfold yBarA; (repeat' (first | rw [if_neg (by omega)] | rw [if_pos (by omega)])); all_goals (first | rfl | omega), by exact J⟩
        · exfalso; omega
    · have lv8 := Gv8.1
      have ev8 := c7.2.2
      have pv8 : v8 = zv h 4 b.toNat ∧ ((b.toNat : Nat) : Int) < fld h 4 2 := ⟨ev8, by omega⟩
      refine zwW_p [(2, 5, 2), (1, 4, 2)] (q := 16) (ls' := [(2, 1), (0, a), (0, b), (0, c), (2, v2), (2, v8)]) (st' := [(2, v2)]) (by decide +kernel) rfl ?_
      refine zwnu_eq (q := 31) (nx := 19) (by decide +kernel) (by omega) (fun c11 => ?_) (fun c11 => ?_)
      · exfalso; omega
      · refine zwW_p [(1, 5, 2)] (q := 21) (ls' := [(2, 1), (0, a), (0, b), (0, c), (2, v2), (2, v8)]) (st' := [(2, v8)]) (by decide +kernel) rfl ?_
        refine zwnu_eq (q := 31) (nx := 24) (by decide +kernel) (by omega) (fun c12 => ?_) (fun c12 => ?_)
        · exfalso; omega
        · refine zwW_p [(1, 3, 0)] (q := 25) (ls' := [(2, 1), (0, a), (0, b), (0, c), (2, v2), (2, v8)]) (st' := [(0, c)]) (by decide +kernel) rfl ?_
          refine zwW_cs (k' := 130) (n := 1) (nx := 28) (as := [(0, c)]) (st' := []) (by decide +kernel) rfl (x130_z h C c (by omega)) rfl ?_
          rintro x _ ⟨rfl, ⟨rfl, c13⟩ | ⟨rfl, c13⟩⟩
          · refine zwif_ne (q := 33) (nx := 31) (by decide +kernel) (fun c14 => ?_) (fun c14 => ?_)
            · refine zwW_p [(1, 0, 2), (1, 4, 2), (1, 5, 2), (1, 3, 0)] (q := 39) (ls' := [(2, 1), (0, a), (0, b), (0, c), (2, v2), (2, v8)]) (st' := [(0, c), (2, v8), (2, v2), (2, 1)]) (by decide +kernel) rfl ?_
              refine zwW_cm C.1 (op := 60) (k' := 131) (n := 3) (kd := 12) (m := 13) (nx := 42) (r := 1) (tl := [(2, v2), (2, v8), (0, c)]) (st' := []) (by decide +kernel) rfl (by decide +kernel) rfl (x131_z h C v2 v8 c q Gv2 Gv8 (by omega) J a.toNat pv2 b.toNat pv8 V ok PF8 (by first | omega | exact ⟨by omega, by omega⟩)) ?_
              rintro v19 h20 ⟨Ch20, Qh20, f15, f16, f17, f18⟩
              have sv19 : v19 = yBarF q (yC h) a.toNat b.toNat c := by rw [f17]
              have Zh20 : yC h20 = (yC h) := (yC_fr C Qh20 (by decide +kernel) (C.1.b (a1 := 37) (a2 := 37) (j1 := 86) (j2 := 87) (lo := 0) (hi := 6) (by decide +kernel) (r := 37) (j := 86) (by decide) (by decide) (by decide) (by decide)).2).trans (rfl : yC h = yC h)
              have Xh20 : zXR msx39_z (0) (0) h h20 := X.tr (c2 := 0) (s2 := 0) Qh20 (by decide +kernel) (by decide) (by decide)
              have Gh20_0 : gH h20 v2 := Gv2.x Qh20
              have Gh20_1 : gL h20 v8 := Gv8.x Qh20
              have pv2_h20 : v2 = zv h20 3 a.toNat ∧ ((a.toNat : Nat) : Int) < fld h20 3 2 := zpv C Qh20 (A := 3) (by decide) (by decide +kernel) pv2
              have pv8_h20 : v8 = zv h20 4 b.toNat ∧ ((b.toNat : Nat) : Int) < fld h20 4 2 := zpv C Qh20 (A := 4) (by decide) (by decide +kernel) pv8
              have Vh20 : zRq q h20 := V.fr C Qh20 (by decide +kernel)
              refine zwW_ret (nx := 43) (a := 0) (b := 0) (by decide +kernel) rfl (Or.inl rfl) ?_
              exact ⟨Ch20, Xh20.le (by decide) (by decide), by omega, by unfold yBarA; (repeat' (first | rw [if_pos (by omega)] | rw [if_neg (by omega)])); all_goals (first | rfl | omega), by exact f18⟩
            · exfalso; omega
          · refine zwif_ne (q := 33) (nx := 31) (by decide +kernel) (fun c21 => ?_) (fun c21 => ?_)
            · exfalso; omega
            · refine zwW_p [(0, -1, 0)] (q := 32) (ls' := [(2, 1), (0, a), (0, b), (0, c), (2, v2), (2, v8)]) (st' := [(0, -1)]) (by decide +kernel) rfl ?_
              refine zwW_ret (nx := 33) (a := 0) (b := 0) (by decide +kernel) rfl (Or.inl rfl) ?_
              exact ⟨C, X.le (by decide) (by decide), by omega, by unfold yBarA; (repeat' (first | rw [if_neg (by omega)] | rw [if_pos (by omega)])); all_goals (first | rfl | omega), by exact J⟩
def msx41_z : Zms := [(5, 5, 0, 3), (17, 17, 0, 13), (18, 18, 0, 400), (34, 34, 1, 2), (1004, 1004, 6, 7), (1004, 1004, 14, 15), (1006, 1006, 6, 7)]
-- WheelLand.weave(III)I
theorem x41_z {sc : List Int} (h : Hp) (C : CI h) (a b c : Int) (q : qT) (q_a : -2147483648 ≤ a ∧ a ≤ 2147483647) (q_b : -2147483648 ≤ b ∧ b ≤ 2147483647) (q_c : -2147483648 ≤ c ∧ c ≤ 2147483647) (J : yR h) (V : zRq q h) (ok : yOK (yC h)) (PF8 : yF8 (yC h)) (hl : h.length ≤ 999930000) : zwC sc 7 41 [(2, 1), (0, a), (0, b), (0, c)] h (zwRt 0 (fun x g => CI g ∧ zXR msx41_z (2) (1006) h g ∧ (-2147483648 ≤ x ∧ x ≤ 2147483647) ∧ (x = yWvA q (yC h) a b c) ∧ (yC g = yWvF q (yC h) a b c) ∧ (yR g))) := by
  refine zwC_of (D := 6) 8 (by decide +kernel) rfl (ls := [(2, 1), (0, a), (0, b), (0, c), (9, 0), (9, 0), (9, 0), (9, 0)]) rfl ?_
  have X : zXR msx41_z 0 0 h h := zXR.rf _ _
  have u0 : yC h 37 0 = fld h 1 0 := rfl
  have u1 : yC h 37 1 = fld h 2 2 := rfl
  have u2 : yC h 37 2 = fld h 3 2 := rfl
  have u64 : yC h 37 64 = fld h 4 2 := rfl
  have u70 : yC h 37 70 = fld h 34 1 := rfl
  have u78 : yC h 37 78 = fld h 5 2 := rfl
  have b55 := zLb_5 C
  refine zwW_p [(1, 0, 2), (1, 1, 0)] (q := 2) (ls' := [(2, 1), (0, a), (0, b), (0, c), (9, 0), (9, 0), (9, 0), (9, 0)]) (st' := [(0, a), (2, 1)]) (by decide +kernel) rfl ?_
  refine zwW_cm C.1 (op := 60) (k' := 109) (n := 1) (kd := 12) (m := 13) (nx := 5) (r := 1) (tl := [(0, a)]) (st' := []) (by decide +kernel) rfl (by decide +kernel) rfl (x109 h C a (by omega)) ?_
  rintro v2 _ ⟨rfl, ⟨rfl, c1⟩ | ⟨Gv2, c1⟩⟩
  · refine zwW_p [(2, 4, 2), (1, 0, 2), (1, 2, 0)] (q := 9) (ls' := [(2, 1), (0, a), (0, b), (0, c), (2, 0), (9, 0), (9, 0), (9, 0)]) (st' := [(0, b), (2, 1)]) (by decide +kernel) rfl ?_
    refine zwW_cm C.1 (op := 60) (k' := 115) (n := 1) (kd := 12) (m := 13) (nx := 12) (r := 1) (tl := [(0, b)]) (st' := []) (by decide +kernel) rfl (by decide +kernel) rfl (x115 h C b (by omega)) ?_
    rintro v4 _ ⟨rfl, ⟨rfl, c3⟩ | ⟨Gv4, c3⟩⟩
    · refine zwW_p [(2, 5, 2), (1, 4, 2)] (q := 16) (ls' := [(2, 1), (0, a), (0, b), (0, c), (2, 0), (2, 0), (9, 0), (9, 0)]) (st' := [(2, 0)]) (by decide +kernel) rfl ?_
      refine zwnu_eq (q := 66) (nx := 19) (by decide +kernel) (by decide) (fun c5 => ?_) (fun c5 => ?_)
      · refine zwW_p [(0, -1, 0)] (q := 67) (ls' := [(2, 1), (0, a), (0, b), (0, c), (2, 0), (2, 0), (9, 0), (9, 0)]) (st' := [(0, -1)]) (by decide +kernel) rfl ?_
        refine zwW_ret (nx := 68) (a := 0) (b := 0) (by decide +kernel) rfl (Or.inl rfl) ?_
        exact ⟨C, X.le (by decide) (by decide), by omega, by unfold yWvA; (repeat' (first | rw [if_neg (by omega)] | rw [if_pos (by omega)])); all_goals (first | rfl | omega), by refine Eq.trans (rfl : yC h = yC h) ?_; unfold yWvF yWvS; (repeat' (first | rw [if_neg (by omega)] | rw [if_pos (by omega)])); all_goals (repeat' (first | rfl | apply zs_cg | omega)), by exact J⟩
      · exfalso; omega
    · have lv4 := Gv4.1
      have ev4 := c3.2.2
      have pv4 : v4 = zv h 4 b.toNat ∧ ((b.toNat : Nat) : Int) < fld h 4 2 := ⟨ev4, by omega⟩
      refine zwW_p [(2, 5, 2), (1, 4, 2)] (q := 16) (ls' := [(2, 1), (0, a), (0, b), (0, c), (2, 0), (2, v4), (9, 0), (9, 0)]) (st' := [(2, 0)]) (by decide +kernel) rfl ?_
      refine zwnu_eq (q := 66) (nx := 19) (by decide +kernel) (by decide) (fun c6 => ?_) (fun c6 => ?_)
      · refine zwW_p [(0, -1, 0)] (q := 67) (ls' := [(2, 1), (0, a), (0, b), (0, c), (2, 0), (2, v4), (9, 0), (9, 0)]) (st' := [(0, -1)]) (by decide +kernel) rfl ?_
        refine zwW_ret (nx := 68) (a := 0) (b := 0) (by decide +kernel) rfl (Or.inl rfl) ?_
        exact ⟨C, X.le (by decide) (by decide), by omega, by unfold yWvA; (repeat' (first | rw [if_neg (by omega)] | rw [if_pos (by omega)])); all_goals (first | rfl | omega), by refine Eq.trans (rfl : yC h = yC h) ?_; unfold yWvF yWvS; (repeat' (first | rw [if_neg (by omega)] | rw [if_pos (by omega)])); all_goals (repeat' (first | rfl | apply zs_cg | omega)), by exact J⟩
      · exfalso; omega
  · have lv2 := Gv2.1
    have ev2 := c1.2.2
    have pv2 : v2 = zv h 3 a.toNat ∧ ((a.toNat : Nat) : Int) < fld h 3 2 := ⟨ev2, by omega⟩
    refine zwW_p [(2, 4, 2), (1, 0, 2), (1, 2, 0)] (q := 9) (ls' := [(2, 1), (0, a), (0, b), (0, c), (2, v2), (9, 0), (9, 0), (9, 0)]) (st' := [(0, b), (2, 1)]) (by decide +kernel) rfl ?_
    refine zwW_cm C.1 (op := 60) (k' := 115) (n := 1) (kd := 12) (m := 13) (nx := 12) (r := 1) (tl := [(0, b)]) (st' := []) (by decide +kernel) rfl (by decide +kernel) rfl (x115 h C b (by omega)) ?_
    rintro v8 _ ⟨rfl, ⟨rfl, c7⟩ | ⟨Gv8, c7⟩⟩
    · refine zwW_p [(2, 5, 2), (1, 4, 2)] (q := 16) (ls' := [(2, 1), (0, a), (0, b), (0, c), (2, v2), (2, 0), (9, 0), (9, 0)]) (st' := [(2, v2)]) (by decide +kernel) rfl ?_
      refine zwnu_eq (q := 66) (nx := 19) (by decide +kernel) (by omega) (fun c9 => ?_) (fun c9 => ?_)
      · exfalso; omega
      · refine zwW_p [(1, 5, 2)] (q := 21) (ls' := [(2, 1), (0, a), (0, b), (0, c), (2, v2), (2, 0), (9, 0), (9, 0)]) (st' := [(2, 0)]) (by decide +kernel) rfl ?_
        refine zwnu_eq (q := 66) (nx := 24) (by decide +kernel) (by decide) (fun c10 => ?_) (fun c10 => ?_)
        · refine zwW_p [(0, -1, 0)] (q := 67) (ls' := [(2, 1), (0, a), (0, b), (0, c), (2, v2), (2, 0), (9, 0), (9, 0)]) (st' := [(0, -1)]) (by decide +kernel) rfl ?_
          refine zwW_ret (nx := 68) (a := 0) (b := 0) (by decide +kernel) rfl (Or.inl rfl) ?_
          exact ⟨C, X.le (by decide) (by decide), by omega, by unfold yWvA; (repeat' (first | rw [if_neg (by omega)] | rw [if_pos (by omega)])); all_goals (first | rfl | omega), by refine Eq.trans (rfl : yC h = yC h) ?_; unfold yWvF yWvS; (repeat' (first | rw [if_neg (by omega)] | rw [if_pos (by omega)])); all_goals (repeat' (first | rfl | apply zs_cg | omega)), by exact J⟩
        · exfalso; omega
    · have lv8 := Gv8.1
      have ev8 := c7.2.2
      have pv8 : v8 = zv h 4 b.toNat ∧ ((b.toNat : Nat) : Int) < fld h 4 2 := ⟨ev8, by omega⟩
      refine zwW_p [(2, 5, 2), (1, 4, 2)] (q := 16) (ls' := [(2, 1), (0, a), (0, b), (0, c), (2, v2), (2, v8), (9, 0), (9, 0)]) (st' := [(2, v2)]) (by decide +kernel) rfl ?_
      refine zwnu_eq (q := 66) (nx := 19) (by decide +kernel) (by omega) (fun c11 => ?_) (fun c11 => ?_)
      · exfalso; omega
      · refine zwW_p [(1, 5, 2)] (q := 21) (ls' := [(2, 1), (0, a), (0, b), (0, c), (2, v2), (2, v8), (9, 0), (9, 0)]) (st' := [(2, v8)]) (by decide +kernel) rfl ?_
        refine zwnu_eq (q := 66) (nx := 24) (by decide +kernel) (by omega) (fun c12 => ?_) (fun c12 => ?_)
        · exfalso; omega
        · refine zwW_p [(1, 3, 0)] (q := 25) (ls' := [(2, 1), (0, a), (0, b), (0, c), (2, v2), (2, v8), (9, 0), (9, 0)]) (st' := [(0, c)]) (by decide +kernel) rfl ?_
          refine zwW_cs (k' := 130) (n := 1) (nx := 28) (as := [(0, c)]) (st' := []) (by decide +kernel) rfl (x130_z h C c (by omega)) rfl ?_
          rintro x _ ⟨rfl, ⟨rfl, c13⟩ | ⟨rfl, c13⟩⟩
          · refine zwif_eq (q := 66) (nx := 31) (by decide +kernel) (fun c14 => ?_) (fun c14 => ?_)
            · exfalso; omega
            · refine zwW_p [(1, 0, 2)] (q := 32) (ls' := [(2, 1), (0, a), (0, b), (0, c), (2, v2), (2, v8), (9, 0), (9, 0)]) (st' := [(2, 1)]) (by decide +kernel) rfl ?_
              refine zwW_gc C.1 (kd := 12) (bn := 5) (n := 13) (c := 5) (nx := 35) (by decide +kernel) ?_
              refine zwW_cm C.1 (op := 60) (k' := 96) (n := 0) (kd := 0) (m := 3) (nx := 38) (r := 5) (tl := []) (st' := []) (by decide +kernel) rfl (by decide +kernel) rfl (x96_5 C) ?_
              rintro v15 _ ⟨rfl, ev15⟩
              have bv15 := zLb_5 C
              have sv15 : v15 = (yC h) 37 78 := Eq.trans ev15 (Eq.trans (Eq.symm (yC_s (h := h) (i := 78) rfl)) (Eq.trans (congrFun (congrFun (rfl : yC h = yC h) 37) 78) rfl))
              refine zwW_p [(0, 200, 0)] (q := 41) (ls' := [(2, 1), (0, a), (0, b), (0, c), (2, v2), (2, v8), (9, 0), (9, 0)]) (st' := [(0, 200), (0, v15)]) (by decide +kernel) rfl ?_
              refine zwic_ge (q := 66) (nx := 44) (by decide +kernel) (fun c16 => ?_) (fun c16 => ?_)
              · refine zwW_p [(0, -1, 0)] (q := 67) (ls' := [(2, 1), (0, a), (0, b), (0, c), (2, v2), (2, v8), (9, 0), (9, 0)]) (st' := [(0, -1)]) (by decide +kernel) rfl ?_
                refine zwW_ret (nx := 68) (a := 0) (b := 0) (by decide +kernel) rfl (Or.inl rfl) ?_
                exact ⟨C, X.le (by decide) (by decide), by omega, by unfold yWvA; (repeat' (first | rw [if_neg (by omega)] | rw [if_pos (by omega)])); all_goals (first | rfl | omega), by refine Eq.trans (rfl : yC h = yC h) ?_; unfold yWvF yWvS; (repeat' (first | rw [if_neg (by omega)] | rw [if_pos (by omega)])); all_goals (repeat' (first | rfl | apply zs_cg | omega)), by exact J⟩
              · refine zwW_p [(1, 0, 2)] (q := 45) (ls' := [(2, 1), (0, a), (0, b), (0, c), (2, v2), (2, v8), (9, 0), (9, 0)]) (st' := [(2, 1)]) (by decide +kernel) rfl ?_
                refine zwW_gs C.1 (kd := 12) (bn := 0) (n := 13) (t := 0) (lo := 0) (hi := 156) (nx := 48) (by decide +kernel) ?_
                intro v17 ev17 lv17 uv17
                have sv17 : v17 = (yC h) 37 0 := Eq.trans ev17 (Eq.trans (Eq.symm (yC_s (h := h) (i := 0) rfl)) (Eq.trans (congrFun (congrFun (rfl : yC h = yC h) 37) 0) rfl))
                refine zwW_p [(0, 156, 0)] (q := 51) (ls' := [(2, 1), (0, a), (0, b), (0, c), (2, v2), (2, v8), (9, 0), (9, 0)]) (st' := [(0, 156), (0, v17)]) (by decide +kernel) rfl ?_
                refine zwic_ge (q := 66) (nx := 54) (by decide +kernel) (fun c18 => ?_) (fun c18 => ?_)
                · refine zwW_p [(0, -1, 0)] (q := 67) (ls' := [(2, 1), (0, a), (0, b), (0, c), (2, v2), (2, v8), (9, 0), (9, 0)]) (st' := [(0, -1)]) (by decide +kernel) rfl ?_
                  refine zwW_ret (nx := 68) (a := 0) (b := 0) (by decide +kernel) rfl (Or.inl rfl) ?_
                  exact ⟨C, X.le (by decide) (by decide), by omega, by unfold yWvA; (repeat' (first | rw [if_neg (by omega)] | rw [if_pos (by omega)])); all_goals (first | rfl | omega), by refine Eq.trans (rfl : yC h = yC h) ?_; unfold yWvF yWvS; (repeat' (first | rw [if_neg (by omega)] | rw [if_pos (by omega)])); all_goals (repeat' (first | rfl | apply zs_cg | omega)), by exact J⟩
                · refine zwW_p [(1, 0, 2), (1, 4, 2), (1, 5, 2), (1, 3, 0)] (q := 60) (ls' := [(2, 1), (0, a), (0, b), (0, c), (2, v2), (2, v8), (9, 0), (9, 0)]) (st' := [(0, c), (2, v8), (2, v2), (2, 1)]) (by decide +kernel) rfl ?_
                  refine zwW_cm C.1 (op := 60) (k' := 131) (n := 3) (kd := 12) (m := 13) (nx := 63) (r := 1) (tl := [(2, v2), (2, v8), (0, c)]) (st' := []) (by decide +kernel) rfl (by decide +kernel) rfl (x131_z h C v2 v8 c q Gv2 Gv8 (by omega) J a.toNat pv2 b.toNat pv8 V ok PF8 (by first | omega | exact ⟨by omega, by omega⟩)) ?_
                  rintro v23 h24 ⟨Ch24, Qh24, f19, f20, f21, f22⟩
                  have sv23 : v23 = yBarF q (yC h) a.toNat b.toNat c := by rw [f21]
                  have Zh24 : yC h24 = (yC h) := (yC_fr C Qh24 (by decide +kernel) (C.1.b (a1 := 37) (a2 := 37) (j1 := 86) (j2 := 87) (lo := 0) (hi := 6) (by decide +kernel) (r := 37) (j := 86) (by decide) (by decide) (by decide) (by decide)).2).trans (rfl : yC h = yC h)
                  have Xh24 : zXR msx41_z (0) (0) h h24 := X.tr (c2 := 0) (s2 := 0) Qh24 (by decide +kernel) (by decide) (by decide)
                  have Gh24_0 : gH h24 v2 := Gv2.x Qh24
                  have Gh24_1 : gL h24 v8 := Gv8.x Qh24
                  have pv2_h24 : v2 = zv h24 3 a.toNat ∧ ((a.toNat : Nat) : Int) < fld h24 3 2 := zpv C Qh24 (A := 3) (by decide) (by decide +kernel) pv2
                  have pv8_h24 : v8 = zv h24 4 b.toNat ∧ ((b.toNat : Nat) : Int) < fld h24 4 2 := zpv C Qh24 (A := 4) (by decide) (by decide +kernel) pv8
                  have th24_5_2 : fld h24 5 2 = fld h 5 2 := Qh24.f (a1 := 5) (a2 := 5) (j1 := 2) (j2 := 3) (by decide +kernel) (by first | decide | exact ⟨by decide, by decide⟩) (by first | decide | exact ⟨by decide, by decide⟩) (by first | decide | exact ⟨by decide, by decide⟩)
                  have Vh24 : zRq q h24 := V.fr C Qh24 (by decide +kernel)
                  refine zwif_eq (q := 68) (nx := 66) (by decide +kernel) (fun c25 => ?_) (fun c25 => ?_)
                  · refine zwW_p [(1, 0, 2), (0, 1, 0), (1, 4, 2), (1, 5, 2), (1, 3, 0)] (q := 75) (ls' := [(2, 1), (0, a), (0, b), (0, c), (2, v2), (2, v8), (9, 0), (9, 0)]) (st' := [(0, c), (2, v8), (2, v2), (0, 1), (2, 1)]) (by decide +kernel) rfl ?_
                    refine zwW_cm Ch24.1 (op := 60) (k' := 134) (n := 4) (kd := 12) (m := 13) (nx := 78) (r := 1) (tl := [(0, 1), (2, v2), (2, v8), (0, c)]) (st' := []) (by decide +kernel) rfl (by decide +kernel) rfl (x134_z h24 Ch24 1 v2 v8 c q (by omega) Gh24_0 Gh24_1 (by omega) f22 a.toNat pv2_h24 b.toNat pv8_h24 Vh24 (by rw [Zh24]; exact ok) (by rw [Zh24]; exact PF8) (by first | decide | exact ⟨by decide, by decide⟩) (by first | omega | exact ⟨by omega, by omega⟩)) ?_
                    rintro v30 h31 ⟨Ch31, Qh31, f26, f27, f28, f29⟩
                    have sv30 : v30 = yWask q (yC h) 1 a.toNat b.toNat c := by rw [f28, Zh24]
                    have Zh31 : yC h31 = (yC h) := (yC_fr Ch24 Qh31 (by decide +kernel) (Ch24.1.b (a1 := 37) (a2 := 37) (j1 := 86) (j2 := 87) (lo := 0) (hi := 6) (by decide +kernel) (r := 37) (j := 86) (by decide) (by decide) (by decide) (by decide)).2).trans Zh24
                    have Xh31 : zXR msx41_z (0) (0) h h31 := Xh24.tr (c2 := 0) (s2 := 0) Qh31 (by decide +kernel) (by decide) (by decide)
                    have Gh31_0 : gH h31 v2 := Gh24_0.x Qh31
                    have Gh31_1 : gL h31 v8 := Gh24_1.x Qh31
                    have pv2_h31 : v2 = zv h31 3 a.toNat ∧ ((a.toNat : Nat) : Int) < fld h31 3 2 := zpv Ch24 Qh31 (A := 3) (by decide) (by decide +kernel) pv2_h24
                    have pv8_h31 : v8 = zv h31 4 b.toNat ∧ ((b.toNat : Nat) : Int) < fld h31 4 2 := zpv Ch24 Qh31 (A := 4) (by decide) (by decide +kernel) pv8_h24
                    have th31_5_2 : fld h31 5 2 = fld h24 5 2 := Qh31.f (a1 := 5) (a2 := 5) (j1 := 2) (j2 := 3) (by decide +kernel) (by first | decide | exact ⟨by decide, by decide⟩) (by first | decide | exact ⟨by decide, by decide⟩) (by first | decide | exact ⟨by decide, by decide⟩)
                    have Vh31 : zRq q h31 := Vh24.fr Ch24 Qh31 (by decide +kernel)
                    refine zwW_p [(0, 0, 0)] (q := 79) (ls' := [(2, 1), (0, a), (0, b), (0, c), (2, v2), (2, v8), (9, 0), (9, 0)]) (st' := [(0, 0), (0, v30)]) (by decide +kernel) rfl ?_
                    refine zwW_max (nx := 82) (by decide +kernel) rfl ?_
                    intro v32 ev32
                    have Ev32 : v32 = max (yWask q (yC h) 1 a.toNat b.toNat c) 0 := by rw [ev32, sv30]
                    refine zwW_p [(2, 6, 0), (1, 0, 2), (0, 4, 0), (1, 4, 2), (1, 5, 2), (1, 3, 0)] (q := 91) (ls' := [(2, 1), (0, a), (0, b), (0, c), (2, v2), (2, v8), (0, v32), (9, 0)]) (st' := [(0, c), (2, v8), (2, v2), (0, 4), (2, 1)]) (by decide +kernel) rfl ?_
                    refine zwW_cm Ch31.1 (op := 60) (k' := 134) (n := 4) (kd := 12) (m := 13) (nx := 94) (r := 1) (tl := [(0, 4), (2, v2), (2, v8), (0, c)]) (st' := []) (by decide +kernel) rfl (by decide +kernel) rfl (x134_z h31 Ch31 4 v2 v8 c q (by omega) Gh31_0 Gh31_1 (by omega) f29 a.toNat pv2_h31 b.toNat pv8_h31 Vh31 (by rw [Zh31]; exact ok) (by rw [Zh31]; exact PF8) (by first | decide | exact ⟨by decide, by decide⟩) (by first | omega | exact ⟨by omega, by omega⟩)) ?_
                    rintro v37 h38 ⟨Ch38, Qh38, f33, f34, f35, f36⟩
                    have sv37 : v37 = yWask q (yC h) 4 a.toNat b.toNat c := by rw [f35, Zh31]
                    have Zh38 : yC h38 = (yC h) := (yC_fr Ch31 Qh38 (by decide +kernel) (Ch31.1.b (a1 := 37) (a2 := 37) (j1 := 86) (j2 := 87) (lo := 0) (hi := 6) (by decide +kernel) (r := 37) (j := 86) (by decide) (by decide) (by decide) (by decide)).2).trans Zh31
                    have Xh38 : zXR msx41_z (0) (0) h h38 := Xh31.tr (c2 := 0) (s2 := 0) Qh38 (by decide +kernel) (by decide) (by decide)
                    have Gh38_0 : gH h38 v2 := Gh31_0.x Qh38
                    have Gh38_1 : gL h38 v8 := Gh31_1.x Qh38
                    have pv2_h38 : v2 = zv h38 3 a.toNat ∧ ((a.toNat : Nat) : Int) < fld h38 3 2 := zpv Ch31 Qh38 (A := 3) (by decide) (by decide +kernel) pv2_h31
                    have pv8_h38 : v8 = zv h38 4 b.toNat ∧ ((b.toNat : Nat) : Int) < fld h38 4 2 := zpv Ch31 Qh38 (A := 4) (by decide) (by decide +kernel) pv8_h31
                    have th38_5_2 : fld h38 5 2 = fld h31 5 2 := Qh38.f (a1 := 5) (a2 := 5) (j1 := 2) (j2 := 3) (by decide +kernel) (by first | decide | exact ⟨by decide, by decide⟩) (by first | decide | exact ⟨by decide, by decide⟩) (by first | decide | exact ⟨by decide, by decide⟩)
                    have Vh38 : zRq q h38 := Vh31.fr Ch31 Qh38 (by decide +kernel)
                    refine zwif_eq (q := 101) (nx := 97) (by decide +kernel) (fun c39 => ?_) (fun c39 => ?_)
                    · refine zwW_p [(0, 0, 0), (2, 7, 0), (1, 5, 2), (12, 0, 0)] (q := 107) (ls' := [(2, 1), (0, a), (0, b), (0, c), (2, v2), (2, v8), (0, v32), (0, 0)]) (st' := [(2, v8), (2, v8)]) (by decide +kernel) rfl ?_
                      refine zwX_gi Ch38 (kd := 6) (bn := 6) (n := 7) (nx := 110) (by decide +kernel) Gh38_1.2.1 Gh38_1.1 rfl ?_
                      intro v40 ev40 lv40 uv40
                      have sv40 : v40 = (yC h) 175 b.toNat := Eq.trans ev40 (Eq.trans (congrArg (fun q => fld h38 q 6) pv8_h38.1) (Eq.trans (Eq.symm (yC_f (h := h38) (a := 175) (A := 4) (j := 6) (i := b.toNat) rfl pv8_h38.2)) (Eq.trans (congrFun (congrFun Zh38 175) b.toNat) rfl)))
                      refine zwW_p [(1, 3, 0)] (q := 111) (ls' := [(2, 1), (0, a), (0, b), (0, c), (2, v2), (2, v8), (0, v32), (0, 0)]) (st' := [(0, c), (0, v40), (2, v8)]) (by decide +kernel) rfl ?_
                      refine zwW_sbw (nx := 112) (by decide +kernel) ?_
                      intro v41 ev41 lv41 uv41
                      have Ev41 : v41 = w32 (((yC h) 175 b.toNat) - c) := by rw [ev41, sv40]
                      refine zwX_pi Ch38 (kd := 6) (bn := 6) (n := 7) (nx := 115) (by decide +kernel) Gh38_1.2.1 Gh38_1.1 (by first | omega | exact ⟨by omega, by omega⟩) ?_
                      rintro h42 eh42 Ch42 Qh42
                      have Zh42 : yC h42 = (zs (yC h) 175 b.toNat (w32 (((yC h) 175 b.toNat) - c))) := by rw [yC_w (a := 175) (A := 4) (j := 6) (k := b.toNat) Ch38 f36 rfl pv8_h38 eh42, Zh38, Ev41]
                      have Xh42 : zXR msx41_z (0) (0) h h42 := Xh38.tr (c2 := 0) (s2 := 0) Qh42 (by decide +kernel) (by decide) (by decide)
                      have Gh42_0 : gH h42 v2 := Gh38_0.x Qh42
                      have Gh42_1 : gL h42 v8 := Gh38_1.x Qh42
                      have Jh42 : yR h42 := f36.fr Ch38 Qh42 (by decide +kernel)
                      have pv2_h42 : v2 = zv h42 3 a.toNat ∧ ((a.toNat : Nat) : Int) < fld h42 3 2 := zpv Ch38 Qh42 (A := 3) (by decide) (by decide +kernel) pv2_h38
                      have pv8_h42 : v8 = zv h42 4 b.toNat ∧ ((b.toNat : Nat) : Int) < fld h42 4 2 := zpv Ch38 Qh42 (A := 4) (by decide) (by decide +kernel) pv8_h38
                      have th42_5_2 : fld h42 5 2 = fld h38 5 2 := Qh42.f (a1 := 5) (a2 := 5) (j1 := 2) (j2 := 3) (by decide +kernel) (by first | decide | exact ⟨by decide, by decide⟩) (by first | decide | exact ⟨by decide, by decide⟩) (by first | decide | exact ⟨by decide, by decide⟩)
                      have Vh42 : zRq q h42 := Vh38.fr Ch38 Qh42 (by decide +kernel)
                      refine zwW_p [(1, 5, 2)] (q := 117) (ls' := [(2, 1), (0, a), (0, b), (0, c), (2, v2), (2, v8), (0, v32), (0, 0)]) (st' := [(2, v8)]) (by decide +kernel) rfl ?_
                      refine zwW_get (kd := 6) (bn := 1) (t := 2) (n := 7) (nx := 120) (by decide +kernel) Gh42_1.2.1 rfl ?_
                      obtain ⟨v43, ev43⟩ : ∃ z, z = fld h42 v8 1 := ⟨_, rfl⟩
                      rw [← ev43]
                      have Gv43 : gH h42 v43 := by rw [ev43]; exact Gh42_1.2.2
                      have lv43 := Gv43.1
                      have qv43 : yC h42 170 b.toNat = (yC h) 170 b.toNat := Eq.trans (congrFun (congrFun Zh42 170) b.toNat) (Eq.trans (zs_na (by decide) : (zs (yC h) 175 b.toNat (w32 (((yC h) 175 b.toNat) - c))) 170 b.toNat = (yC h) 170 b.toNat) rfl)
                      have wv43 := Jh42.r (a := 170) (A := 4) (j := 1) (B := 3) (i := b.toNat) rfl pv8_h42.2
                      rw [qv43] at wv43
                      have pv43 : v43 = zv h42 3 (((yC h) 170 b.toNat).toNat) ∧ ((((yC h) 170 b.toNat).toNat : Nat) : Int) < fld h42 3 2 := ⟨by rw [ev43, pv8_h42.1]; exact wv43.2.2, wv43.2.1⟩
                      refine zwW_p [(12, 0, 0)] (q := 121) (ls' := [(2, 1), (0, a), (0, b), (0, c), (2, v2), (2, v8), (0, v32), (0, 0)]) (st' := [(2, v43), (2, v43)]) (by decide +kernel) rfl ?_
                      refine zwX_gi Ch42 (kd := 4) (bn := 6) (n := 19) (nx := 124) (by decide +kernel) Gv43.2.1 Gv43.1 rfl ?_
                      intro v44 ev44 lv44 uv44
                      have sv44 : v44 = (yC h) 84 (((yC h) 170 b.toNat).toNat) := Eq.trans ev44 (Eq.trans (congrArg (fun q => fld h42 q 6) pv43.1) (Eq.trans (Eq.symm (yC_f (h := h42) (a := 84) (A := 3) (j := 6) (i := ((yC h) 170 b.toNat).toNat) rfl pv43.2)) (Eq.trans (congrFun (congrFun Zh42 84) (((yC h) 170 b.toNat).toNat)) (Eq.trans (zs_na (by decide) : (zs (yC h) 175 b.toNat (w32 (((yC h) 175 b.toNat) - c))) 84 (((yC h) 170 b.toNat).toNat) = (yC h) 84 (((yC h) 170 b.toNat).toNat)) rfl))))
                      refine zwW_p [(1, 6, 0)] (q := 126) (ls' := [(2, 1), (0, a), (0, b), (0, c), (2, v2), (2, v8), (0, v32), (0, 0)]) (st' := [(0, v32), (0, v44), (2, v43)]) (by decide +kernel) rfl ?_
                      refine zwW_sbw (nx := 127) (by decide +kernel) ?_
                      intro v45 ev45 lv45 uv45
                      have Ev45 : v45 = w32 (((yC h) 84 (((yC h) 170 b.toNat).toNat)) - (max (yWask q (yC h) 1 a.toNat b.toNat c) 0)) := by rw [ev45, sv44, Ev32]
                      refine zwX_pi Ch42 (kd := 4) (bn := 6) (n := 19) (nx := 130) (by decide +kernel) Gv43.2.1 Gv43.1 (by first | omega | exact ⟨by omega, by omega⟩) ?_
                      rintro h46 eh46 Ch46 Qh46
                      have Uh46 : yC h46 = (zs (zs (yC h) 175 b.toNat (w32 (((yC h) 175 b.toNat) - c))) 84 (((yC h) 170 b.toNat).toNat) (w32 (((yC h) 84 (((yC h) 170 b.toNat).toNat)) - (max (yWask q (yC h) 1 a.toNat b.toNat c) 0)))) := by rw [yC_w (a := 84) (A := 3) (j := 6) (k := ((yC h) 170 b.toNat).toNat) Ch42 Jh42 rfl pv43 eh46, Zh42, Ev45]
                      have Zh46 : yC h46 = (zs (zs (yC h) 84 (((yC h) 170 b.toNat).toNat) (w32 (((yC h) 84 (((yC h) 170 b.toNat).toNat)) - (max (yWask q (yC h) 1 a.toNat b.toNat c) 0)))) 175 b.toNat (w32 (((yC h) 175 b.toNat) - c))) := by rw [Uh46, zs_sw (a := 175) (b := 84) (by decide)]
                      have Xh46 : zXR msx41_z (0) (0) h h46 := Xh42.tr (c2 := 0) (s2 := 0) Qh46 (by decide +kernel) (by decide) (by decide)
                      have Gh46_0 : gH h46 v2 := Gh42_0.x Qh46
                      have Gh46_1 : gL h46 v8 := Gh42_1.x Qh46
                      have Jh46 : yR h46 := Jh42.fr Ch42 Qh46 (by decide +kernel)
                      have pv2_h46 : v2 = zv h46 3 a.toNat ∧ ((a.toNat : Nat) : Int) < fld h46 3 2 := zpv Ch42 Qh46 (A := 3) (by decide) (by decide +kernel) pv2_h42
                      have pv8_h46 : v8 = zv h46 4 b.toNat ∧ ((b.toNat : Nat) : Int) < fld h46 4 2 := zpv Ch42 Qh46 (A := 4) (by decide) (by decide +kernel) pv8_h42
                      have th46_5_2 : fld h46 5 2 = fld h42 5 2 := Qh46.f (a1 := 5) (a2 := 5) (j1 := 2) (j2 := 3) (by decide +kernel) (by first | decide | exact ⟨by decide, by decide⟩) (by first | decide | exact ⟨by decide, by decide⟩) (by first | decide | exact ⟨by decide, by decide⟩)
                      have Vh46 : zRq q h46 := Vh42.fr Ch42 Qh46 (by decide +kernel)
                      refine zwW_p [(1, 4, 2), (12, 0, 0)] (q := 133) (ls' := [(2, 1), (0, a), (0, b), (0, c), (2, v2), (2, v8), (0, v32), (0, 0)]) (st' := [(2, v2), (2, v2)]) (by decide +kernel) rfl ?_
                      refine zwX_gi Ch46 (kd := 4) (bn := 6) (n := 19) (nx := 136) (by decide +kernel) Gh46_0.2.1 Gh46_0.1 rfl ?_
                      intro v47 ev47 lv47 uv47
                      have sv47 : v47 = (zs (yC h) 84 (((yC h) 170 b.toNat).toNat) (w32 (((yC h) 84 (((yC h) 170 b.toNat).toNat)) - (max (yWask q (yC h) 1 a.toNat b.toNat c) 0)))) 84 a.toNat := Eq.trans ev47 (Eq.trans (congrArg (fun q => fld h46 q 6) pv2_h46.1) (Eq.trans (Eq.symm (yC_f (h := h46) (a := 84) (A := 3) (j := 6) (i := a.toNat) rfl pv2_h46.2)) (Eq.trans (congrFun (congrFun Zh46 84) a.toNat) (Eq.trans (zs_na (by decide) : (zs (zs (yC h) 84 (((yC h) 170 b.toNat).toNat) (w32 (((yC h) 84 (((yC h) 170 b.toNat).toNat)) - (max (yWask q (yC h) 1 a.toNat b.toNat c) 0)))) 175 b.toNat (w32 (((yC h) 175 b.toNat) - c))) 84 a.toNat = (zs (yC h) 84 (((yC h) 170 b.toNat).toNat) (w32 (((yC h) 84 (((yC h) 170 b.toNat).toNat)) - (max (yWask q (yC h) 1 a.toNat b.toNat c) 0)))) 84 a.toNat) rfl))))
                      refine zwW_p [(1, 6, 0)] (q := 138) (ls' := [(2, 1), (0, a), (0, b), (0, c), (2, v2), (2, v8), (0, v32), (0, 0)]) (st' := [(0, v32), (0, v47), (2, v2)]) (by decide +kernel) rfl ?_
                      refine zwW_adw (nx := 139) (by decide +kernel) ?_
                      intro v48 ev48 lv48 uv48
                      have Ev48 : v48 = w32 (((zs (yC h) 84 (((yC h) 170 b.toNat).toNat) (w32 (((yC h) 84 (((yC h) 170 b.toNat).toNat)) - (max (yWask q (yC h) 1 a.toNat b.toNat c) 0)))) 84 a.toNat) + (max (yWask q (yC h) 1 a.toNat b.toNat c) 0)) := by rw [ev48, sv47, Ev32]
                      refine zwX_pi Ch46 (kd := 4) (bn := 6) (n := 19) (nx := 142) (by decide +kernel) Gh46_0.2.1 Gh46_0.1 (by first | omega | exact ⟨by omega, by omega⟩) ?_
                      rintro h49 eh49 Ch49 Qh49
                      have Uh49 : yC h49 = (zs (zs (zs (yC h) 84 (((yC h) 170 b.toNat).toNat) (w32 (((yC h) 84 (((yC h) 170 b.toNat).toNat)) - (max (yWask q (yC h) 1 a.toNat b.toNat c) 0)))) 175 b.toNat (w32 (((yC h) 175 b.toNat) - c))) 84 a.toNat (w32 (((zs (yC h) 84 (((yC h) 170 b.toNat).toNat) (w32 (((yC h) 84 (((yC h) 170 b.toNat).toNat)) - (max (yWask q (yC h) 1 a.toNat b.toNat c) 0)))) 84 a.toNat) + (max (yWask q (yC h) 1 a.toNat b.toNat c) 0)))) := by rw [yC_w (a := 84) (A := 3) (j := 6) (k := a.toNat) Ch46 Jh46 rfl pv2_h46 eh49, Zh46, Ev48]
                      have Zh49 : yC h49 = (zs (zs (zs (yC h) 84 (((yC h) 170 b.toNat).toNat) (w32 (((yC h) 84 (((yC h) 170 b.toNat).toNat)) - (max (yWask q (yC h) 1 a.toNat b.toNat c) 0)))) 84 a.toNat (w32 (((zs (yC h) 84 (((yC h) 170 b.toNat).toNat) (w32 (((yC h) 84 (((yC h) 170 b.toNat).toNat)) - (max (yWask q (yC h) 1 a.toNat b.toNat c) 0)))) 84 a.toNat) + (max (yWask q (yC h) 1 a.toNat b.toNat c) 0)))) 175 b.toNat (w32 (((yC h) 175 b.toNat) - c))) := by rw [Uh49, zs_sw (a := 175) (b := 84) (by decide)]
                      have Xh49 : zXR msx41_z (0) (0) h h49 := Xh46.tr (c2 := 0) (s2 := 0) Qh49 (by decide +kernel) (by decide) (by decide)
                      have Gh49_0 : gH h49 v2 := Gh46_0.x Qh49
                      have Gh49_1 : gL h49 v8 := Gh46_1.x Qh49
                      have Jh49 : yR h49 := Jh46.fr Ch46 Qh49 (by decide +kernel)
                      have pv2_h49 : v2 = zv h49 3 a.toNat ∧ ((a.toNat : Nat) : Int) < fld h49 3 2 := zpv Ch46 Qh49 (A := 3) (by decide) (by decide +kernel) pv2_h46
                      have pv8_h49 : v8 = zv h49 4 b.toNat ∧ ((b.toNat : Nat) : Int) < fld h49 4 2 := zpv Ch46 Qh49 (A := 4) (by decide) (by decide +kernel) pv8_h46
                      have th49_5_2 : fld h49 5 2 = fld h46 5 2 := Qh49.f (a1 := 5) (a2 := 5) (j1 := 2) (j2 := 3) (by decide +kernel) (by first | decide | exact ⟨by decide, by decide⟩) (by first | decide | exact ⟨by decide, by decide⟩) (by first | decide | exact ⟨by decide, by decide⟩)
                      have Vh49 : zRq q h49 := Vh46.fr Ch46 Qh49 (by decide +kernel)
                      refine zwW_p [(1, 4, 2), (12, 0, 0)] (q := 145) (ls' := [(2, 1), (0, a), (0, b), (0, c), (2, v2), (2, v8), (0, v32), (0, 0)]) (st' := [(2, v2), (2, v2)]) (by decide +kernel) rfl ?_
                      refine zwX_gi Ch49 (kd := 4) (bn := 14) (n := 19) (nx := 148) (by decide +kernel) Gh49_0.2.1 Gh49_0.1 rfl ?_
                      intro v50 ev50 lv50 uv50
                      have sv50 : v50 = (yC h) 92 a.toNat := Eq.trans ev50 (Eq.trans (congrArg (fun q => fld h49 q 14) pv2_h49.1) (Eq.trans (Eq.symm (yC_f (h := h49) (a := 92) (A := 3) (j := 14) (i := a.toNat) rfl pv2_h49.2)) (Eq.trans (congrFun (congrFun Zh49 92) a.toNat) (Eq.trans (zs_na (by decide) : (zs (zs (zs (yC h) 84 (((yC h) 170 b.toNat).toNat) (w32 (((yC h) 84 (((yC h) 170 b.toNat).toNat)) - (max (yWask q (yC h) 1 a.toNat b.toNat c) 0)))) 84 a.toNat (w32 (((zs (yC h) 84 (((yC h) 170 b.toNat).toNat) (w32 (((yC h) 84 (((yC h) 170 b.toNat).toNat)) - (max (yWask q (yC h) 1 a.toNat b.toNat c) 0)))) 84 a.toNat) + (max (yWask q (yC h) 1 a.toNat b.toNat c) 0)))) 175 b.toNat (w32 (((yC h) 175 b.toNat) - c))) 92 a.toNat = (zs (zs (yC h) 84 (((yC h) 170 b.toNat).toNat) (w32 (((yC h) 84 (((yC h) 170 b.toNat).toNat)) - (max (yWask q (yC h) 1 a.toNat b.toNat c) 0)))) 84 a.toNat (w32 (((zs (yC h) 84 (((yC h) 170 b.toNat).toNat) (w32 (((yC h) 84 (((yC h) 170 b.toNat).toNat)) - (max (yWask q (yC h) 1 a.toNat b.toNat c) 0)))) 84 a.toNat) + (max (yWask q (yC h) 1 a.toNat b.toNat c) 0)))) 92 a.toNat) (Eq.trans (zs_na (by decide) : (zs (zs (yC h) 84 (((yC h) 170 b.toNat).toNat) (w32 (((yC h) 84 (((yC h) 170 b.toNat).toNat)) - (max (yWask q (yC h) 1 a.toNat b.toNat c) 0)))) 84 a.toNat (w32 (((zs (yC h) 84 (((yC h) 170 b.toNat).toNat) (w32 (((yC h) 84 (((yC h) 170 b.toNat).toNat)) - (max (yWask q (yC h) 1 a.toNat b.toNat c) 0)))) 84 a.toNat) + (max (yWask q (yC h) 1 a.toNat b.toNat c) 0)))) 92 a.toNat = (zs (yC h) 84 (((yC h) 170 b.toNat).toNat) (w32 (((yC h) 84 (((yC h) 170 b.toNat).toNat)) - (max (yWask q (yC h) 1 a.toNat b.toNat c) 0)))) 92 a.toNat) (Eq.trans (zs_na (by decide) : (zs (yC h) 84 (((yC h) 170 b.toNat).toNat) (w32 (((yC h) 84 (((yC h) 170 b.toNat).toNat)) - (max (yWask q (yC h) 1 a.toNat b.toNat c) 0)))) 92 a.toNat = (yC h) 92 a.toNat) rfl))))))
                      refine zwW_p [(1, 3, 0)] (q := 149) (ls' := [(2, 1), (0, a), (0, b), (0, c), (2, v2), (2, v8), (0, v32), (0, 0)]) (st' := [(0, c), (0, v50), (2, v2)]) (by decide +kernel) rfl ?_
                      refine zwW_adw (nx := 150) (by decide +kernel) ?_
                      intro v51 ev51 lv51 uv51
                      have Ev51 : v51 = w32 (((yC h) 92 a.toNat) + c) := by rw [ev51, sv50]
                      refine zwX_pi Ch49 (kd := 4) (bn := 14) (n := 19) (nx := 153) (by decide +kernel) Gh49_0.2.1 Gh49_0.1 (by first | omega | exact ⟨by omega, by omega⟩) ?_
                      rintro h52 eh52 Ch52 Qh52
                      have Uh52 : yC h52 = (zs (zs (zs (zs (yC h) 84 (((yC h) 170 b.toNat).toNat) (w32 (((yC h) 84 (((yC h) 170 b.toNat).toNat)) - (max (yWask q (yC h) 1 a.toNat b.toNat c) 0)))) 84 a.toNat (w32 (((zs (yC h) 84 (((yC h) 170 b.toNat).toNat) (w32 (((yC h) 84 (((yC h) 170 b.toNat).toNat)) - (max (yWask q (yC h) 1 a.toNat b.toNat c) 0)))) 84 a.toNat) + (max (yWask q (yC h) 1 a.toNat b.toNat c) 0)))) 175 b.toNat (w32 (((yC h) 175 b.toNat) - c))) 92 a.toNat (w32 (((yC h) 92 a.toNat) + c))) := by rw [yC_w (a := 92) (A := 3) (j := 14) (k := a.toNat) Ch49 Jh49 rfl pv2_h49 eh52, Zh49, Ev51]
                      have Zh52 : yC h52 = (zs (zs (zs (zs (yC h) 84 (((yC h) 170 b.toNat).toNat) (w32 (((yC h) 84 (((yC h) 170 b.toNat).toNat)) - (max (yWask q (yC h) 1 a.toNat b.toNat c) 0)))) 84 a.toNat (w32 (((zs (yC h) 84 (((yC h) 170 b.toNat).toNat) (w32 (((yC h) 84 (((yC h) 170 b.toNat).toNat)) - (max (yWask q (yC h) 1 a.toNat b.toNat c) 0)))) 84 a.toNat) + (max (yWask q (yC h) 1 a.toNat b.toNat c) 0)))) 92 a.toNat (w32 (((yC h) 92 a.toNat) + c))) 175 b.toNat (w32 (((yC h) 175 b.toNat) - c))) := by rw [Uh52, zs_sw (a := 175) (b := 92) (by decide)]
                      have Xh52 : zXR msx41_z (0) (0) h h52 := Xh49.tr (c2 := 0) (s2 := 0) Qh52 (by decide +kernel) (by decide) (by decide)
                      have Gh52_0 : gH h52 v2 := Gh49_0.x Qh52
                      have Gh52_1 : gL h52 v8 := Gh49_1.x Qh52
                      have Jh52 : yR h52 := Jh49.fr Ch49 Qh52 (by decide +kernel)
                      have pv2_h52 : v2 = zv h52 3 a.toNat ∧ ((a.toNat : Nat) : Int) < fld h52 3 2 := zpv Ch49 Qh52 (A := 3) (by decide) (by decide +kernel) pv2_h49
                      have pv8_h52 : v8 = zv h52 4 b.toNat ∧ ((b.toNat : Nat) : Int) < fld h52 4 2 := zpv Ch49 Qh52 (A := 4) (by decide) (by decide +kernel) pv8_h49
                      have th52_5_2 : fld h52 5 2 = fld h49 5 2 := Qh52.f (a1 := 5) (a2 := 5) (j1 := 2) (j2 := 3) (by decide +kernel) (by first | decide | exact ⟨by decide, by decide⟩) (by first | decide | exact ⟨by decide, by decide⟩) (by first | decide | exact ⟨by decide, by decide⟩)
                      have Vh52 : zRq q h52 := Vh49.fr Ch49 Qh52 (by decide +kernel)
                      refine zwW_p [(1, 0, 2)] (q := 154) (ls' := [(2, 1), (0, a), (0, b), (0, c), (2, v2), (2, v8), (0, v32), (0, 0)]) (st' := [(2, 1)]) (by decide +kernel) rfl ?_
                      refine zwW_gc Ch52.1 (kd := 12) (bn := 11) (n := 13) (c := 34) (nx := 157) (by decide +kernel) ?_
                      refine zwW_p [(12, 0, 0)] (q := 158) (ls' := [(2, 1), (0, a), (0, b), (0, c), (2, v2), (2, v8), (0, v32), (0, 0)]) (st' := [(2, 34), (2, 34)]) (by decide +kernel) rfl ?_
                      refine zwW_gs Ch52.1 (kd := 5) (bn := 1) (n := 4) (t := 0) (lo := -2147483648) (hi := 2147483647) (nx := 161) (by decide +kernel) ?_
                      intro v53 ev53 lv53 uv53
                      have sv53 : v53 = (yC h) 37 70 := Eq.trans ev53 (Eq.trans (Eq.symm (yC_s (h := h52) (i := 70) rfl)) (Eq.trans (congrFun (congrFun Zh52 37) 70) (Eq.trans (zs_na (by decide) : (zs (zs (zs (zs (yC h) 84 (((yC h) 170 b.toNat).toNat) (w32 (((yC h) 84 (((yC h) 170 b.toNat).toNat)) - (max (yWask q (yC h) 1 a.toNat b.toNat c) 0)))) 84 a.toNat (w32 (((zs (yC h) 84 (((yC h) 170 b.toNat).toNat) (w32 (((yC h) 84 (((yC h) 170 b.toNat).toNat)) - (max (yWask q (yC h) 1 a.toNat b.toNat c) 0)))) 84 a.toNat) + (max (yWask q (yC h) 1 a.toNat b.toNat c) 0)))) 92 a.toNat (w32 (((yC h) 92 a.toNat) + c))) 175 b.toNat (w32 (((yC h) 175 b.toNat) - c))) 37 70 = (zs (zs (zs (yC h) 84 (((yC h) 170 b.toNat).toNat) (w32 (((yC h) 84 (((yC h) 170 b.toNat).toNat)) - (max (yWask q (yC h) 1 a.toNat b.toNat c) 0)))) 84 a.toNat (w32 (((zs (yC h) 84 (((yC h) 170 b.toNat).toNat) (w32 (((yC h) 84 (((yC h) 170 b.toNat).toNat)) - (max (yWask q (yC h) 1 a.toNat b.toNat c) 0)))) 84 a.toNat) + (max (yWask q (yC h) 1 a.toNat b.toNat c) 0)))) 92 a.toNat (w32 (((yC h) 92 a.toNat) + c))) 37 70) (Eq.trans (zs_na (by decide) : (zs (zs (zs (yC h) 84 (((yC h) 170 b.toNat).toNat) (w32 (((yC h) 84 (((yC h) 170 b.toNat).toNat)) - (max (yWask q (yC h) 1 a.toNat b.toNat c) 0)))) 84 a.toNat (w32 (((zs (yC h) 84 (((yC h) 170 b.toNat).toNat) (w32 (((yC h) 84 (((yC h) 170 b.toNat).toNat)) - (max (yWask q (yC h) 1 a.toNat b.toNat c) 0)))) 84 a.toNat) + (max (yWask q (yC h) 1 a.toNat b.toNat c) 0)))) 92 a.toNat (w32 (((yC h) 92 a.toNat) + c))) 37 70 = (zs (zs (yC h) 84 (((yC h) 170 b.toNat).toNat) (w32 (((yC h) 84 (((yC h) 170 b.toNat).toNat)) - (max (yWask q (yC h) 1 a.toNat b.toNat c) 0)))) 84 a.toNat (w32 (((zs (yC h) 84 (((yC h) 170 b.toNat).toNat) (w32 (((yC h) 84 (((yC h) 170 b.toNat).toNat)) - (max (yWask q (yC h) 1 a.toNat b.toNat c) 0)))) 84 a.toNat) + (max (yWask q (yC h) 1 a.toNat b.toNat c) 0)))) 37 70) (Eq.trans (zs_na (by decide) : (zs (zs (yC h) 84 (((yC h) 170 b.toNat).toNat) (w32 (((yC h) 84 (((yC h) 170 b.toNat).toNat)) - (max (yWask q (yC h) 1 a.toNat b.toNat c) 0)))) 84 a.toNat (w32 (((zs (yC h) 84 (((yC h) 170 b.toNat).toNat) (w32 (((yC h) 84 (((yC h) 170 b.toNat).toNat)) - (max (yWask q (yC h) 1 a.toNat b.toNat c) 0)))) 84 a.toNat) + (max (yWask q (yC h) 1 a.toNat b.toNat c) 0)))) 37 70 = (zs (yC h) 84 (((yC h) 170 b.toNat).toNat) (w32 (((yC h) 84 (((yC h) 170 b.toNat).toNat)) - (max (yWask q (yC h) 1 a.toNat b.toNat c) 0)))) 37 70) (Eq.trans (zs_na (by decide) : (zs (yC h) 84 (((yC h) 170 b.toNat).toNat) (w32 (((yC h) 84 (((yC h) 170 b.toNat).toNat)) - (max (yWask q (yC h) 1 a.toNat b.toNat c) 0)))) 37 70 = (yC h) 37 70) rfl))))))
                      refine zwW_p [(1, 3, 0)] (q := 162) (ls' := [(2, 1), (0, a), (0, b), (0, c), (2, v2), (2, v8), (0, v32), (0, 0)]) (st' := [(0, c), (0, v53), (2, 34)]) (by decide +kernel) rfl ?_
                      refine zwW_adw (nx := 163) (by decide +kernel) ?_
                      intro v54 ev54 lv54 uv54
                      have Ev54 : v54 = w32 (((yC h) 37 70) + c) := by rw [ev54, sv53]
                      refine zwW_ps Ch52.1 (kd := 5) (bn := 1) (n := 4) (lo := -2147483648) (hi := 2147483647) (nx := 166) (by decide +kernel) (by first | omega | exact ⟨by omega, by omega⟩) ?_
                      intro h55 eh55 Ih55
                      have Ch55 : CI h55 := Ch52.wc eh55 Ih55 (by decide) (by decide)
                      have Qh55 : zXR [(34, 34, 1, 2)] 0 0 h52 h55 := zXR.wc eh55 rfl ⟨by decide, by decide, Or.inl (by decide)⟩ (by first | decide | exact ⟨by decide, by decide⟩)
                      have Zh55 : yC h55 = (zs (zs (zs (zs (zs (yC h) 84 (((yC h) 170 b.toNat).toNat) (w32 (((yC h) 84 (((yC h) 170 b.toNat).toNat)) - (max (yWask q (yC h) 1 a.toNat b.toNat c) 0)))) 84 a.toNat (w32 (((zs (yC h) 84 (((yC h) 170 b.toNat).toNat) (w32 (((yC h) 84 (((yC h) 170 b.toNat).toNat)) - (max (yWask q (yC h) 1 a.toNat b.toNat c) 0)))) 84 a.toNat) + (max (yWask q (yC h) 1 a.toNat b.toNat c) 0)))) 92 a.toNat (w32 (((yC h) 92 a.toNat) + c))) 175 b.toNat (w32 (((yC h) 175 b.toNat) - c))) 37 70 (w32 (((yC h) 37 70) + c))) := by rw [yC_ws (q := 70) (r := 34) (j := 1) (kd := 5) (n := 4) rfl (Ch52.1.s (a1 := 34) (a2 := 34) (by decide +kernel) (by decide) (by decide)) (by decide) Ch52 eh55, Zh52, Ev54]
                      have Xh55 : zXR msx41_z (0) (0) h h55 := Xh52.tr (c2 := 0) (s2 := 0) Qh55 (by decide +kernel) (by decide) (by decide)
                      have Gh55_0 : gH h55 v2 := Gh52_0.x Qh55
                      have Gh55_1 : gL h55 v8 := Gh52_1.x Qh55
                      have Jh55 : yR h55 := Jh52.fr Ch52 Qh55 (by decide +kernel)
                      have pv2_h55 : v2 = zv h55 3 a.toNat ∧ ((a.toNat : Nat) : Int) < fld h55 3 2 := zpv Ch52 Qh55 (A := 3) (by decide) (by decide +kernel) pv2_h52
                      have pv8_h55 : v8 = zv h55 4 b.toNat ∧ ((b.toNat : Nat) : Int) < fld h55 4 2 := zpv Ch52 Qh55 (A := 4) (by decide) (by decide +kernel) pv8_h52
                      have th55_5_2 : fld h55 5 2 = fld h52 5 2 := Qh55.f (a1 := 5) (a2 := 5) (j1 := 2) (j2 := 3) (by decide +kernel) (by first | decide | exact ⟨by decide, by decide⟩) (by first | decide | exact ⟨by decide, by decide⟩) (by first | decide | exact ⟨by decide, by decide⟩)
                      have Vh55 : zRq q h55 := Vh52.fr Ch52 Qh55 (by decide +kernel)
                      refine zwW_p [(1, 0, 2)] (q := 167) (ls' := [(2, 1), (0, a), (0, b), (0, c), (2, v2), (2, v8), (0, v32), (0, 0)]) (st' := [(2, 1)]) (by decide +kernel) rfl ?_
                      refine zwW_gc Ch55.1 (kd := 12) (bn := 5) (n := 13) (c := 5) (nx := 170) (by decide +kernel) ?_
                      refine zwW_new (kd := 1) (n := 6) (nx := 173) (by decide +kernel) rfl rfl ?_
                      rintro h56 r57 eh56 er57
                      have Oh56 : zOld h55 h56 := by rw [eh56]; exact zOld.app _
                      have Yh56 : zDy h56 := by rw [eh56]; exact Ch55.2.1.app (fun x hx => by rw [List.eq_of_mem_replicate hx]; decide)
                      have Ch56 : CI h56 := Ch55.old Oh56 Yh56
                      have Xh56 := Oh56.X Ch55
                      have th56_5_2 : fld h56 5 2 = fld h55 5 2 := Xh56.f (a1 := 5) (a2 := 5) (j1 := 2) (j2 := 3) (by decide +kernel) (by first | decide | exact ⟨by decide, by decide⟩) (by first | decide | exact ⟨by decide, by decide⟩) (by first | decide | exact ⟨by decide, by decide⟩)
                      have Gh56_0 : gH h56 v2 := Gh55_0.x Xh56
                      have Gh56_1 : gL h56 v8 := Gh55_1.x Xh56
                      have Zh56 : yC h56 = (zs (zs (zs (zs (zs (yC h) 84 (((yC h) 170 b.toNat).toNat) (w32 (((yC h) 84 (((yC h) 170 b.toNat).toNat)) - (max (yWask q (yC h) 1 a.toNat b.toNat c) 0)))) 84 a.toNat (w32 (((zs (yC h) 84 (((yC h) 170 b.toNat).toNat) (w32 (((yC h) 84 (((yC h) 170 b.toNat).toNat)) - (max (yWask q (yC h) 1 a.toNat b.toNat c) 0)))) 84 a.toNat) + (max (yWask q (yC h) 1 a.toNat b.toNat c) 0)))) 92 a.toNat (w32 (((yC h) 92 a.toNat) + c))) 175 b.toNat (w32 (((yC h) 175 b.toNat) - c))) 37 70 (w32 (((yC h) 37 70) + c))) := (yC_fr Ch55 Xh56 (by decide +kernel) (Ch55.1.b (a1 := 37) (a2 := 37) (j1 := 86) (j2 := 87) (lo := 0) (hi := 6) (by decide +kernel) (r := 37) (j := 86) (by decide) (by decide) (by decide) (by decide)).2).trans Zh55
                      refine zwW_p [(12, 0, 0), (1, 5, 2), (1, 4, 2), (1, 0, 2)] (q := 179) (ls' := [(2, 1), (0, a), (0, b), (0, c), (2, v2), (2, v8), (0, v32), (0, 0)]) (st' := [(2, 1), (2, v2), (2, v8), (2, r57), (2, r57), (2, 5)]) (by decide +kernel) rfl ?_
                      refine zwW_gs Ch56.1 (kd := 12) (bn := 0) (n := 13) (t := 0) (lo := 0) (hi := 156) (nx := 182) (by decide +kernel) ?_
                      intro v58 ev58 lv58 uv58
                      have sv58 : v58 = (yC h) 37 0 := Eq.trans ev58 (Eq.trans (Eq.symm (yC_s (h := h56) (i := 0) rfl)) (Eq.trans (congrFun (congrFun Zh56 37) 0) (Eq.trans (zs_ni (by decide) : (zs (zs (zs (zs (zs (yC h) 84 (((yC h) 170 b.toNat).toNat) (w32 (((yC h) 84 (((yC h) 170 b.toNat).toNat)) - (max (yWask q (yC h) 1 a.toNat b.toNat c) 0)))) 84 a.toNat (w32 (((zs (yC h) 84 (((yC h) 170 b.toNat).toNat) (w32 (((yC h) 84 (((yC h) 170 b.toNat).toNat)) - (max (yWask q (yC h) 1 a.toNat b.toNat c) 0)))) 84 a.toNat) + (max (yWask q (yC h) 1 a.toNat b.toNat c) 0)))) 92 a.toNat (w32 (((yC h) 92 a.toNat) + c))) 175 b.toNat (w32 (((yC h) 175 b.toNat) - c))) 37 70 (w32 (((yC h) 37 70) + c))) 37 0 = (zs (zs (zs (zs (yC h) 84 (((yC h) 170 b.toNat).toNat) (w32 (((yC h) 84 (((yC h) 170 b.toNat).toNat)) - (max (yWask q (yC h) 1 a.toNat b.toNat c) 0)))) 84 a.toNat (w32 (((zs (yC h) 84 (((yC h) 170 b.toNat).toNat) (w32 (((yC h) 84 (((yC h) 170 b.toNat).toNat)) - (max (yWask q (yC h) 1 a.toNat b.toNat c) 0)))) 84 a.toNat) + (max (yWask q (yC h) 1 a.toNat b.toNat c) 0)))) 92 a.toNat (w32 (((yC h) 92 a.toNat) + c))) 175 b.toNat (w32 (((yC h) 175 b.toNat) - c))) 37 0) (Eq.trans (zs_na (by decide) : (zs (zs (zs (zs (yC h) 84 (((yC h) 170 b.toNat).toNat) (w32 (((yC h) 84 (((yC h) 170 b.toNat).toNat)) - (max (yWask q (yC h) 1 a.toNat b.toNat c) 0)))) 84 a.toNat (w32 (((zs (yC h) 84 (((yC h) 170 b.toNat).toNat) (w32 (((yC h) 84 (((yC h) 170 b.toNat).toNat)) - (max (yWask q (yC h) 1 a.toNat b.toNat c) 0)))) 84 a.toNat) + (max (yWask q (yC h) 1 a.toNat b.toNat c) 0)))) 92 a.toNat (w32 (((yC h) 92 a.toNat) + c))) 175 b.toNat (w32 (((yC h) 175 b.toNat) - c))) 37 0 = (zs (zs (zs (yC h) 84 (((yC h) 170 b.toNat).toNat) (w32 (((yC h) 84 (((yC h) 170 b.toNat).toNat)) - (max (yWask q (yC h) 1 a.toNat b.toNat c) 0)))) 84 a.toNat (w32 (((zs (yC h) 84 (((yC h) 170 b.toNat).toNat) (w32 (((yC h) 84 (((yC h) 170 b.toNat).toNat)) - (max (yWask q (yC h) 1 a.toNat b.toNat c) 0)))) 84 a.toNat) + (max (yWask q (yC h) 1 a.toNat b.toNat c) 0)))) 92 a.toNat (w32 (((yC h) 92 a.toNat) + c))) 37 0) (Eq.trans (zs_na (by decide) : (zs (zs (zs (yC h) 84 (((yC h) 170 b.toNat).toNat) (w32 (((yC h) 84 (((yC h) 170 b.toNat).toNat)) - (max (yWask q (yC h) 1 a.toNat b.toNat c) 0)))) 84 a.toNat (w32 (((zs (yC h) 84 (((yC h) 170 b.toNat).toNat) (w32 (((yC h) 84 (((yC h) 170 b.toNat).toNat)) - (max (yWask q (yC h) 1 a.toNat b.toNat c) 0)))) 84 a.toNat) + (max (yWask q (yC h) 1 a.toNat b.toNat c) 0)))) 92 a.toNat (w32 (((yC h) 92 a.toNat) + c))) 37 0 = (zs (zs (yC h) 84 (((yC h) 170 b.toNat).toNat) (w32 (((yC h) 84 (((yC h) 170 b.toNat).toNat)) - (max (yWask q (yC h) 1 a.toNat b.toNat c) 0)))) 84 a.toNat (w32 (((zs (yC h) 84 (((yC h) 170 b.toNat).toNat) (w32 (((yC h) 84 (((yC h) 170 b.toNat).toNat)) - (max (yWask q (yC h) 1 a.toNat b.toNat c) 0)))) 84 a.toNat) + (max (yWask q (yC h) 1 a.toNat b.toNat c) 0)))) 37 0) (Eq.trans (zs_na (by decide) : (zs (zs (yC h) 84 (((yC h) 170 b.toNat).toNat) (w32 (((yC h) 84 (((yC h) 170 b.toNat).toNat)) - (max (yWask q (yC h) 1 a.toNat b.toNat c) 0)))) 84 a.toNat (w32 (((zs (yC h) 84 (((yC h) 170 b.toNat).toNat) (w32 (((yC h) 84 (((yC h) 170 b.toNat).toNat)) - (max (yWask q (yC h) 1 a.toNat b.toNat c) 0)))) 84 a.toNat) + (max (yWask q (yC h) 1 a.toNat b.toNat c) 0)))) 37 0 = (zs (yC h) 84 (((yC h) 170 b.toNat).toNat) (w32 (((yC h) 84 (((yC h) 170 b.toNat).toNat)) - (max (yWask q (yC h) 1 a.toNat b.toNat c) 0)))) 37 0) (Eq.trans (zs_na (by decide) : (zs (yC h) 84 (((yC h) 170 b.toNat).toNat) (w32 (((yC h) 84 (((yC h) 170 b.toNat).toNat)) - (max (yWask q (yC h) 1 a.toNat b.toNat c) 0)))) 37 0 = (yC h) 37 0) rfl)))))))
                      refine zwW_p [(1, 3, 0), (0, 2, 0)] (q := 184) (ls' := [(2, 1), (0, a), (0, b), (0, c), (2, v2), (2, v8), (0, v32), (0, 0)]) (st' := [(0, 2), (0, c), (0, v58), (2, v2), (2, v8), (2, r57), (2, r57), (2, 5)]) (by decide +kernel) rfl ?_
                      refine zwW_div (nx := 185) (by decide +kernel) (by omega) (by omega) (by omega) ?_
                      refine zwW_p [(1, 7, 0)] (q := 187) (ls' := [(2, 1), (0, a), (0, b), (0, c), (2, v2), (2, v8), (0, v32), (0, 0)]) (st' := [(0, 0), (0, (c / 2)), (0, v58), (2, v2), (2, v8), (2, r57), (2, r57), (2, 5)]) (by decide +kernel) rfl ?_
                      subst er57 eh56
                      refine zwW_cvv (op := 62) (k' := 135) (n := 5) (kd := 1) (m := 6) (nx := 190) (r := ((h55.length + 1 : Nat) : Int)) (tl := [(2, v8), (2, v2), (0, v58), (0, (c / 2)), (0, 0)]) (st' := [(2, ((h55.length + 1 : Nat) : Int)), (2, 5)]) (by decide +kernel) rfl (by decide +kernel) (sh_new _ _) (x135 h55 Ch55 v8 v2 v58 (c / 2) 0 (by omega) (by omega) Gh55_1 Gh55_0 (by omega)) rfl ?_
                      rintro h59 ⟨Ch59, Qh59, Nh59, Fh59_0⟩
                      obtain ⟨nr57, err57⟩ : ∃ z, z = ((h55.length + 1 : Nat) : Int) := ⟨_, rfl⟩
                      rw [← err57] at Nh59 ⊢
                      try rw [← err57] at Fh59_0
                      have Xh59 : zXR msx41_z (1) (6) h h59 := Xh55.tr (c2 := 1) (s2 := 6) Qh59 (by decide +kernel) (by decide) (by decide)
                      have Gh59_0 : gH h59 v2 := Gh55_0.x Qh59
                      have Gh59_1 : gL h59 v8 := Gh55_1.x Qh59
                      have Zh59 : yC h59 = (zs (zs (zs (zs (zs (yC h) 84 (((yC h) 170 b.toNat).toNat) (w32 (((yC h) 84 (((yC h) 170 b.toNat).toNat)) - (max (yWask q (yC h) 1 a.toNat b.toNat c) 0)))) 84 a.toNat (w32 (((zs (yC h) 84 (((yC h) 170 b.toNat).toNat) (w32 (((yC h) 84 (((yC h) 170 b.toNat).toNat)) - (max (yWask q (yC h) 1 a.toNat b.toNat c) 0)))) 84 a.toNat) + (max (yWask q (yC h) 1 a.toNat b.toNat c) 0)))) 92 a.toNat (w32 (((yC h) 92 a.toNat) + c))) 175 b.toNat (w32 (((yC h) 175 b.toNat) - c))) 37 70 (w32 (((yC h) 37 70) + c))) := (yC_fr Ch55 Qh59 (by decide +kernel) (Ch55.1.b (a1 := 37) (a2 := 37) (j1 := 86) (j2 := 87) (lo := 0) (hi := 6) (by decide +kernel) (r := 37) (j := 86) (by decide) (by decide) (by decide) (by decide)).2).trans Zh55
                      have Jh59 : yR h59 := Jh55.fr Ch55 Qh59 (by decide +kernel)
                      have pv2_h59 : v2 = zv h59 3 a.toNat ∧ ((a.toNat : Nat) : Int) < fld h59 3 2 := zpv Ch55 Qh59 (A := 3) (by decide) (by decide +kernel) pv2_h55
                      have pv8_h59 : v8 = zv h59 4 b.toNat ∧ ((b.toNat : Nat) : Int) < fld h59 4 2 := zpv Ch55 Qh59 (A := 4) (by decide) (by decide +kernel) pv8_h55
                      have th59_5_2 : fld h59 5 2 = fld h55 5 2 := Qh59.f (a1 := 5) (a2 := 5) (j1 := 2) (j2 := 3) (by decide +kernel) (by first | decide | exact ⟨by decide, by decide⟩) (by first | decide | exact ⟨by decide, by decide⟩) (by first | decide | exact ⟨by decide, by decide⟩)
                      have Vh59 : zRq q h59 := Vh55.fr Ch55 Qh59 (by decide +kernel)
                      have lnr57 := Nh59.1
                      refine zwW_cm Ch59.1 (op := 60) (k' := 100) (n := 1) (kd := 0) (m := 3) (nx := 193) (r := 5) (tl := [(2, nr57)]) (st' := []) (by decide +kernel) rfl (by decide +kernel) rfl (x100_5 Ch59 Nh59 (by omega) (by have := Xh59.hl C Ch59 (by decide) hl; omega)) ?_
                      rintro x h61 ⟨rfl, Ah61⟩
                      have Ch61 := Ah61.1
                      have Qh61 : zXR [(5, 5, 0, 3)] (1) (1000) h59 h61 := Ah61.2.1
                      have zh61 : fld h61 5 2 = fld h59 5 2 + 1 := Ah61.2.2.1
                      have YLh61 := yC_clo (n := (yC h 37 78).toNat) Ch59 Jh59 Ah61 Nh59 Fh59_0 (by omega) pv8_h59.1 pv8_h59.2 pv2_h59.1 pv2_h59.2
                      have JLh61 := yR_clo (n := (yC h 37 78).toNat) Ch59 Jh59 Ah61 Nh59 Fh59_0 (by omega) pv8_h59.1 pv8_h59.2 pv2_h59.1 pv2_h59.2 (zfresh Ch55 Qh59 (by decide) (by decide +kernel) err57)
                      have VLh61 : yC h61 = (zs (zs (zs (zs (zs (zs (zs (zs (zs (zs (zs (zs (yC h) 84 (((yC h) 170 b.toNat).toNat) (w32 (((yC h) 84 (((yC h) 170 b.toNat).toNat)) - (max (yWask q (yC h) 1 a.toNat b.toNat c) 0)))) 84 a.toNat (w32 (((zs (yC h) 84 (((yC h) 170 b.toNat).toNat) (w32 (((yC h) 84 (((yC h) 170 b.toNat).toNat)) - (max (yWask q (yC h) 1 a.toNat b.toNat c) 0)))) 84 a.toNat) + (max (yWask q (yC h) 1 a.toNat b.toNat c) 0)))) 92 a.toNat (w32 (((yC h) 92 a.toNat) + c))) 175 b.toNat (w32 (((yC h) 175 b.toNat) - c))) 37 70 (w32 (((yC h) 37 70) + c))) 180 ((yC h 37 78).toNat) ((b.toNat : Nat) : Int)) 181 ((yC h 37 78).toNat) ((a.toNat : Nat) : Int)) 182 ((yC h 37 78).toNat) v58) 183 ((yC h 37 78).toNat) (c / 2)) 184 ((yC h 37 78).toNat) (-1)) 185 ((yC h 37 78).toNat) 0) 37 78 ((((yC h 37 78).toNat : Nat) : Int) + 1)) := by rw [YLh61, Zh59]
                      have Zh61 : yC h61 = (zs (zs (zs (zs (zs (zs (zs (zs (zs (zs (zs (zs (yC h) 84 (((yC h) 170 b.toNat).toNat) (w32 (((yC h) 84 (((yC h) 170 b.toNat).toNat)) - (max (yWask q (yC h) 1 a.toNat b.toNat c) 0)))) 84 a.toNat (w32 (((zs (yC h) 84 (((yC h) 170 b.toNat).toNat) (w32 (((yC h) 84 (((yC h) 170 b.toNat).toNat)) - (max (yWask q (yC h) 1 a.toNat b.toNat c) 0)))) 84 a.toNat) + (max (yWask q (yC h) 1 a.toNat b.toNat c) 0)))) 92 a.toNat (w32 (((yC h) 92 a.toNat) + c))) 175 b.toNat (w32 (((yC h) 175 b.toNat) - c))) 180 ((yC h 37 78).toNat) ((b.toNat : Nat) : Int)) 181 ((yC h 37 78).toNat) ((a.toNat : Nat) : Int)) 182 ((yC h 37 78).toNat) v58) 183 ((yC h 37 78).toNat) (c / 2)) 184 ((yC h 37 78).toNat) (-1)) 185 ((yC h 37 78).toNat) 0) 37 70 (w32 (((yC h) 37 70) + c))) 37 78 ((((yC h 37 78).toNat : Nat) : Int) + 1)) := by rw [VLh61, zs_sw (a := 37) (b := 180) (by decide), zs_sw (a := 37) (b := 181) (by decide), zs_sw (a := 37) (b := 182) (by decide), zs_sw (a := 37) (b := 183) (by decide), zs_sw (a := 37) (b := 184) (by decide), zs_sw (a := 37) (b := 185) (by decide)]
                      have Xh61 : zXR msx41_z (2) (1006) h h61 := Xh59.tr (c2 := 2) (s2 := 1006) Qh61 (by decide +kernel) (by decide) (by decide)
                      have Gh61_0 : gH h61 v2 := Gh59_0.x Qh61
                      have Gh61_1 : gL h61 v8 := Gh59_1.x Qh61
                      have pv2_h61 : v2 = zv h61 3 a.toNat ∧ ((a.toNat : Nat) : Int) < fld h61 3 2 := zpv Ch59 Qh61 (A := 3) (by decide) (by decide +kernel) pv2_h59
                      have pv8_h61 : v8 = zv h61 4 b.toNat ∧ ((b.toNat : Nat) : Int) < fld h61 4 2 := zpv Ch59 Qh61 (A := 4) (by decide) (by decide +kernel) pv8_h59
                      have Vh61 : zRq q h61 := Vh59.fr Ch59 Qh61 (by decide +kernel)
                      refine zwW_p [(15, 0, 0), (1, 0, 2)] (q := 195) (ls' := [(2, 1), (0, a), (0, b), (0, c), (2, v2), (2, v8), (0, v32), (0, 0)]) (st' := [(2, 1)]) (by decide +kernel) rfl ?_
                      refine zwW_gc Ch61.1 (kd := 12) (bn := 5) (n := 13) (c := 5) (nx := 198) (by decide +kernel) ?_
                      refine zwW_cm Ch61.1 (op := 60) (k' := 96) (n := 0) (kd := 0) (m := 3) (nx := 201) (r := 5) (tl := []) (st' := []) (by decide +kernel) rfl (by decide +kernel) rfl (x96_5 Ch61) ?_
                      rintro v62 _ ⟨rfl, ev62⟩
                      have bv62 := zLb_5 Ch61
                      have sv62 : v62 = ((((yC h 37 78).toNat : Nat) : Int) + 1) := Eq.trans ev62 (Eq.trans (Eq.symm (yC_s (h := h61) (i := 78) rfl)) (Eq.trans (congrFun (congrFun Zh61 37) 78) (zs_eq : (zs (zs (zs (zs (zs (zs (zs (zs (zs (zs (zs (zs (yC h) 84 (((yC h) 170 b.toNat).toNat) (w32 (((yC h) 84 (((yC h) 170 b.toNat).toNat)) - (max (yWask q (yC h) 1 a.toNat b.toNat c) 0)))) 84 a.toNat (w32 (((zs (yC h) 84 (((yC h) 170 b.toNat).toNat) (w32 (((yC h) 84 (((yC h) 170 b.toNat).toNat)) - (max (yWask q (yC h) 1 a.toNat b.toNat c) 0)))) 84 a.toNat) + (max (yWask q (yC h) 1 a.toNat b.toNat c) 0)))) 92 a.toNat (w32 (((yC h) 92 a.toNat) + c))) 175 b.toNat (w32 (((yC h) 175 b.toNat) - c))) 180 ((yC h 37 78).toNat) ((b.toNat : Nat) : Int)) 181 ((yC h 37 78).toNat) ((a.toNat : Nat) : Int)) 182 ((yC h 37 78).toNat) v58) 183 ((yC h 37 78).toNat) (c / 2)) 184 ((yC h 37 78).toNat) (-1)) 185 ((yC h 37 78).toNat) 0) 37 70 (w32 (((yC h) 37 70) + c))) 37 78 ((((yC h 37 78).toNat : Nat) : Int) + 1)) 37 78 = ((((yC h 37 78).toNat : Nat) : Int) + 1))))
                      refine zwW_p [(0, 1, 0)] (q := 202) (ls' := [(2, 1), (0, a), (0, b), (0, c), (2, v2), (2, v8), (0, v32), (0, 0)]) (st' := [(0, 1), (0, v62)]) (by decide +kernel) rfl ?_
                      refine zwW_sub (nx := 203) (by decide +kernel) (by first | omega | exact ⟨by omega, by omega⟩) ?_
                      refine zwW_ret (nx := 204) (a := 0) (b := 0) (by decide +kernel) rfl (Or.inl rfl) ?_
                      exact ⟨Ch61, Xh61.le (by decide) (by decide), by omega, by unfold yWvA; (repeat' (first | rw [if_pos (by omega)] | rw [if_neg (by omega)])); all_goals (first | rfl | omega), by refine Eq.trans Zh61 ?_; unfold yWvF yWvS; (repeat' (first | rw [if_pos (by omega)] | rw [if_neg (by omega)])); all_goals (repeat' (first | rfl | apply zs_cg | omega)), by exact JLh61⟩
                    · refine zwW_p [(0, 1, 0), (24, 102, 0), (2, 7, 0), (1, 5, 2), (12, 0, 0)] (q := 107) (ls' := [(2, 1), (0, a), (0, b), (0, c), (2, v2), (2, v8), (0, v32), (0, 1)]) (st' := [(2, v8), (2, v8)]) (by decide +kernel) rfl ?_
                      refine zwX_gi Ch38 (kd := 6) (bn := 6) (n := 7) (nx := 110) (by decide +kernel) Gh38_1.2.1 Gh38_1.1 rfl ?_
                      intro v63 ev63 lv63 uv63
                      have sv63 : v63 = (yC h) 175 b.toNat := Eq.trans ev63 (Eq.trans (congrArg (fun q => fld h38 q 6) pv8_h38.1) (Eq.trans (Eq.symm (yC_f (h := h38) (a := 175) (A := 4) (j := 6) (i := b.toNat) rfl pv8_h38.2)) (Eq.trans (congrFun (congrFun Zh38 175) b.toNat) rfl)))
                      refine zwW_p [(1, 3, 0)] (q := 111) (ls' := [(2, 1), (0, a), (0, b), (0, c), (2, v2), (2, v8), (0, v32), (0, 1)]) (st' := [(0, c), (0, v63), (2, v8)]) (by decide +kernel) rfl ?_
                      refine zwW_sbw (nx := 112) (by decide +kernel) ?_
                      intro v64 ev64 lv64 uv64
                      have Ev64 : v64 = w32 (((yC h) 175 b.toNat) - c) := by rw [ev64, sv63]
                      refine zwX_pi Ch38 (kd := 6) (bn := 6) (n := 7) (nx := 115) (by decide +kernel) Gh38_1.2.1 Gh38_1.1 (by first | omega | exact ⟨by omega, by omega⟩) ?_
                      rintro h65 eh65 Ch65 Qh65
                      have Zh65 : yC h65 = (zs (yC h) 175 b.toNat (w32 (((yC h) 175 b.toNat) - c))) := by rw [yC_w (a := 175) (A := 4) (j := 6) (k := b.toNat) Ch38 f36 rfl pv8_h38 eh65, Zh38, Ev64]
                      have Xh65 : zXR msx41_z (0) (0) h h65 := Xh38.tr (c2 := 0) (s2 := 0) Qh65 (by decide +kernel) (by decide) (by decide)
                      have Gh65_0 : gH h65 v2 := Gh38_0.x Qh65
                      have Gh65_1 : gL h65 v8 := Gh38_1.x Qh65
                      have Jh65 : yR h65 := f36.fr Ch38 Qh65 (by decide +kernel)
                      have pv2_h65 : v2 = zv h65 3 a.toNat ∧ ((a.toNat : Nat) : Int) < fld h65 3 2 := zpv Ch38 Qh65 (A := 3) (by decide) (by decide +kernel) pv2_h38
                      have pv8_h65 : v8 = zv h65 4 b.toNat ∧ ((b.toNat : Nat) : Int) < fld h65 4 2 := zpv Ch38 Qh65 (A := 4) (by decide) (by decide +kernel) pv8_h38
                      have th65_5_2 : fld h65 5 2 = fld h38 5 2 := Qh65.f (a1 := 5) (a2 := 5) (j1 := 2) (j2 := 3) (by decide +kernel) (by first | decide | exact ⟨by decide, by decide⟩) (by first | decide | exact ⟨by decide, by decide⟩) (by first | decide | exact ⟨by decide, by decide⟩)
                      have Vh65 : zRq q h65 := Vh38.fr Ch38 Qh65 (by decide +kernel)
                      refine zwW_p [(1, 5, 2)] (q := 117) (ls' := [(2, 1), (0, a), (0, b), (0, c), (2, v2), (2, v8), (0, v32), (0, 1)]) (st' := [(2, v8)]) (by decide +kernel) rfl ?_
                      refine zwW_get (kd := 6) (bn := 1) (t := 2) (n := 7) (nx := 120) (by decide +kernel) Gh65_1.2.1 rfl ?_
                      obtain ⟨v66, ev66⟩ : ∃ z, z = fld h65 v8 1 := ⟨_, rfl⟩
                      rw [← ev66]
                      have Gv66 : gH h65 v66 := by rw [ev66]; exact Gh65_1.2.2
                      have lv66 := Gv66.1
                      have qv66 : yC h65 170 b.toNat = (yC h) 170 b.toNat := Eq.trans (congrFun (congrFun Zh65 170) b.toNat) (Eq.trans (zs_na (by decide) : (zs (yC h) 175 b.toNat (w32 (((yC h) 175 b.toNat) - c))) 170 b.toNat = (yC h) 170 b.toNat) rfl)
                      have wv66 := Jh65.r (a := 170) (A := 4) (j := 1) (B := 3) (i := b.toNat) rfl pv8_h65.2
                      rw [qv66] at wv66
                      have pv66 : v66 = zv h65 3 (((yC h) 170 b.toNat).toNat) ∧ ((((yC h) 170 b.toNat).toNat : Nat) : Int) < fld h65 3 2 := ⟨by rw [ev66, pv8_h65.1]; exact wv66.2.2, wv66.2.1⟩
                      refine zwW_p [(12, 0, 0)] (q := 121) (ls' := [(2, 1), (0, a), (0, b), (0, c), (2, v2), (2, v8), (0, v32), (0, 1)]) (st' := [(2, v66), (2, v66)]) (by decide +kernel) rfl ?_
                      refine zwX_gi Ch65 (kd := 4) (bn := 6) (n := 19) (nx := 124) (by decide +kernel) Gv66.2.1 Gv66.1 rfl ?_
                      intro v67 ev67 lv67 uv67
                      have sv67 : v67 = (yC h) 84 (((yC h) 170 b.toNat).toNat) := Eq.trans ev67 (Eq.trans (congrArg (fun q => fld h65 q 6) pv66.1) (Eq.trans (Eq.symm (yC_f (h := h65) (a := 84) (A := 3) (j := 6) (i := ((yC h) 170 b.toNat).toNat) rfl pv66.2)) (Eq.trans (congrFun (congrFun Zh65 84) (((yC h) 170 b.toNat).toNat)) (Eq.trans (zs_na (by decide) : (zs (yC h) 175 b.toNat (w32 (((yC h) 175 b.toNat) - c))) 84 (((yC h) 170 b.toNat).toNat) = (yC h) 84 (((yC h) 170 b.toNat).toNat)) rfl))))
                      refine zwW_p [(1, 6, 0)] (q := 126) (ls' := [(2, 1), (0, a), (0, b), (0, c), (2, v2), (2, v8), (0, v32), (0, 1)]) (st' := [(0, v32), (0, v67), (2, v66)]) (by decide +kernel) rfl ?_
                      refine zwW_sbw (nx := 127) (by decide +kernel) ?_
                      intro v68 ev68 lv68 uv68
                      have Ev68 : v68 = w32 (((yC h) 84 (((yC h) 170 b.toNat).toNat)) - (max (yWask q (yC h) 1 a.toNat b.toNat c) 0)) := by rw [ev68, sv67, Ev32]
                      refine zwX_pi Ch65 (kd := 4) (bn := 6) (n := 19) (nx := 130) (by decide +kernel) Gv66.2.1 Gv66.1 (by first | omega | exact ⟨by omega, by omega⟩) ?_
                      rintro h69 eh69 Ch69 Qh69
                      have Uh69 : yC h69 = (zs (zs (yC h) 175 b.toNat (w32 (((yC h) 175 b.toNat) - c))) 84 (((yC h) 170 b.toNat).toNat) (w32 (((yC h) 84 (((yC h) 170 b.toNat).toNat)) - (max (yWask q (yC h) 1 a.toNat b.toNat c) 0)))) := by rw [yC_w (a := 84) (A := 3) (j := 6) (k := ((yC h) 170 b.toNat).toNat) Ch65 Jh65 rfl pv66 eh69, Zh65, Ev68]
                      have Zh69 : yC h69 = (zs (zs (yC h) 84 (((yC h) 170 b.toNat).toNat) (w32 (((yC h) 84 (((yC h) 170 b.toNat).toNat)) - (max (yWask q (yC h) 1 a.toNat b.toNat c) 0)))) 175 b.toNat (w32 (((yC h) 175 b.toNat) - c))) := by rw [Uh69, zs_sw (a := 175) (b := 84) (by decide)]
                      have Xh69 : zXR msx41_z (0) (0) h h69 := Xh65.tr (c2 := 0) (s2 := 0) Qh69 (by decide +kernel) (by decide) (by decide)
                      have Gh69_0 : gH h69 v2 := Gh65_0.x Qh69
                      have Gh69_1 : gL h69 v8 := Gh65_1.x Qh69
                      have Jh69 : yR h69 := Jh65.fr Ch65 Qh69 (by decide +kernel)
                      have pv2_h69 : v2 = zv h69 3 a.toNat ∧ ((a.toNat : Nat) : Int) < fld h69 3 2 := zpv Ch65 Qh69 (A := 3) (by decide) (by decide +kernel) pv2_h65
                      have pv8_h69 : v8 = zv h69 4 b.toNat ∧ ((b.toNat : Nat) : Int) < fld h69 4 2 := zpv Ch65 Qh69 (A := 4) (by decide) (by decide +kernel) pv8_h65
                      have th69_5_2 : fld h69 5 2 = fld h65 5 2 := Qh69.f (a1 := 5) (a2 := 5) (j1 := 2) (j2 := 3) (by decide +kernel) (by first | decide | exact ⟨by decide, by decide⟩) (by first | decide | exact ⟨by decide, by decide⟩) (by first | decide | exact ⟨by decide, by decide⟩)
                      have Vh69 : zRq q h69 := Vh65.fr Ch65 Qh69 (by decide +kernel)
                      refine zwW_p [(1, 4, 2), (12, 0, 0)] (q := 133) (ls' := [(2, 1), (0, a), (0, b), (0, c), (2, v2), (2, v8), (0, v32), (0, 1)]) (st' := [(2, v2), (2, v2)]) (by decide +kernel) rfl ?_
                      refine zwX_gi Ch69 (kd := 4) (bn := 6) (n := 19) (nx := 136) (by decide +kernel) Gh69_0.2.1 Gh69_0.1 rfl ?_
                      intro v70 ev70 lv70 uv70
                      have sv70 : v70 = (zs (yC h) 84 (((yC h) 170 b.toNat).toNat) (w32 (((yC h) 84 (((yC h) 170 b.toNat).toNat)) - (max (yWask q (yC h) 1 a.toNat b.toNat c) 0)))) 84 a.toNat := Eq.trans ev70 (Eq.trans (congrArg (fun q => fld h69 q 6) pv2_h69.1) (Eq.trans (Eq.symm (yC_f (h := h69) (a := 84) (A := 3) (j := 6) (i := a.toNat) rfl pv2_h69.2)) (Eq.trans (congrFun (congrFun Zh69 84) a.toNat) (Eq.trans (zs_na (by decide) : (zs (zs (yC h) 84 (((yC h) 170 b.toNat).toNat) (w32 (((yC h) 84 (((yC h) 170 b.toNat).toNat)) - (max (yWask q (yC h) 1 a.toNat b.toNat c) 0)))) 175 b.toNat (w32 (((yC h) 175 b.toNat) - c))) 84 a.toNat = (zs (yC h) 84 (((yC h) 170 b.toNat).toNat) (w32 (((yC h) 84 (((yC h) 170 b.toNat).toNat)) - (max (yWask q (yC h) 1 a.toNat b.toNat c) 0)))) 84 a.toNat) rfl))))
                      refine zwW_p [(1, 6, 0)] (q := 138) (ls' := [(2, 1), (0, a), (0, b), (0, c), (2, v2), (2, v8), (0, v32), (0, 1)]) (st' := [(0, v32), (0, v70), (2, v2)]) (by decide +kernel) rfl ?_
                      refine zwW_adw (nx := 139) (by decide +kernel) ?_
                      intro v71 ev71 lv71 uv71
                      have Ev71 : v71 = w32 (((zs (yC h) 84 (((yC h) 170 b.toNat).toNat) (w32 (((yC h) 84 (((yC h) 170 b.toNat).toNat)) - (max (yWask q (yC h) 1 a.toNat b.toNat c) 0)))) 84 a.toNat) + (max (yWask q (yC h) 1 a.toNat b.toNat c) 0)) := by rw [ev71, sv70, Ev32]
                      refine zwX_pi Ch69 (kd := 4) (bn := 6) (n := 19) (nx := 142) (by decide +kernel) Gh69_0.2.1 Gh69_0.1 (by first | omega | exact ⟨by omega, by omega⟩) ?_
                      rintro h72 eh72 Ch72 Qh72
                      have Uh72 : yC h72 = (zs (zs (zs (yC h) 84 (((yC h) 170 b.toNat).toNat) (w32 (((yC h) 84 (((yC h) 170 b.toNat).toNat)) - (max (yWask q (yC h) 1 a.toNat b.toNat c) 0)))) 175 b.toNat (w32 (((yC h) 175 b.toNat) - c))) 84 a.toNat (w32 (((zs (yC h) 84 (((yC h) 170 b.toNat).toNat) (w32 (((yC h) 84 (((yC h) 170 b.toNat).toNat)) - (max (yWask q (yC h) 1 a.toNat b.toNat c) 0)))) 84 a.toNat) + (max (yWask q (yC h) 1 a.toNat b.toNat c) 0)))) := by rw [yC_w (a := 84) (A := 3) (j := 6) (k := a.toNat) Ch69 Jh69 rfl pv2_h69 eh72, Zh69, Ev71]
                      have Zh72 : yC h72 = (zs (zs (zs (yC h) 84 (((yC h) 170 b.toNat).toNat) (w32 (((yC h) 84 (((yC h) 170 b.toNat).toNat)) - (max (yWask q (yC h) 1 a.toNat b.toNat c) 0)))) 84 a.toNat (w32 (((zs (yC h) 84 (((yC h) 170 b.toNat).toNat) (w32 (((yC h) 84 (((yC h) 170 b.toNat).toNat)) - (max (yWask q (yC h) 1 a.toNat b.toNat c) 0)))) 84 a.toNat) + (max (yWask q (yC h) 1 a.toNat b.toNat c) 0)))) 175 b.toNat (w32 (((yC h) 175 b.toNat) - c))) := by rw [Uh72, zs_sw (a := 175) (b := 84) (by decide)]
                      have Xh72 : zXR msx41_z (0) (0) h h72 := Xh69.tr (c2 := 0) (s2 := 0) Qh72 (by decide +kernel) (by decide) (by decide)
                      have Gh72_0 : gH h72 v2 := Gh69_0.x Qh72
                      have Gh72_1 : gL h72 v8 := Gh69_1.x Qh72
                      have Jh72 : yR h72 := Jh69.fr Ch69 Qh72 (by decide +kernel)
                      have pv2_h72 : v2 = zv h72 3 a.toNat ∧ ((a.toNat : Nat) : Int) < fld h72 3 2 := zpv Ch69 Qh72 (A := 3) (by decide) (by decide +kernel) pv2_h69
                      have pv8_h72 : v8 = zv h72 4 b.toNat ∧ ((b.toNat : Nat) : Int) < fld h72 4 2 := zpv Ch69 Qh72 (A := 4) (by decide) (by decide +kernel) pv8_h69
                      have th72_5_2 : fld h72 5 2 = fld h69 5 2 := Qh72.f (a1 := 5) (a2 := 5) (j1 := 2) (j2 := 3) (by decide +kernel) (by first | decide | exact ⟨by decide, by decide⟩) (by first | decide | exact ⟨by decide, by decide⟩) (by first | decide | exact ⟨by decide, by decide⟩)
                      have Vh72 : zRq q h72 := Vh69.fr Ch69 Qh72 (by decide +kernel)
                      refine zwW_p [(1, 4, 2), (12, 0, 0)] (q := 145) (ls' := [(2, 1), (0, a), (0, b), (0, c), (2, v2), (2, v8), (0, v32), (0, 1)]) (st' := [(2, v2), (2, v2)]) (by decide +kernel) rfl ?_
                      refine zwX_gi Ch72 (kd := 4) (bn := 14) (n := 19) (nx := 148) (by decide +kernel) Gh72_0.2.1 Gh72_0.1 rfl ?_
                      intro v73 ev73 lv73 uv73
                      have sv73 : v73 = (yC h) 92 a.toNat := Eq.trans ev73 (Eq.trans (congrArg (fun q => fld h72 q 14) pv2_h72.1) (Eq.trans (Eq.symm (yC_f (h := h72) (a := 92) (A := 3) (j := 14) (i := a.toNat) rfl pv2_h72.2)) (Eq.trans (congrFun (congrFun Zh72 92) a.toNat) (Eq.trans (zs_na (by decide) : (zs (zs (zs (yC h) 84 (((yC h) 170 b.toNat).toNat) (w32 (((yC h) 84 (((yC h) 170 b.toNat).toNat)) - (max (yWask q (yC h) 1 a.toNat b.toNat c) 0)))) 84 a.toNat (w32 (((zs (yC h) 84 (((yC h) 170 b.toNat).toNat) (w32 (((yC h) 84 (((yC h) 170 b.toNat).toNat)) - (max (yWask q (yC h) 1 a.toNat b.toNat c) 0)))) 84 a.toNat) + (max (yWask q (yC h) 1 a.toNat b.toNat c) 0)))) 175 b.toNat (w32 (((yC h) 175 b.toNat) - c))) 92 a.toNat = (zs (zs (yC h) 84 (((yC h) 170 b.toNat).toNat) (w32 (((yC h) 84 (((yC h) 170 b.toNat).toNat)) - (max (yWask q (yC h) 1 a.toNat b.toNat c) 0)))) 84 a.toNat (w32 (((zs (yC h) 84 (((yC h) 170 b.toNat).toNat) (w32 (((yC h) 84 (((yC h) 170 b.toNat).toNat)) - (max (yWask q (yC h) 1 a.toNat b.toNat c) 0)))) 84 a.toNat) + (max (yWask q (yC h) 1 a.toNat b.toNat c) 0)))) 92 a.toNat) (Eq.trans (zs_na (by decide) : (zs (zs (yC h) 84 (((yC h) 170 b.toNat).toNat) (w32 (((yC h) 84 (((yC h) 170 b.toNat).toNat)) - (max (yWask q (yC h) 1 a.toNat b.toNat c) 0)))) 84 a.toNat (w32 (((zs (yC h) 84 (((yC h) 170 b.toNat).toNat) (w32 (((yC h) 84 (((yC h) 170 b.toNat).toNat)) - (max (yWask q (yC h) 1 a.toNat b.toNat c) 0)))) 84 a.toNat) + (max (yWask q (yC h) 1 a.toNat b.toNat c) 0)))) 92 a.toNat = (zs (yC h) 84 (((yC h) 170 b.toNat).toNat) (w32 (((yC h) 84 (((yC h) 170 b.toNat).toNat)) - (max (yWask q (yC h) 1 a.toNat b.toNat c) 0)))) 92 a.toNat) (Eq.trans (zs_na (by decide) : (zs (yC h) 84 (((yC h) 170 b.toNat).toNat) (w32 (((yC h) 84 (((yC h) 170 b.toNat).toNat)) - (max (yWask q (yC h) 1 a.toNat b.toNat c) 0)))) 92 a.toNat = (yC h) 92 a.toNat) rfl))))))
                      refine zwW_p [(1, 3, 0)] (q := 149) (ls' := [(2, 1), (0, a), (0, b), (0, c), (2, v2), (2, v8), (0, v32), (0, 1)]) (st' := [(0, c), (0, v73), (2, v2)]) (by decide +kernel) rfl ?_
                      refine zwW_adw (nx := 150) (by decide +kernel) ?_
                      intro v74 ev74 lv74 uv74
                      have Ev74 : v74 = w32 (((yC h) 92 a.toNat) + c) := by rw [ev74, sv73]
                      refine zwX_pi Ch72 (kd := 4) (bn := 14) (n := 19) (nx := 153) (by decide +kernel) Gh72_0.2.1 Gh72_0.1 (by first | omega | exact ⟨by omega, by omega⟩) ?_
                      rintro h75 eh75 Ch75 Qh75
                      have Uh75 : yC h75 = (zs (zs (zs (zs (yC h) 84 (((yC h) 170 b.toNat).toNat) (w32 (((yC h) 84 (((yC h) 170 b.toNat).toNat)) - (max (yWask q (yC h) 1 a.toNat b.toNat c) 0)))) 84 a.toNat (w32 (((zs (yC h) 84 (((yC h) 170 b.toNat).toNat) (w32 (((yC h) 84 (((yC h) 170 b.toNat).toNat)) - (max (yWask q (yC h) 1 a.toNat b.toNat c) 0)))) 84 a.toNat) + (max (yWask q (yC h) 1 a.toNat b.toNat c) 0)))) 175 b.toNat (w32 (((yC h) 175 b.toNat) - c))) 92 a.toNat (w32 (((yC h) 92 a.toNat) + c))) := by rw [yC_w (a := 92) (A := 3) (j := 14) (k := a.toNat) Ch72 Jh72 rfl pv2_h72 eh75, Zh72, Ev74]
                      have Zh75 : yC h75 = (zs (zs (zs (zs (yC h) 84 (((yC h) 170 b.toNat).toNat) (w32 (((yC h) 84 (((yC h) 170 b.toNat).toNat)) - (max (yWask q (yC h) 1 a.toNat b.toNat c) 0)))) 84 a.toNat (w32 (((zs (yC h) 84 (((yC h) 170 b.toNat).toNat) (w32 (((yC h) 84 (((yC h) 170 b.toNat).toNat)) - (max (yWask q (yC h) 1 a.toNat b.toNat c) 0)))) 84 a.toNat) + (max (yWask q (yC h) 1 a.toNat b.toNat c) 0)))) 92 a.toNat (w32 (((yC h) 92 a.toNat) + c))) 175 b.toNat (w32 (((yC h) 175 b.toNat) - c))) := by rw [Uh75, zs_sw (a := 175) (b := 92) (by decide)]
                      have Xh75 : zXR msx41_z (0) (0) h h75 := Xh72.tr (c2 := 0) (s2 := 0) Qh75 (by decide +kernel) (by decide) (by decide)
                      have Gh75_0 : gH h75 v2 := Gh72_0.x Qh75
                      have Gh75_1 : gL h75 v8 := Gh72_1.x Qh75
                      have Jh75 : yR h75 := Jh72.fr Ch72 Qh75 (by decide +kernel)
                      have pv2_h75 : v2 = zv h75 3 a.toNat ∧ ((a.toNat : Nat) : Int) < fld h75 3 2 := zpv Ch72 Qh75 (A := 3) (by decide) (by decide +kernel) pv2_h72
                      have pv8_h75 : v8 = zv h75 4 b.toNat ∧ ((b.toNat : Nat) : Int) < fld h75 4 2 := zpv Ch72 Qh75 (A := 4) (by decide) (by decide +kernel) pv8_h72
                      have th75_5_2 : fld h75 5 2 = fld h72 5 2 := Qh75.f (a1 := 5) (a2 := 5) (j1 := 2) (j2 := 3) (by decide +kernel) (by first | decide | exact ⟨by decide, by decide⟩) (by first | decide | exact ⟨by decide, by decide⟩) (by first | decide | exact ⟨by decide, by decide⟩)
                      have Vh75 : zRq q h75 := Vh72.fr Ch72 Qh75 (by decide +kernel)
                      refine zwW_p [(1, 0, 2)] (q := 154) (ls' := [(2, 1), (0, a), (0, b), (0, c), (2, v2), (2, v8), (0, v32), (0, 1)]) (st' := [(2, 1)]) (by decide +kernel) rfl ?_
                      refine zwW_gc Ch75.1 (kd := 12) (bn := 11) (n := 13) (c := 34) (nx := 157) (by decide +kernel) ?_
                      refine zwW_p [(12, 0, 0)] (q := 158) (ls' := [(2, 1), (0, a), (0, b), (0, c), (2, v2), (2, v8), (0, v32), (0, 1)]) (st' := [(2, 34), (2, 34)]) (by decide +kernel) rfl ?_
                      refine zwW_gs Ch75.1 (kd := 5) (bn := 1) (n := 4) (t := 0) (lo := -2147483648) (hi := 2147483647) (nx := 161) (by decide +kernel) ?_
                      intro v76 ev76 lv76 uv76
                      have sv76 : v76 = (yC h) 37 70 := Eq.trans ev76 (Eq.trans (Eq.symm (yC_s (h := h75) (i := 70) rfl)) (Eq.trans (congrFun (congrFun Zh75 37) 70) (Eq.trans (zs_na (by decide) : (zs (zs (zs (zs (yC h) 84 (((yC h) 170 b.toNat).toNat) (w32 (((yC h) 84 (((yC h) 170 b.toNat).toNat)) - (max (yWask q (yC h) 1 a.toNat b.toNat c) 0)))) 84 a.toNat (w32 (((zs (yC h) 84 (((yC h) 170 b.toNat).toNat) (w32 (((yC h) 84 (((yC h) 170 b.toNat).toNat)) - (max (yWask q (yC h) 1 a.toNat b.toNat c) 0)))) 84 a.toNat) + (max (yWask q (yC h) 1 a.toNat b.toNat c) 0)))) 92 a.toNat (w32 (((yC h) 92 a.toNat) + c))) 175 b.toNat (w32 (((yC h) 175 b.toNat) - c))) 37 70 = (zs (zs (zs (yC h) 84 (((yC h) 170 b.toNat).toNat) (w32 (((yC h) 84 (((yC h) 170 b.toNat).toNat)) - (max (yWask q (yC h) 1 a.toNat b.toNat c) 0)))) 84 a.toNat (w32 (((zs (yC h) 84 (((yC h) 170 b.toNat).toNat) (w32 (((yC h) 84 (((yC h) 170 b.toNat).toNat)) - (max (yWask q (yC h) 1 a.toNat b.toNat c) 0)))) 84 a.toNat) + (max (yWask q (yC h) 1 a.toNat b.toNat c) 0)))) 92 a.toNat (w32 (((yC h) 92 a.toNat) + c))) 37 70) (Eq.trans (zs_na (by decide) : (zs (zs (zs (yC h) 84 (((yC h) 170 b.toNat).toNat) (w32 (((yC h) 84 (((yC h) 170 b.toNat).toNat)) - (max (yWask q (yC h) 1 a.toNat b.toNat c) 0)))) 84 a.toNat (w32 (((zs (yC h) 84 (((yC h) 170 b.toNat).toNat) (w32 (((yC h) 84 (((yC h) 170 b.toNat).toNat)) - (max (yWask q (yC h) 1 a.toNat b.toNat c) 0)))) 84 a.toNat) + (max (yWask q (yC h) 1 a.toNat b.toNat c) 0)))) 92 a.toNat (w32 (((yC h) 92 a.toNat) + c))) 37 70 = (zs (zs (yC h) 84 (((yC h) 170 b.toNat).toNat) (w32 (((yC h) 84 (((yC h) 170 b.toNat).toNat)) - (max (yWask q (yC h) 1 a.toNat b.toNat c) 0)))) 84 a.toNat (w32 (((zs (yC h) 84 (((yC h) 170 b.toNat).toNat) (w32 (((yC h) 84 (((yC h) 170 b.toNat).toNat)) - (max (yWask q (yC h) 1 a.toNat b.toNat c) 0)))) 84 a.toNat) + (max (yWask q (yC h) 1 a.toNat b.toNat c) 0)))) 37 70) (Eq.trans (zs_na (by decide) : (zs (zs (yC h) 84 (((yC h) 170 b.toNat).toNat) (w32 (((yC h) 84 (((yC h) 170 b.toNat).toNat)) - (max (yWask q (yC h) 1 a.toNat b.toNat c) 0)))) 84 a.toNat (w32 (((zs (yC h) 84 (((yC h) 170 b.toNat).toNat) (w32 (((yC h) 84 (((yC h) 170 b.toNat).toNat)) - (max (yWask q (yC h) 1 a.toNat b.toNat c) 0)))) 84 a.toNat) + (max (yWask q (yC h) 1 a.toNat b.toNat c) 0)))) 37 70 = (zs (yC h) 84 (((yC h) 170 b.toNat).toNat) (w32 (((yC h) 84 (((yC h) 170 b.toNat).toNat)) - (max (yWask q (yC h) 1 a.toNat b.toNat c) 0)))) 37 70) (Eq.trans (zs_na (by decide) : (zs (yC h) 84 (((yC h) 170 b.toNat).toNat) (w32 (((yC h) 84 (((yC h) 170 b.toNat).toNat)) - (max (yWask q (yC h) 1 a.toNat b.toNat c) 0)))) 37 70 = (yC h) 37 70) rfl))))))
                      refine zwW_p [(1, 3, 0)] (q := 162) (ls' := [(2, 1), (0, a), (0, b), (0, c), (2, v2), (2, v8), (0, v32), (0, 1)]) (st' := [(0, c), (0, v76), (2, 34)]) (by decide +kernel) rfl ?_
                      refine zwW_adw (nx := 163) (by decide +kernel) ?_
                      intro v77 ev77 lv77 uv77
                      have Ev77 : v77 = w32 (((yC h) 37 70) + c) := by rw [ev77, sv76]
                      refine zwW_ps Ch75.1 (kd := 5) (bn := 1) (n := 4) (lo := -2147483648) (hi := 2147483647) (nx := 166) (by decide +kernel) (by first | omega | exact ⟨by omega, by omega⟩) ?_
                      intro h78 eh78 Ih78
                      have Ch78 : CI h78 := Ch75.wc eh78 Ih78 (by decide) (by decide)
                      have Qh78 : zXR [(34, 34, 1, 2)] 0 0 h75 h78 := zXR.wc eh78 rfl ⟨by decide, by decide, Or.inl (by decide)⟩ (by first | decide | exact ⟨by decide, by decide⟩)
                      have Zh78 : yC h78 = (zs (zs (zs (zs (zs (yC h) 84 (((yC h) 170 b.toNat).toNat) (w32 (((yC h) 84 (((yC h) 170 b.toNat).toNat)) - (max (yWask q (yC h) 1 a.toNat b.toNat c) 0)))) 84 a.toNat (w32 (((zs (yC h) 84 (((yC h) 170 b.toNat).toNat) (w32 (((yC h) 84 (((yC h) 170 b.toNat).toNat)) - (max (yWask q (yC h) 1 a.toNat b.toNat c) 0)))) 84 a.toNat) + (max (yWask q (yC h) 1 a.toNat b.toNat c) 0)))) 92 a.toNat (w32 (((yC h) 92 a.toNat) + c))) 175 b.toNat (w32 (((yC h) 175 b.toNat) - c))) 37 70 (w32 (((yC h) 37 70) + c))) := by rw [yC_ws (q := 70) (r := 34) (j := 1) (kd := 5) (n := 4) rfl (Ch75.1.s (a1 := 34) (a2 := 34) (by decide +kernel) (by decide) (by decide)) (by decide) Ch75 eh78, Zh75, Ev77]
                      have Xh78 : zXR msx41_z (0) (0) h h78 := Xh75.tr (c2 := 0) (s2 := 0) Qh78 (by decide +kernel) (by decide) (by decide)
                      have Gh78_0 : gH h78 v2 := Gh75_0.x Qh78
                      have Gh78_1 : gL h78 v8 := Gh75_1.x Qh78
                      have Jh78 : yR h78 := Jh75.fr Ch75 Qh78 (by decide +kernel)
                      have pv2_h78 : v2 = zv h78 3 a.toNat ∧ ((a.toNat : Nat) : Int) < fld h78 3 2 := zpv Ch75 Qh78 (A := 3) (by decide) (by decide +kernel) pv2_h75
                      have pv8_h78 : v8 = zv h78 4 b.toNat ∧ ((b.toNat : Nat) : Int) < fld h78 4 2 := zpv Ch75 Qh78 (A := 4) (by decide) (by decide +kernel) pv8_h75
                      have th78_5_2 : fld h78 5 2 = fld h75 5 2 := Qh78.f (a1 := 5) (a2 := 5) (j1 := 2) (j2 := 3) (by decide +kernel) (by first | decide | exact ⟨by decide, by decide⟩) (by first | decide | exact ⟨by decide, by decide⟩) (by first | decide | exact ⟨by decide, by decide⟩)
                      have Vh78 : zRq q h78 := Vh75.fr Ch75 Qh78 (by decide +kernel)
                      refine zwW_p [(1, 0, 2)] (q := 167) (ls' := [(2, 1), (0, a), (0, b), (0, c), (2, v2), (2, v8), (0, v32), (0, 1)]) (st' := [(2, 1)]) (by decide +kernel) rfl ?_
                      refine zwW_gc Ch78.1 (kd := 12) (bn := 5) (n := 13) (c := 5) (nx := 170) (by decide +kernel) ?_
                      refine zwW_new (kd := 1) (n := 6) (nx := 173) (by decide +kernel) rfl rfl ?_
                      rintro h79 r80 eh79 er80
                      have Oh79 : zOld h78 h79 := by rw [eh79]; exact zOld.app _
                      have Yh79 : zDy h79 := by rw [eh79]; exact Ch78.2.1.app (fun x hx => by rw [List.eq_of_mem_replicate hx]; decide)
                      have Ch79 : CI h79 := Ch78.old Oh79 Yh79
                      have Xh79 := Oh79.X Ch78
                      have th79_5_2 : fld h79 5 2 = fld h78 5 2 := Xh79.f (a1 := 5) (a2 := 5) (j1 := 2) (j2 := 3) (by decide +kernel) (by first | decide | exact ⟨by decide, by decide⟩) (by first | decide | exact ⟨by decide, by decide⟩) (by first | decide | exact ⟨by decide, by decide⟩)
                      have Gh79_0 : gH h79 v2 := Gh78_0.x Xh79
                      have Gh79_1 : gL h79 v8 := Gh78_1.x Xh79
                      have Zh79 : yC h79 = (zs (zs (zs (zs (zs (yC h) 84 (((yC h) 170 b.toNat).toNat) (w32 (((yC h) 84 (((yC h) 170 b.toNat).toNat)) - (max (yWask q (yC h) 1 a.toNat b.toNat c) 0)))) 84 a.toNat (w32 (((zs (yC h) 84 (((yC h) 170 b.toNat).toNat) (w32 (((yC h) 84 (((yC h) 170 b.toNat).toNat)) - (max (yWask q (yC h) 1 a.toNat b.toNat c) 0)))) 84 a.toNat) + (max (yWask q (yC h) 1 a.toNat b.toNat c) 0)))) 92 a.toNat (w32 (((yC h) 92 a.toNat) + c))) 175 b.toNat (w32 (((yC h) 175 b.toNat) - c))) 37 70 (w32 (((yC h) 37 70) + c))) := (yC_fr Ch78 Xh79 (by decide +kernel) (Ch78.1.b (a1 := 37) (a2 := 37) (j1 := 86) (j2 := 87) (lo := 0) (hi := 6) (by decide +kernel) (r := 37) (j := 86) (by decide) (by decide) (by decide) (by decide)).2).trans Zh78
                      refine zwW_p [(12, 0, 0), (1, 5, 2), (1, 4, 2), (1, 0, 2)] (q := 179) (ls' := [(2, 1), (0, a), (0, b), (0, c), (2, v2), (2, v8), (0, v32), (0, 1)]) (st' := [(2, 1), (2, v2), (2, v8), (2, r80), (2, r80), (2, 5)]) (by decide +kernel) rfl ?_
                      refine zwW_gs Ch79.1 (kd := 12) (bn := 0) (n := 13) (t := 0) (lo := 0) (hi := 156) (nx := 182) (by decide +kernel) ?_
                      intro v81 ev81 lv81 uv81
                      have sv81 : v81 = (yC h) 37 0 := Eq.trans ev81 (Eq.trans (Eq.symm (yC_s (h := h79) (i := 0) rfl)) (Eq.trans (congrFun (congrFun Zh79 37) 0) (Eq.trans (zs_ni (by decide) : (zs (zs (zs (zs (zs (yC h) 84 (((yC h) 170 b.toNat).toNat) (w32 (((yC h) 84 (((yC h) 170 b.toNat).toNat)) - (max (yWask q (yC h) 1 a.toNat b.toNat c) 0)))) 84 a.toNat (w32 (((zs (yC h) 84 (((yC h) 170 b.toNat).toNat) (w32 (((yC h) 84 (((yC h) 170 b.toNat).toNat)) - (max (yWask q (yC h) 1 a.toNat b.toNat c) 0)))) 84 a.toNat) + (max (yWask q (yC h) 1 a.toNat b.toNat c) 0)))) 92 a.toNat (w32 (((yC h) 92 a.toNat) + c))) 175 b.toNat (w32 (((yC h) 175 b.toNat) - c))) 37 70 (w32 (((yC h) 37 70) + c))) 37 0 = (zs (zs (zs (zs (yC h) 84 (((yC h) 170 b.toNat).toNat) (w32 (((yC h) 84 (((yC h) 170 b.toNat).toNat)) - (max (yWask q (yC h) 1 a.toNat b.toNat c) 0)))) 84 a.toNat (w32 (((zs (yC h) 84 (((yC h) 170 b.toNat).toNat) (w32 (((yC h) 84 (((yC h) 170 b.toNat).toNat)) - (max (yWask q (yC h) 1 a.toNat b.toNat c) 0)))) 84 a.toNat) + (max (yWask q (yC h) 1 a.toNat b.toNat c) 0)))) 92 a.toNat (w32 (((yC h) 92 a.toNat) + c))) 175 b.toNat (w32 (((yC h) 175 b.toNat) - c))) 37 0) (Eq.trans (zs_na (by decide) : (zs (zs (zs (zs (yC h) 84 (((yC h) 170 b.toNat).toNat) (w32 (((yC h) 84 (((yC h) 170 b.toNat).toNat)) - (max (yWask q (yC h) 1 a.toNat b.toNat c) 0)))) 84 a.toNat (w32 (((zs (yC h) 84 (((yC h) 170 b.toNat).toNat) (w32 (((yC h) 84 (((yC h) 170 b.toNat).toNat)) - (max (yWask q (yC h) 1 a.toNat b.toNat c) 0)))) 84 a.toNat) + (max (yWask q (yC h) 1 a.toNat b.toNat c) 0)))) 92 a.toNat (w32 (((yC h) 92 a.toNat) + c))) 175 b.toNat (w32 (((yC h) 175 b.toNat) - c))) 37 0 = (zs (zs (zs (yC h) 84 (((yC h) 170 b.toNat).toNat) (w32 (((yC h) 84 (((yC h) 170 b.toNat).toNat)) - (max (yWask q (yC h) 1 a.toNat b.toNat c) 0)))) 84 a.toNat (w32 (((zs (yC h) 84 (((yC h) 170 b.toNat).toNat) (w32 (((yC h) 84 (((yC h) 170 b.toNat).toNat)) - (max (yWask q (yC h) 1 a.toNat b.toNat c) 0)))) 84 a.toNat) + (max (yWask q (yC h) 1 a.toNat b.toNat c) 0)))) 92 a.toNat (w32 (((yC h) 92 a.toNat) + c))) 37 0) (Eq.trans (zs_na (by decide) : (zs (zs (zs (yC h) 84 (((yC h) 170 b.toNat).toNat) (w32 (((yC h) 84 (((yC h) 170 b.toNat).toNat)) - (max (yWask q (yC h) 1 a.toNat b.toNat c) 0)))) 84 a.toNat (w32 (((zs (yC h) 84 (((yC h) 170 b.toNat).toNat) (w32 (((yC h) 84 (((yC h) 170 b.toNat).toNat)) - (max (yWask q (yC h) 1 a.toNat b.toNat c) 0)))) 84 a.toNat) + (max (yWask q (yC h) 1 a.toNat b.toNat c) 0)))) 92 a.toNat (w32 (((yC h) 92 a.toNat) + c))) 37 0 = (zs (zs (yC h) 84 (((yC h) 170 b.toNat).toNat) (w32 (((yC h) 84 (((yC h) 170 b.toNat).toNat)) - (max (yWask q (yC h) 1 a.toNat b.toNat c) 0)))) 84 a.toNat (w32 (((zs (yC h) 84 (((yC h) 170 b.toNat).toNat) (w32 (((yC h) 84 (((yC h) 170 b.toNat).toNat)) - (max (yWask q (yC h) 1 a.toNat b.toNat c) 0)))) 84 a.toNat) + (max (yWask q (yC h) 1 a.toNat b.toNat c) 0)))) 37 0) (Eq.trans (zs_na (by decide) : (zs (zs (yC h) 84 (((yC h) 170 b.toNat).toNat) (w32 (((yC h) 84 (((yC h) 170 b.toNat).toNat)) - (max (yWask q (yC h) 1 a.toNat b.toNat c) 0)))) 84 a.toNat (w32 (((zs (yC h) 84 (((yC h) 170 b.toNat).toNat) (w32 (((yC h) 84 (((yC h) 170 b.toNat).toNat)) - (max (yWask q (yC h) 1 a.toNat b.toNat c) 0)))) 84 a.toNat) + (max (yWask q (yC h) 1 a.toNat b.toNat c) 0)))) 37 0 = (zs (yC h) 84 (((yC h) 170 b.toNat).toNat) (w32 (((yC h) 84 (((yC h) 170 b.toNat).toNat)) - (max (yWask q (yC h) 1 a.toNat b.toNat c) 0)))) 37 0) (Eq.trans (zs_na (by decide) : (zs (yC h) 84 (((yC h) 170 b.toNat).toNat) (w32 (((yC h) 84 (((yC h) 170 b.toNat).toNat)) - (max (yWask q (yC h) 1 a.toNat b.toNat c) 0)))) 37 0 = (yC h) 37 0) rfl)))))))
                      refine zwW_p [(1, 3, 0), (0, 2, 0)] (q := 184) (ls' := [(2, 1), (0, a), (0, b), (0, c), (2, v2), (2, v8), (0, v32), (0, 1)]) (st' := [(0, 2), (0, c), (0, v81), (2, v2), (2, v8), (2, r80), (2, r80), (2, 5)]) (by decide +kernel) rfl ?_
                      refine zwW_div (nx := 185) (by decide +kernel) (by omega) (by omega) (by omega) ?_
                      refine zwW_p [(1, 7, 0)] (q := 187) (ls' := [(2, 1), (0, a), (0, b), (0, c), (2, v2), (2, v8), (0, v32), (0, 1)]) (st' := [(0, 1), (0, (c / 2)), (0, v81), (2, v2), (2, v8), (2, r80), (2, r80), (2, 5)]) (by decide +kernel) rfl ?_
                      subst er80 eh79
                      refine zwW_cvv (op := 62) (k' := 135) (n := 5) (kd := 1) (m := 6) (nx := 190) (r := ((h78.length + 1 : Nat) : Int)) (tl := [(2, v8), (2, v2), (0, v81), (0, (c / 2)), (0, 1)]) (st' := [(2, ((h78.length + 1 : Nat) : Int)), (2, 5)]) (by decide +kernel) rfl (by decide +kernel) (sh_new _ _) (x135 h78 Ch78 v8 v2 v81 (c / 2) 1 (by omega) (by omega) Gh78_1 Gh78_0 (by omega)) rfl ?_
                      rintro h82 ⟨Ch82, Qh82, Nh82, Fh82_0⟩
                      obtain ⟨nr80, err80⟩ : ∃ z, z = ((h78.length + 1 : Nat) : Int) := ⟨_, rfl⟩
                      rw [← err80] at Nh82 ⊢
                      try rw [← err80] at Fh82_0
                      have Xh82 : zXR msx41_z (1) (6) h h82 := Xh78.tr (c2 := 1) (s2 := 6) Qh82 (by decide +kernel) (by decide) (by decide)
                      have Gh82_0 : gH h82 v2 := Gh78_0.x Qh82
                      have Gh82_1 : gL h82 v8 := Gh78_1.x Qh82
                      have Zh82 : yC h82 = (zs (zs (zs (zs (zs (yC h) 84 (((yC h) 170 b.toNat).toNat) (w32 (((yC h) 84 (((yC h) 170 b.toNat).toNat)) - (max (yWask q (yC h) 1 a.toNat b.toNat c) 0)))) 84 a.toNat (w32 (((zs (yC h) 84 (((yC h) 170 b.toNat).toNat) (w32 (((yC h) 84 (((yC h) 170 b.toNat).toNat)) - (max (yWask q (yC h) 1 a.toNat b.toNat c) 0)))) 84 a.toNat) + (max (yWask q (yC h) 1 a.toNat b.toNat c) 0)))) 92 a.toNat (w32 (((yC h) 92 a.toNat) + c))) 175 b.toNat (w32 (((yC h) 175 b.toNat) - c))) 37 70 (w32 (((yC h) 37 70) + c))) := (yC_fr Ch78 Qh82 (by decide +kernel) (Ch78.1.b (a1 := 37) (a2 := 37) (j1 := 86) (j2 := 87) (lo := 0) (hi := 6) (by decide +kernel) (r := 37) (j := 86) (by decide) (by decide) (by decide) (by decide)).2).trans Zh78
                      have Jh82 : yR h82 := Jh78.fr Ch78 Qh82 (by decide +kernel)
                      have pv2_h82 : v2 = zv h82 3 a.toNat ∧ ((a.toNat : Nat) : Int) < fld h82 3 2 := zpv Ch78 Qh82 (A := 3) (by decide) (by decide +kernel) pv2_h78
                      have pv8_h82 : v8 = zv h82 4 b.toNat ∧ ((b.toNat : Nat) : Int) < fld h82 4 2 := zpv Ch78 Qh82 (A := 4) (by decide) (by decide +kernel) pv8_h78
                      have th82_5_2 : fld h82 5 2 = fld h78 5 2 := Qh82.f (a1 := 5) (a2 := 5) (j1 := 2) (j2 := 3) (by decide +kernel) (by first | decide | exact ⟨by decide, by decide⟩) (by first | decide | exact ⟨by decide, by decide⟩) (by first | decide | exact ⟨by decide, by decide⟩)
                      have Vh82 : zRq q h82 := Vh78.fr Ch78 Qh82 (by decide +kernel)
                      have lnr80 := Nh82.1
                      refine zwW_cm Ch82.1 (op := 60) (k' := 100) (n := 1) (kd := 0) (m := 3) (nx := 193) (r := 5) (tl := [(2, nr80)]) (st' := []) (by decide +kernel) rfl (by decide +kernel) rfl (x100_5 Ch82 Nh82 (by omega) (by have := Xh82.hl C Ch82 (by decide) hl; omega)) ?_
                      rintro x h84 ⟨rfl, Ah84⟩
                      have Ch84 := Ah84.1
                      have Qh84 : zXR [(5, 5, 0, 3)] (1) (1000) h82 h84 := Ah84.2.1
                      have zh84 : fld h84 5 2 = fld h82 5 2 + 1 := Ah84.2.2.1
                      have YLh84 := yC_clo (n := (yC h 37 78).toNat) Ch82 Jh82 Ah84 Nh82 Fh82_0 (by omega) pv8_h82.1 pv8_h82.2 pv2_h82.1 pv2_h82.2
                      have JLh84 := yR_clo (n := (yC h 37 78).toNat) Ch82 Jh82 Ah84 Nh82 Fh82_0 (by omega) pv8_h82.1 pv8_h82.2 pv2_h82.1 pv2_h82.2 (zfresh Ch78 Qh82 (by decide) (by decide +kernel) err80)
                      have VLh84 : yC h84 = (zs (zs (zs (zs (zs (zs (zs (zs (zs (zs (zs (zs (yC h) 84 (((yC h) 170 b.toNat).toNat) (w32 (((yC h) 84 (((yC h) 170 b.toNat).toNat)) - (max (yWask q (yC h) 1 a.toNat b.toNat c) 0)))) 84 a.toNat (w32 (((zs (yC h) 84 (((yC h) 170 b.toNat).toNat) (w32 (((yC h) 84 (((yC h) 170 b.toNat).toNat)) - (max (yWask q (yC h) 1 a.toNat b.toNat c) 0)))) 84 a.toNat) + (max (yWask q (yC h) 1 a.toNat b.toNat c) 0)))) 92 a.toNat (w32 (((yC h) 92 a.toNat) + c))) 175 b.toNat (w32 (((yC h) 175 b.toNat) - c))) 37 70 (w32 (((yC h) 37 70) + c))) 180 ((yC h 37 78).toNat) ((b.toNat : Nat) : Int)) 181 ((yC h 37 78).toNat) ((a.toNat : Nat) : Int)) 182 ((yC h 37 78).toNat) v81) 183 ((yC h 37 78).toNat) (c / 2)) 184 ((yC h 37 78).toNat) (-1)) 185 ((yC h 37 78).toNat) 1) 37 78 ((((yC h 37 78).toNat : Nat) : Int) + 1)) := by rw [YLh84, Zh82]
                      have Zh84 : yC h84 = (zs (zs (zs (zs (zs (zs (zs (zs (zs (zs (zs (zs (yC h) 84 (((yC h) 170 b.toNat).toNat) (w32 (((yC h) 84 (((yC h) 170 b.toNat).toNat)) - (max (yWask q (yC h) 1 a.toNat b.toNat c) 0)))) 84 a.toNat (w32 (((zs (yC h) 84 (((yC h) 170 b.toNat).toNat) (w32 (((yC h) 84 (((yC h) 170 b.toNat).toNat)) - (max (yWask q (yC h) 1 a.toNat b.toNat c) 0)))) 84 a.toNat) + (max (yWask q (yC h) 1 a.toNat b.toNat c) 0)))) 92 a.toNat (w32 (((yC h) 92 a.toNat) + c))) 175 b.toNat (w32 (((yC h) 175 b.toNat) - c))) 180 ((yC h 37 78).toNat) ((b.toNat : Nat) : Int)) 181 ((yC h 37 78).toNat) ((a.toNat : Nat) : Int)) 182 ((yC h 37 78).toNat) v81) 183 ((yC h 37 78).toNat) (c / 2)) 184 ((yC h 37 78).toNat) (-1)) 185 ((yC h 37 78).toNat) 1) 37 70 (w32 (((yC h) 37 70) + c))) 37 78 ((((yC h 37 78).toNat : Nat) : Int) + 1)) := by rw [VLh84, zs_sw (a := 37) (b := 180) (by decide), zs_sw (a := 37) (b := 181) (by decide), zs_sw (a := 37) (b := 182) (by decide), zs_sw (a := 37) (b := 183) (by decide), zs_sw (a := 37) (b := 184) (by decide), zs_sw (a := 37) (b := 185) (by decide)]
                      have Xh84 : zXR msx41_z (2) (1006) h h84 := Xh82.tr (c2 := 2) (s2 := 1006) Qh84 (by decide +kernel) (by decide) (by decide)
                      have Gh84_0 : gH h84 v2 := Gh82_0.x Qh84
                      have Gh84_1 : gL h84 v8 := Gh82_1.x Qh84
                      have pv2_h84 : v2 = zv h84 3 a.toNat ∧ ((a.toNat : Nat) : Int) < fld h84 3 2 := zpv Ch82 Qh84 (A := 3) (by decide) (by decide +kernel) pv2_h82
                      have pv8_h84 : v8 = zv h84 4 b.toNat ∧ ((b.toNat : Nat) : Int) < fld h84 4 2 := zpv Ch82 Qh84 (A := 4) (by decide) (by decide +kernel) pv8_h82
                      have Vh84 : zRq q h84 := Vh82.fr Ch82 Qh84 (by decide +kernel)
                      refine zwW_p [(15, 0, 0), (1, 0, 2)] (q := 195) (ls' := [(2, 1), (0, a), (0, b), (0, c), (2, v2), (2, v8), (0, v32), (0, 1)]) (st' := [(2, 1)]) (by decide +kernel) rfl ?_
                      refine zwW_gc Ch84.1 (kd := 12) (bn := 5) (n := 13) (c := 5) (nx := 198) (by decide +kernel) ?_
                      refine zwW_cm Ch84.1 (op := 60) (k' := 96) (n := 0) (kd := 0) (m := 3) (nx := 201) (r := 5) (tl := []) (st' := []) (by decide +kernel) rfl (by decide +kernel) rfl (x96_5 Ch84) ?_
                      rintro v85 _ ⟨rfl, ev85⟩
                      have bv85 := zLb_5 Ch84
                      have sv85 : v85 = ((((yC h 37 78).toNat : Nat) : Int) + 1) := Eq.trans ev85 (Eq.trans (Eq.symm (yC_s (h := h84) (i := 78) rfl)) (Eq.trans (congrFun (congrFun Zh84 37) 78) (zs_eq : (zs (zs (zs (zs (zs (zs (zs (zs (zs (zs (zs (zs (yC h) 84 (((yC h) 170 b.toNat).toNat) (w32 (((yC h) 84 (((yC h) 170 b.toNat).toNat)) - (max (yWask q (yC h) 1 a.toNat b.toNat c) 0)))) 84 a.toNat (w32 (((zs (yC h) 84 (((yC h) 170 b.toNat).toNat) (w32 (((yC h) 84 (((yC h) 170 b.toNat).toNat)) - (max (yWask q (yC h) 1 a.toNat b.toNat c) 0)))) 84 a.toNat) + (max (yWask q (yC h) 1 a.toNat b.toNat c) 0)))) 92 a.toNat (w32 (((yC h) 92 a.toNat) + c))) 175 b.toNat (w32 (((yC h) 175 b.toNat) - c))) 180 ((yC h 37 78).toNat) ((b.toNat : Nat) : Int)) 181 ((yC h 37 78).toNat) ((a.toNat : Nat) : Int)) 182 ((yC h 37 78).toNat) v81) 183 ((yC h 37 78).toNat) (c / 2)) 184 ((yC h 37 78).toNat) (-1)) 185 ((yC h 37 78).toNat) 1) 37 70 (w32 (((yC h) 37 70) + c))) 37 78 ((((yC h 37 78).toNat : Nat) : Int) + 1)) 37 78 = ((((yC h 37 78).toNat : Nat) : Int) + 1))))
                      refine zwW_p [(0, 1, 0)] (q := 202) (ls' := [(2, 1), (0, a), (0, b), (0, c), (2, v2), (2, v8), (0, v32), (0, 1)]) (st' := [(0, 1), (0, v85)]) (by decide +kernel) rfl ?_
                      refine zwW_sub (nx := 203) (by decide +kernel) (by first | omega | exact ⟨by omega, by omega⟩) ?_
                      refine zwW_ret (nx := 204) (a := 0) (b := 0) (by decide +kernel) rfl (Or.inl rfl) ?_
                      exact ⟨Ch84, Xh84.le (by decide) (by decide), by omega, by unfold yWvA; (repeat' (first | rw [if_pos (by omega)] | rw [if_neg (by omega)])); all_goals (first | rfl | omega), by refine Eq.trans Zh84 ?_; unfold yWvF yWvS; (repeat' (first | rw [if_pos (by omega)] | rw [if_neg (by omega)])); all_goals (repeat' (first | rfl | apply zs_cg | omega)), by exact JLh84⟩
                  · refine zwW_p [(0, -1, 0)] (q := 67) (ls' := [(2, 1), (0, a), (0, b), (0, c), (2, v2), (2, v8), (9, 0), (9, 0)]) (st' := [(0, -1)]) (by decide +kernel) rfl ?_
                    refine zwW_ret (nx := 68) (a := 0) (b := 0) (by decide +kernel) rfl (Or.inl rfl) ?_
                    exact ⟨Ch24, Xh24.le (by decide) (by decide), by omega, by unfold yWvA; (repeat' (first | rw [if_neg (by omega)] | rw [if_pos (by omega)])); all_goals (first | rfl | omega), by refine Eq.trans Zh24 ?_; unfold yWvF yWvS; (repeat' (first | rw [if_neg (by omega)] | rw [if_pos (by omega)])); all_goals (repeat' (first | rfl | apply zs_cg | omega)), by exact f22⟩
          · refine zwif_eq (q := 66) (nx := 31) (by decide +kernel) (fun c86 => ?_) (fun c86 => ?_)
            · refine zwW_p [(0, -1, 0)] (q := 67) (ls' := [(2, 1), (0, a), (0, b), (0, c), (2, v2), (2, v8), (9, 0), (9, 0)]) (st' := [(0, -1)]) (by decide +kernel) rfl ?_
              refine zwW_ret (nx := 68) (a := 0) (b := 0) (by decide +kernel) rfl (Or.inl rfl) ?_
              exact ⟨C, X.le (by decide) (by decide), by omega, by unfold yWvA; (repeat' (first | rw [if_neg (by omega)] | rw [if_pos (by omega)])); all_goals (first | rfl | omega), by refine Eq.trans (rfl : yC h = yC h) ?_; unfold yWvF yWvS; (repeat' (first | rw [if_neg (by omega)] | rw [if_pos (by omega)])); all_goals (repeat' (first | rfl | apply zs_cg | omega)), by exact J⟩
            · exfalso; omega
-- WheelLand$Village.hasRoomFor(IZ)Z
theorem x149_z {sc : List Int} (h : Hp) (C : CI h) (r a b : Int) (G_r : gV h r) (q_a : -2147483648 ≤ a ∧ a ≤ 2147483647) (J : yR h) (k : Nat) (P_r : r = zv h 2 k ∧ (k : Int) < fld h 2 2) : zwC sc 1 149 [(2, r), (0, a), (0, b)] h (zwRt 0 (fun x g => h = g ∧ ((x = 1 ∧ ((b = 0 → w32 (yC h 68 k + a) ≤ 9999) ∧ (b ≠ 0 → w32 (yC h 67 k + a) ≤ 9999))) ∨ (x = 0 ∧ ((b = 0 ∧ 9999 < w32 (yC h 68 k + a)) ∨ (b ≠ 0 ∧ 9999 < w32 (yC h 67 k + a))))))) := by
  refine zwC_of (D := 0) 3 (by decide +kernel) rfl (ls := [(2, r), (0, a), (0, b)]) rfl ?_
  have lw_r := G_r.1
  have u0 : yC h 37 0 = fld h 1 0 := rfl
  have u1 : yC h 37 1 = fld h 2 2 := rfl
  have u2 : yC h 37 2 = fld h 3 2 := rfl
  have u64 : yC h 37 64 = fld h 4 2 := rfl
  have u78 : yC h 37 78 = fld h 5 2 := rfl
  refine zwW_p [(1, 2, 0)] (q := 1) (ls' := [(2, r), (0, a), (0, b)]) (st' := [(0, b)]) (by decide +kernel) rfl ?_
  refine zwif_eq (q := 11) (nx := 4) (by decide +kernel) (fun c1 => ?_) (fun c1 => ?_)
  · refine zwW_p [(1, 0, 2)] (q := 12) (ls' := [(2, r), (0, a), (0, b)]) (st' := [(2, r)]) (by decide +kernel) rfl ?_
    refine zwX_gi C (kd := 11) (bn := 6) (n := 17) (nx := 15) (by decide +kernel) G_r.2.1 G_r.1 rfl ?_
    intro v2 ev2 lv2 uv2
    have sv2 : v2 = (yC h) 68 k := Eq.trans ev2 (Eq.trans (congrArg (fun q => fld h q 6) P_r.1) (Eq.trans (Eq.symm (yC_f (h := h) (a := 68) (A := 2) (j := 6) (i := k) rfl P_r.2)) (Eq.trans (congrFun (congrFun (rfl : yC h = yC h) 68) k) rfl)))
    refine zwW_p [(1, 1, 0)] (q := 16) (ls' := [(2, r), (0, a), (0, b)]) (st' := [(0, a), (0, v2)]) (by decide +kernel) rfl ?_
    refine zwW_adw (nx := 17) (by decide +kernel) ?_
    intro v3 ev3 lv3 uv3
    have Ev3 : v3 = w32 (((yC h) 68 k) + a) := by rw [ev3, sv2]
    refine zwW_p [(0, 9999, 0)] (q := 20) (ls' := [(2, r), (0, a), (0, b)]) (st' := [(0, 9999), (0, v3)]) (by decide +kernel) rfl ?_
    refine zwic_gt (q := 27) (nx := 23) (by decide +kernel) (fun c4 => ?_) (fun c4 => ?_)
    · refine zwW_p [(0, 0, 0)] (q := 28) (ls' := [(2, r), (0, a), (0, b)]) (st' := [(0, 0)]) (by decide +kernel) rfl ?_
      refine zwW_ret (nx := 29) (a := 1) (b := 0) (by decide +kernel) rfl (Or.inr (Or.inl ⟨rfl, Or.inl rfl⟩)) ?_
      exact ⟨rfl, Or.inr ⟨rfl, by omega⟩⟩
    · refine zwW_p [(0, 1, 0), (24, 28, 0)] (q := 28) (ls' := [(2, r), (0, a), (0, b)]) (st' := [(0, 1)]) (by decide +kernel) rfl ?_
      refine zwW_ret (nx := 29) (a := 1) (b := 0) (by decide +kernel) rfl (Or.inr (Or.inl ⟨rfl, Or.inr rfl⟩)) ?_
      exact ⟨rfl, Or.inl ⟨rfl, by omega⟩⟩
  · refine zwW_p [(1, 0, 2)] (q := 5) (ls' := [(2, r), (0, a), (0, b)]) (st' := [(2, r)]) (by decide +kernel) rfl ?_
    refine zwX_gi C (kd := 11) (bn := 5) (n := 17) (nx := 8) (by decide +kernel) G_r.2.1 G_r.1 rfl ?_
    intro v5 ev5 lv5 uv5
    have sv5 : v5 = (yC h) 67 k := Eq.trans ev5 (Eq.trans (congrArg (fun q => fld h q 5) P_r.1) (Eq.trans (Eq.symm (yC_f (h := h) (a := 67) (A := 2) (j := 5) (i := k) rfl P_r.2)) (Eq.trans (congrFun (congrFun (rfl : yC h = yC h) 67) k) rfl)))
    refine zwW_p [(24, 15, 0), (1, 1, 0)] (q := 16) (ls' := [(2, r), (0, a), (0, b)]) (st' := [(0, a), (0, v5)]) (by decide +kernel) rfl ?_
    refine zwW_adw (nx := 17) (by decide +kernel) ?_
    intro v6 ev6 lv6 uv6
    have Ev6 : v6 = w32 (((yC h) 67 k) + a) := by rw [ev6, sv5]
    refine zwW_p [(0, 9999, 0)] (q := 20) (ls' := [(2, r), (0, a), (0, b)]) (st' := [(0, 9999), (0, v6)]) (by decide +kernel) rfl ?_
    refine zwic_gt (q := 27) (nx := 23) (by decide +kernel) (fun c7 => ?_) (fun c7 => ?_)
    · refine zwW_p [(0, 0, 0)] (q := 28) (ls' := [(2, r), (0, a), (0, b)]) (st' := [(0, 0)]) (by decide +kernel) rfl ?_
      refine zwW_ret (nx := 29) (a := 1) (b := 0) (by decide +kernel) rfl (Or.inr (Or.inl ⟨rfl, Or.inl rfl⟩)) ?_
      exact ⟨rfl, Or.inr ⟨rfl, by omega⟩⟩
    · refine zwW_p [(0, 1, 0), (24, 28, 0)] (q := 28) (ls' := [(2, r), (0, a), (0, b)]) (st' := [(0, 1)]) (by decide +kernel) rfl ?_
      refine zwW_ret (nx := 29) (a := 1) (b := 0) (by decide +kernel) rfl (Or.inr (Or.inl ⟨rfl, Or.inr rfl⟩)) ?_
      exact ⟨rfl, Or.inl ⟨rfl, by omega⟩⟩
def msx150_z : Zms := [(1011, 1011, 5, 6), (1011, 1011, 6, 7), (1011, 1011, 12, 13)]
-- WheelLand$Village.putHand(IZ)V
theorem x150_z {sc : List Int} (h : Hp) (C : CI h) (r a b : Int) (G_r : gV h r) (q_a : -2147483648 ≤ a ∧ a ≤ 2147483647) (J : yR h) (k : Nat) (P_r : r = zv h 2 k ∧ (k : Int) < fld h 2 2) : zwC sc 1 150 [(2, r), (0, a), (0, b)] h (zwRv (fun g => CI g ∧ zXR msx150_z (0) (0) h g ∧ (yC g = yPut (yC h) k a b) ∧ (yR g))) := by
  refine zwC_of (D := 0) 3 (by decide +kernel) rfl (ls := [(2, r), (0, a), (0, b)]) rfl ?_
  have lw_r := G_r.1
  have X : zXR msx150_z 0 0 h h := zXR.rf _ _
  have u0 : yC h 37 0 = fld h 1 0 := rfl
  have u1 : yC h 37 1 = fld h 2 2 := rfl
  have u2 : yC h 37 2 = fld h 3 2 := rfl
  have u64 : yC h 37 64 = fld h 4 2 := rfl
  have u78 : yC h 37 78 = fld h 5 2 := rfl
  refine zwW_p [(1, 2, 0)] (q := 1) (ls' := [(2, r), (0, a), (0, b)]) (st' := [(0, b)]) (by decide +kernel) rfl ?_
  refine zwif_eq (q := 27) (nx := 4) (by decide +kernel) (fun c1 => ?_) (fun c1 => ?_)
  · refine zwW_p [(1, 0, 2), (12, 0, 0)] (q := 29) (ls' := [(2, r), (0, a), (0, b)]) (st' := [(2, r), (2, r)]) (by decide +kernel) rfl ?_
    refine zwX_gi C (kd := 11) (bn := 6) (n := 17) (nx := 32) (by decide +kernel) G_r.2.1 G_r.1 rfl ?_
    intro v2 ev2 lv2 uv2
    have sv2 : v2 = (yC h) 68 k := Eq.trans ev2 (Eq.trans (congrArg (fun q => fld h q 6) P_r.1) (Eq.trans (Eq.symm (yC_f (h := h) (a := 68) (A := 2) (j := 6) (i := k) rfl P_r.2)) (Eq.trans (congrFun (congrFun (rfl : yC h = yC h) 68) k) rfl)))
    refine zwW_p [(1, 1, 0)] (q := 33) (ls' := [(2, r), (0, a), (0, b)]) (st' := [(0, a), (0, v2), (2, r)]) (by decide +kernel) rfl ?_
    refine zwW_adw (nx := 34) (by decide +kernel) ?_
    intro v3 ev3 lv3 uv3
    have Ev3 : v3 = w32 (((yC h) 68 k) + a) := by rw [ev3, sv2]
    refine zwX_pi C (kd := 11) (bn := 6) (n := 17) (nx := 37) (by decide +kernel) G_r.2.1 G_r.1 (by first | omega | exact ⟨by omega, by omega⟩) ?_
    rintro h4 eh4 Ch4 Qh4
    have Zh4 : yC h4 = (zs (yC h) 68 k (w32 (((yC h) 68 k) + a))) := by rw [yC_w (a := 68) (A := 2) (j := 6) (k := k) C J rfl P_r eh4, Ev3]
    have Xh4 : zXR msx150_z (0) (0) h h4 := X.tr (c2 := 0) (s2 := 0) Qh4 (by decide +kernel) (by decide) (by decide)
    have Gh4_0 : gV h4 r := G_r.x Qh4
    have Jh4 : yR h4 := J.fr C Qh4 (by decide +kernel)
    have pr_h4 : r = zv h4 2 k ∧ ((k : Nat) : Int) < fld h4 2 2 := zpv C Qh4 (A := 2) (by decide) (by decide +kernel) P_r
    refine zwW_retv (nx := 38) (a := 0) (b := 0) (by decide +kernel) ?_
    exact ⟨Ch4, Xh4.le (by decide) (by decide), by refine Eq.trans Zh4 ?_; unfold yPut; (repeat' (first | rw [if_pos (by omega)] | rw [if_neg (by omega)])); all_goals (repeat' (first | rfl | apply zs_cg | omega)), by exact Jh4⟩
  · refine zwW_p [(1, 0, 2), (12, 0, 0)] (q := 6) (ls' := [(2, r), (0, a), (0, b)]) (st' := [(2, r), (2, r)]) (by decide +kernel) rfl ?_
    refine zwX_gi C (kd := 11) (bn := 5) (n := 17) (nx := 9) (by decide +kernel) G_r.2.1 G_r.1 rfl ?_
    intro v5 ev5 lv5 uv5
    have sv5 : v5 = (yC h) 67 k := Eq.trans ev5 (Eq.trans (congrArg (fun q => fld h q 5) P_r.1) (Eq.trans (Eq.symm (yC_f (h := h) (a := 67) (A := 2) (j := 5) (i := k) rfl P_r.2)) (Eq.trans (congrFun (congrFun (rfl : yC h = yC h) 67) k) rfl)))
    refine zwW_p [(1, 1, 0)] (q := 10) (ls' := [(2, r), (0, a), (0, b)]) (st' := [(0, a), (0, v5), (2, r)]) (by decide +kernel) rfl ?_
    refine zwW_adw (nx := 11) (by decide +kernel) ?_
    intro v6 ev6 lv6 uv6
    have Ev6 : v6 = w32 (((yC h) 67 k) + a) := by rw [ev6, sv5]
    refine zwX_pi C (kd := 11) (bn := 5) (n := 17) (nx := 14) (by decide +kernel) G_r.2.1 G_r.1 (by first | omega | exact ⟨by omega, by omega⟩) ?_
    rintro h7 eh7 Ch7 Qh7
    have Zh7 : yC h7 = (zs (yC h) 67 k (w32 (((yC h) 67 k) + a))) := by rw [yC_w (a := 67) (A := 2) (j := 5) (k := k) C J rfl P_r eh7, Ev6]
    have Xh7 : zXR msx150_z (0) (0) h h7 := X.tr (c2 := 0) (s2 := 0) Qh7 (by decide +kernel) (by decide) (by decide)
    have Gh7_0 : gV h7 r := G_r.x Qh7
    have Jh7 : yR h7 := J.fr C Qh7 (by decide +kernel)
    have pr_h7 : r = zv h7 2 k ∧ ((k : Nat) : Int) < fld h7 2 2 := zpv C Qh7 (A := 2) (by decide) (by decide +kernel) P_r
    refine zwW_p [(1, 0, 2), (12, 0, 0)] (q := 16) (ls' := [(2, r), (0, a), (0, b)]) (st' := [(2, r), (2, r)]) (by decide +kernel) rfl ?_
    refine zwX_gi Ch7 (kd := 11) (bn := 12) (n := 17) (nx := 19) (by decide +kernel) Gh7_0.2.1 Gh7_0.1 rfl ?_
    intro v8 ev8 lv8 uv8
    have sv8 : v8 = (yC h) 75 k := Eq.trans ev8 (Eq.trans (congrArg (fun q => fld h7 q 12) pr_h7.1) (Eq.trans (Eq.symm (yC_f (h := h7) (a := 75) (A := 2) (j := 12) (i := k) rfl pr_h7.2)) (Eq.trans (congrFun (congrFun Zh7 75) k) (Eq.trans (zs_na (by decide) : (zs (yC h) 67 k (w32 (((yC h) 67 k) + a))) 75 k = (yC h) 75 k) rfl))))
    refine zwW_p [(1, 1, 0)] (q := 20) (ls' := [(2, r), (0, a), (0, b)]) (st' := [(0, a), (0, v8), (2, r)]) (by decide +kernel) rfl ?_
    refine zwW_adw (nx := 21) (by decide +kernel) ?_
    intro v9 ev9 lv9 uv9
    have Ev9 : v9 = w32 (((yC h) 75 k) + a) := by rw [ev9, sv8]
    refine zwX_pi Ch7 (kd := 11) (bn := 12) (n := 17) (nx := 24) (by decide +kernel) Gh7_0.2.1 Gh7_0.1 (by first | omega | exact ⟨by omega, by omega⟩) ?_
    rintro h10 eh10 Ch10 Qh10
    have Zh10 : yC h10 = (zs (zs (yC h) 67 k (w32 (((yC h) 67 k) + a))) 75 k (w32 (((yC h) 75 k) + a))) := by rw [yC_w (a := 75) (A := 2) (j := 12) (k := k) Ch7 Jh7 rfl pr_h7 eh10, Zh7, Ev9]
    have Xh10 : zXR msx150_z (0) (0) h h10 := Xh7.tr (c2 := 0) (s2 := 0) Qh10 (by decide +kernel) (by decide) (by decide)
    have Gh10_0 : gV h10 r := Gh7_0.x Qh10
    have Jh10 : yR h10 := Jh7.fr Ch7 Qh10 (by decide +kernel)
    have pr_h10 : r = zv h10 2 k ∧ ((k : Nat) : Int) < fld h10 2 2 := zpv Ch7 Qh10 (A := 2) (by decide) (by decide +kernel) pr_h7
    refine zwW_p [(24, 37, 0)] (q := 37) (ls' := [(2, r), (0, a), (0, b)]) (st' := []) (by decide +kernel) rfl ?_
    refine zwW_retv (nx := 38) (a := 0) (b := 0) (by decide +kernel) ?_
    exact ⟨Ch10, Xh10.le (by decide) (by decide), by refine Eq.trans Zh10 ?_; unfold yPut; (repeat' (first | rw [if_pos (by omega)] | rw [if_neg (by omega)])); all_goals (repeat' (first | rfl | apply zs_cg | omega)), by exact Jh10⟩
def msx51_z : Zms := [(1001, 1001, 5, 6), (1011, 1011, 5, 6), (1011, 1011, 6, 7), (1011, 1011, 12, 13)]
-- WheelLand.bring(II)I
theorem x51_z {sc : List Int} (h : Hp) (C : CI h) (a b : Int) (q_a : -2147483648 ≤ a ∧ a ≤ 2147483647) (q_b : -2147483648 ≤ b ∧ b ≤ 2147483647) (J : yR h) (PF8 : yF8 (yC h)) (ok : yOK (yC h)) (RM : yRm (yC h)) : zwC sc 6 51 [(2, 1), (0, a), (0, b)] h (zwRt 0 (fun x g => CI g ∧ zXR msx51_z (0) (0) h g ∧ (-2147483648 ≤ x ∧ x ≤ 2147483647) ∧ (x = yBrA (yC h) a b) ∧ (yC g = yBrF (yC h) a b) ∧ (yR g))) := by
  refine zwC_of (D := 5) 5 (by decide +kernel) rfl (ls := [(2, 1), (0, a), (0, b), (9, 0), (9, 0)]) rfl ?_
  have X : zXR msx51_z 0 0 h h := zXR.rf _ _
  have u0 : yC h 37 0 = fld h 1 0 := rfl
  have u1 : yC h 37 1 = fld h 2 2 := rfl
  have u2 : yC h 37 2 = fld h 3 2 := rfl
  have u64 : yC h 37 64 = fld h 4 2 := rfl
  have u78 : yC h 37 78 = fld h 5 2 := rfl
  refine zwW_p [(1, 0, 2), (1, 1, 0)] (q := 2) (ls' := [(2, 1), (0, a), (0, b), (9, 0), (9, 0)]) (st' := [(0, a), (2, 1)]) (by decide +kernel) rfl ?_
  refine zwW_cm C.1 (op := 60) (k' := 138) (n := 1) (kd := 12) (m := 13) (nx := 5) (r := 1) (tl := [(0, a)]) (st' := []) (by decide +kernel) rfl (by decide +kernel) rfl (x138 h C a (by omega)) ?_
  rintro v2 _ ⟨rfl, ⟨rfl, c1⟩ | ⟨Gv2, c1⟩⟩
  · refine zwW_p [(2, 3, 2), (1, 0, 2), (1, 2, 0)] (q := 8) (ls' := [(2, 1), (0, a), (0, b), (2, 0), (9, 0)]) (st' := [(0, b), (2, 1)]) (by decide +kernel) rfl ?_
    refine zwW_cm C.1 (op := 60) (k' := 102) (n := 1) (kd := 12) (m := 13) (nx := 11) (r := 1) (tl := [(0, b)]) (st' := []) (by decide +kernel) rfl (by decide +kernel) rfl (x102 h C b (by omega)) ?_
    rintro v4 _ ⟨rfl, ⟨rfl, c3⟩ | ⟨Gv4, c3⟩⟩
    · refine zwW_p [(2, 4, 2), (1, 3, 2)] (q := 14) (ls' := [(2, 1), (0, a), (0, b), (2, 0), (2, 0)]) (st' := [(2, 0)]) (by decide +kernel) rfl ?_
      refine zwnu_eq (q := 63) (nx := 17) (by decide +kernel) (by decide) (fun c5 => ?_) (fun c5 => ?_)
      · refine zwW_p [(0, -1, 0)] (q := 64) (ls' := [(2, 1), (0, a), (0, b), (2, 0), (2, 0)]) (st' := [(0, -1)]) (by decide +kernel) rfl ?_
        refine zwW_ret (nx := 65) (a := 0) (b := 0) (by decide +kernel) rfl (Or.inl rfl) ?_
        exact ⟨C, X.le (by decide) (by decide), by omega, by first | (exfalso; omega) | (unfold yBrA; (repeat' (first | rw [if_neg (by omega)] | rw [if_pos (by omega)])); all_goals (first | rfl | omega)), by first | (exfalso; omega) | (refine Eq.trans (rfl : yC h = yC h) ?_; unfold yBrF; (repeat' (first | rw [if_neg (by omega)] | rw [if_pos (by omega)])); all_goals (first | rfl | omega)), by exact J⟩
      · exfalso; omega
    · have lv4 := Gv4.1
      have ev4 := c3.2.2
      have pv4 : v4 = zv h 2 b.toNat ∧ ((b.toNat : Nat) : Int) < fld h 2 2 := ⟨ev4, by omega⟩
      refine zwW_p [(2, 4, 2), (1, 3, 2)] (q := 14) (ls' := [(2, 1), (0, a), (0, b), (2, 0), (2, v4)]) (st' := [(2, 0)]) (by decide +kernel) rfl ?_
      refine zwnu_eq (q := 63) (nx := 17) (by decide +kernel) (by decide) (fun c6 => ?_) (fun c6 => ?_)
      · refine zwW_p [(0, -1, 0)] (q := 64) (ls' := [(2, 1), (0, a), (0, b), (2, 0), (2, v4)]) (st' := [(0, -1)]) (by decide +kernel) rfl ?_
        refine zwW_ret (nx := 65) (a := 0) (b := 0) (by decide +kernel) rfl (Or.inl rfl) ?_
        exact ⟨C, X.le (by decide) (by decide), by omega, by first | (exfalso; omega) | (unfold yBrA; (repeat' (first | rw [if_neg (by omega)] | rw [if_pos (by omega)])); all_goals (first | rfl | omega)), by first | (exfalso; omega) | (refine Eq.trans (rfl : yC h = yC h) ?_; unfold yBrF; (repeat' (first | rw [if_neg (by omega)] | rw [if_pos (by omega)])); all_goals (first | rfl | omega)), by exact J⟩
      · exfalso; omega
  · have lv2 := Gv2.1
    have ev2 := c1.2.2
    have pv2 : v2 = zv h 5 a.toNat ∧ ((a.toNat : Nat) : Int) < fld h 5 2 := ⟨ev2, by omega⟩
    refine zwW_p [(2, 3, 2), (1, 0, 2), (1, 2, 0)] (q := 8) (ls' := [(2, 1), (0, a), (0, b), (2, v2), (9, 0)]) (st' := [(0, b), (2, 1)]) (by decide +kernel) rfl ?_
    refine zwW_cm C.1 (op := 60) (k' := 102) (n := 1) (kd := 12) (m := 13) (nx := 11) (r := 1) (tl := [(0, b)]) (st' := []) (by decide +kernel) rfl (by decide +kernel) rfl (x102 h C b (by omega)) ?_
    rintro v8 _ ⟨rfl, ⟨rfl, c7⟩ | ⟨Gv8, c7⟩⟩
    · refine zwW_p [(2, 4, 2), (1, 3, 2)] (q := 14) (ls' := [(2, 1), (0, a), (0, b), (2, v2), (2, 0)]) (st' := [(2, v2)]) (by decide +kernel) rfl ?_
      refine zwnu_eq (q := 63) (nx := 17) (by decide +kernel) (by omega) (fun c9 => ?_) (fun c9 => ?_)
      · exfalso; omega
      · refine zwW_p [(1, 4, 2)] (q := 19) (ls' := [(2, 1), (0, a), (0, b), (2, v2), (2, 0)]) (st' := [(2, 0)]) (by decide +kernel) rfl ?_
        refine zwnu_eq (q := 63) (nx := 22) (by decide +kernel) (by decide) (fun c10 => ?_) (fun c10 => ?_)
        · refine zwW_p [(0, -1, 0)] (q := 64) (ls' := [(2, 1), (0, a), (0, b), (2, v2), (2, 0)]) (st' := [(0, -1)]) (by decide +kernel) rfl ?_
          refine zwW_ret (nx := 65) (a := 0) (b := 0) (by decide +kernel) rfl (Or.inl rfl) ?_
          exact ⟨C, X.le (by decide) (by decide), by omega, by first | (exfalso; omega) | (unfold yBrA; (repeat' (first | rw [if_neg (by omega)] | rw [if_pos (by omega)])); all_goals (first | rfl | omega)), by first | (exfalso; omega) | (refine Eq.trans (rfl : yC h = yC h) ?_; unfold yBrF; (repeat' (first | rw [if_neg (by omega)] | rw [if_pos (by omega)])); all_goals (first | rfl | omega)), by exact J⟩
        · exfalso; omega
    · have lv8 := Gv8.1
      have ev8 := c7.2.2
      have pv8 : v8 = zv h 2 b.toNat ∧ ((b.toNat : Nat) : Int) < fld h 2 2 := ⟨ev8, by omega⟩
      refine zwW_p [(2, 4, 2), (1, 3, 2)] (q := 14) (ls' := [(2, 1), (0, a), (0, b), (2, v2), (2, v8)]) (st' := [(2, v2)]) (by decide +kernel) rfl ?_
      refine zwnu_eq (q := 63) (nx := 17) (by decide +kernel) (by omega) (fun c11 => ?_) (fun c11 => ?_)
      · exfalso; omega
      · refine zwW_p [(1, 4, 2)] (q := 19) (ls' := [(2, 1), (0, a), (0, b), (2, v2), (2, v8)]) (st' := [(2, v8)]) (by decide +kernel) rfl ?_
        refine zwnu_eq (q := 63) (nx := 22) (by decide +kernel) (by omega) (fun c12 => ?_) (fun c12 => ?_)
        · exfalso; omega
        · refine zwW_p [(1, 3, 2)] (q := 23) (ls' := [(2, 1), (0, a), (0, b), (2, v2), (2, v8)]) (st' := [(2, v2)]) (by decide +kernel) rfl ?_
          refine zwX_gi C (kd := 1) (bn := 5) (n := 6) (nx := 26) (by decide +kernel) Gv2.2.1 Gv2.1 rfl ?_
          intro v13 ev13 lv13 uv13
          have sv13 : v13 = (yC h) 184 a.toNat := Eq.trans ev13 (Eq.trans (congrArg (fun q => fld h q 5) pv2.1) (Eq.trans (Eq.symm (yC_f (h := h) (a := 184) (A := 5) (j := 5) (i := a.toNat) rfl pv2.2)) (Eq.trans (congrFun (congrFun (rfl : yC h = yC h) 184) a.toNat) rfl)))
          refine zwW_p [(0, -1, 0)] (q := 27) (ls' := [(2, 1), (0, a), (0, b), (2, v2), (2, v8)]) (st' := [(0, -1), (0, v13)]) (by decide +kernel) rfl ?_
          refine zwic_ne (q := 63) (nx := 30) (by decide +kernel) (fun c14 => ?_) (fun c14 => ?_)
          · refine zwW_p [(0, -1, 0)] (q := 64) (ls' := [(2, 1), (0, a), (0, b), (2, v2), (2, v8)]) (st' := [(0, -1)]) (by decide +kernel) rfl ?_
            refine zwW_ret (nx := 65) (a := 0) (b := 0) (by decide +kernel) rfl (Or.inl rfl) ?_
            exact ⟨C, X.le (by decide) (by decide), by omega, by first | (exfalso; omega) | (unfold yBrA; (repeat' (first | rw [if_neg (by omega)] | rw [if_pos (by omega)])); all_goals (first | rfl | omega)), by first | (exfalso; omega) | (refine Eq.trans (rfl : yC h = yC h) ?_; unfold yBrF; (repeat' (first | rw [if_neg (by omega)] | rw [if_pos (by omega)])); all_goals (first | rfl | omega)), by exact J⟩
          · refine zwW_p [(1, 0, 2), (1, 3, 2)] (q := 32) (ls' := [(2, 1), (0, a), (0, b), (2, v2), (2, v8)]) (st' := [(2, v2), (2, 1)]) (by decide +kernel) rfl ?_
            refine zwW_get (kd := 1) (bn := 1) (t := 2) (n := 6) (nx := 35) (by decide +kernel) Gv2.2.1 rfl ?_
            obtain ⟨v15, ev15⟩ : ∃ z, z = fld h v2 1 := ⟨_, rfl⟩
            rw [← ev15]
            have Gv15 : gH h v15 := by rw [ev15]; exact Gv2.2.2.2
            have lv15 := Gv15.1
            have qv15 : yC h 181 a.toNat = (yC h) 181 a.toNat := Eq.trans (congrFun (congrFun (rfl : yC h = yC h) 181) a.toNat) rfl
            have wv15 := J.r (a := 181) (A := 5) (j := 1) (B := 3) (i := a.toNat) rfl pv2.2
            rw [qv15] at wv15
            have pv15 : v15 = zv h 3 (((yC h) 181 a.toNat).toNat) ∧ ((((yC h) 181 a.toNat).toNat : Nat) : Int) < fld h 3 2 := ⟨by rw [ev15, pv2.1]; exact wv15.2.2, wv15.2.1⟩
            refine zwW_get (kd := 4) (bn := 1) (t := 2) (n := 19) (nx := 38) (by decide +kernel) Gv15.2.1 rfl ?_
            obtain ⟨v16, ev16⟩ : ∃ z, z = fld h v15 1 := ⟨_, rfl⟩
            rw [← ev16]
            have Gv16 : gV h v16 := by rw [ev16]; exact Gv15.2.2
            have lv16 := Gv16.1
            have qv16 : yC h 79 (((yC h) 181 a.toNat).toNat) = (yC h) 79 (((yC h) 181 a.toNat).toNat) := Eq.trans (congrFun (congrFun (rfl : yC h = yC h) 79) (((yC h) 181 a.toNat).toNat)) rfl
            have wv16 := J.r (a := 79) (A := 3) (j := 1) (B := 2) (i := ((yC h) 181 a.toNat).toNat) rfl pv15.2
            rw [qv16] at wv16
            have pv16 : v16 = zv h 2 (((yC h) 79 (((yC h) 181 a.toNat).toNat)).toNat) ∧ ((((yC h) 79 (((yC h) 181 a.toNat).toNat)).toNat : Nat) : Int) < fld h 2 2 := ⟨by rw [ev16, pv15.1]; exact wv16.2.2, wv16.2.1⟩
            refine zwW_p [(1, 4, 2)] (q := 40) (ls' := [(2, 1), (0, a), (0, b), (2, v2), (2, v8)]) (st' := [(2, v8), (2, v16), (2, 1)]) (by decide +kernel) rfl ?_
            refine zwW_cm C.1 (op := 60) (k' := 105) (n := 2) (kd := 12) (m := 13) (nx := 43) (r := 1) (tl := [(2, v16), (2, v8)]) (st' := []) (by decide +kernel) rfl (by decide +kernel) rfl (x105_z h C v16 v8 Gv16 Gv8 J (((yC h) 79 (((yC h) 181 a.toNat).toNat)).toNat) pv16 b.toNat pv8 PF8) ?_
            rintro v17 _ ⟨rfl, f18, f19, f20⟩
            have sv17 : v17 = yFarq (yC h) (((yC h) 79 (((yC h) 181 a.toNat).toNat)).toNat) b.toNat := by rw [f20]
            refine zwW_p [(0, -1, 0)] (q := 44) (ls' := [(2, 1), (0, a), (0, b), (2, v2), (2, v8)]) (st' := [(0, -1), (0, v17)]) (by decide +kernel) rfl ?_
            refine zwic_eq (q := 63) (nx := 47) (by decide +kernel) (fun c21 => ?_) (fun c21 => ?_)
            · refine zwW_p [(0, -1, 0)] (q := 64) (ls' := [(2, 1), (0, a), (0, b), (2, v2), (2, v8)]) (st' := [(0, -1)]) (by decide +kernel) rfl ?_
              refine zwW_ret (nx := 65) (a := 0) (b := 0) (by decide +kernel) rfl (Or.inl rfl) ?_
              exact ⟨C, X.le (by decide) (by decide), by omega, by first | (exfalso; omega) | (unfold yBrA; (repeat' (first | rw [if_neg (by omega)] | rw [if_pos (by omega)])); all_goals (first | rfl | omega)), by first | (exfalso; omega) | (refine Eq.trans (rfl : yC h = yC h) ?_; unfold yBrF; (repeat' (first | rw [if_neg (by omega)] | rw [if_pos (by omega)])); all_goals (first | rfl | omega)), by exact J⟩
            · refine zwW_p [(1, 4, 2), (1, 3, 2)] (q := 50) (ls' := [(2, 1), (0, a), (0, b), (2, v2), (2, v8)]) (st' := [(2, v2), (2, v8)]) (by decide +kernel) rfl ?_
              refine zwX_gi C (kd := 1) (bn := 3) (n := 6) (nx := 53) (by decide +kernel) Gv2.2.1 Gv2.1 rfl ?_
              intro v22 ev22 lv22 uv22
              have sv22 : v22 = (yC h) 183 a.toNat := Eq.trans ev22 (Eq.trans (congrArg (fun q => fld h q 3) pv2.1) (Eq.trans (Eq.symm (yC_f (h := h) (a := 183) (A := 5) (j := 3) (i := a.toNat) rfl pv2.2)) (Eq.trans (congrFun (congrFun (rfl : yC h = yC h) 183) a.toNat) rfl)))
              refine zwW_p [(1, 3, 2)] (q := 54) (ls' := [(2, 1), (0, a), (0, b), (2, v2), (2, v8)]) (st' := [(2, v2), (0, v22), (2, v8)]) (by decide +kernel) rfl ?_
              refine zwW_get (kd := 1) (bn := 4) (t := 0) (n := 6) (nx := 57) (by decide +kernel) Gv2.2.1 rfl ?_
              obtain ⟨v23, ev23⟩ : ∃ z, z = fld h v2 4 := ⟨_, rfl⟩
              rw [← ev23]
              have sv23 : v23 = (yC h) 185 a.toNat := Eq.trans ev23 (Eq.trans (congrArg (fun q => fld h q 4) pv2.1) (Eq.trans (Eq.symm (yC_f (h := h) (a := 185) (A := 5) (j := 4) (i := a.toNat) rfl pv2.2)) (Eq.trans (congrFun (congrFun (rfl : yC h = yC h) 185) a.toNat) rfl)))
              have RM57 := RM a.toNat b.toNat (by omega) (by omega) (by omega)
              have W57 : w32 (yC h 68 b.toNat + v22) = yC h 68 b.toNat + v22 := w32_id (by first | omega | exact ⟨by omega, by omega⟩)
              have W58 : w32 (yC h 67 b.toNat + v22) = yC h 67 b.toNat + v22 := w32_id (by first | omega | exact ⟨by omega, by omega⟩)
              refine zwW_cv (op := 60) (k' := 149) (n := 2) (kd := 11) (m := 17) (nx := 60) (r := v8) (tl := [(0, v22), (0, v23)]) (st' := []) (by decide +kernel) rfl (by decide +kernel) Gv8.2.1 (x149_z h C v8 v22 v23 Gv8 (by omega) J b.toNat pv8) rfl ?_
              rintro x _ ⟨rfl, ⟨rfl, c24⟩ | ⟨rfl, c24⟩⟩
              · refine zwif_ne (q := 65) (nx := 63) (by decide +kernel) (fun c25 => ?_) (fun c25 => ?_)
                · refine zwW_p [(1, 3, 2), (1, 2, 0)] (q := 67) (ls' := [(2, 1), (0, a), (0, b), (2, v2), (2, v8)]) (st' := [(0, b), (2, v2)]) (by decide +kernel) rfl ?_
                  refine zwX_pi C (kd := 1) (bn := 5) (n := 6) (nx := 70) (by decide +kernel) Gv2.2.1 Gv2.1 (by first | omega | exact ⟨by omega, by omega⟩) ?_
                  rintro h26 eh26 Ch26 Qh26
                  have Zh26 : yC h26 = (zs (yC h) 184 a.toNat b) := by rw [yC_w (a := 184) (A := 5) (j := 5) (k := a.toNat) C J rfl pv2 eh26]
                  have Xh26 : zXR msx51_z (0) (0) h h26 := X.tr (c2 := 0) (s2 := 0) Qh26 (by decide +kernel) (by decide) (by decide)
                  have Gh26_0 : gC h26 v2 := Gv2.x Qh26
                  have Gh26_1 : gV h26 v8 := Gv8.x Qh26
                  have Jh26 : yR h26 := J.fr C Qh26 (by decide +kernel)
                  have pv2_h26 : v2 = zv h26 5 a.toNat ∧ ((a.toNat : Nat) : Int) < fld h26 5 2 := zpv C Qh26 (A := 5) (by decide) (by decide +kernel) pv2
                  have pv8_h26 : v8 = zv h26 2 b.toNat ∧ ((b.toNat : Nat) : Int) < fld h26 2 2 := zpv C Qh26 (A := 2) (by decide) (by decide +kernel) pv8
                  refine zwW_p [(1, 4, 2), (1, 3, 2)] (q := 73) (ls' := [(2, 1), (0, a), (0, b), (2, v2), (2, v8)]) (st' := [(2, v2), (2, v8)]) (by decide +kernel) rfl ?_
                  refine zwX_gi Ch26 (kd := 1) (bn := 3) (n := 6) (nx := 76) (by decide +kernel) Gh26_0.2.1 Gh26_0.1 rfl ?_
                  intro v27 ev27 lv27 uv27
                  have sv27 : v27 = (yC h) 183 a.toNat := Eq.trans ev27 (Eq.trans (congrArg (fun q => fld h26 q 3) pv2_h26.1) (Eq.trans (Eq.symm (yC_f (h := h26) (a := 183) (A := 5) (j := 3) (i := a.toNat) rfl pv2_h26.2)) (Eq.trans (congrFun (congrFun Zh26 183) a.toNat) (Eq.trans (zs_na (by decide) : (zs (yC h) 184 a.toNat b) 183 a.toNat = (yC h) 183 a.toNat) rfl))))
                  refine zwW_p [(1, 3, 2)] (q := 77) (ls' := [(2, 1), (0, a), (0, b), (2, v2), (2, v8)]) (st' := [(2, v2), (0, v27), (2, v8)]) (by decide +kernel) rfl ?_
                  refine zwW_get (kd := 1) (bn := 4) (t := 0) (n := 6) (nx := 80) (by decide +kernel) Gh26_0.2.1 rfl ?_
                  obtain ⟨v28, ev28⟩ : ∃ z, z = fld h26 v2 4 := ⟨_, rfl⟩
                  rw [← ev28]
                  have sv28 : v28 = (yC h) 185 a.toNat := Eq.trans ev28 (Eq.trans (congrArg (fun q => fld h26 q 4) pv2_h26.1) (Eq.trans (Eq.symm (yC_f (h := h26) (a := 185) (A := 5) (j := 4) (i := a.toNat) rfl pv2_h26.2)) (Eq.trans (congrFun (congrFun Zh26 185) a.toNat) (Eq.trans (zs_na (by decide) : (zs (yC h) 184 a.toNat b) 185 a.toNat = (yC h) 185 a.toNat) rfl))))
                  refine zwW_cvv (op := 60) (k' := 150) (n := 2) (kd := 11) (m := 17) (nx := 83) (r := v8) (tl := [(0, v27), (0, v28)]) (st' := []) (by decide +kernel) rfl (by decide +kernel) Gh26_1.2.1 (x150_z h26 Ch26 v8 v27 v28 Gh26_1 (by omega) Jh26 b.toNat pv8_h26) rfl ?_
                  rintro h31 ⟨Ch31, Qh31, f29, f30⟩
                  have Zh31 : yC h31 = (yPut (zs (yC h) 184 a.toNat b) b.toNat ((yC h) 183 a.toNat) ((yC h) 185 a.toNat)) := by rw [f29, Zh26, sv27, sv28]
                  have Xh31 : zXR msx51_z (0) (0) h h31 := Xh26.tr (c2 := 0) (s2 := 0) Qh31 (by decide +kernel) (by decide) (by decide)
                  have Gh31_0 : gC h31 v2 := Gh26_0.x Qh31
                  have Gh31_1 : gV h31 v8 := Gh26_1.x Qh31
                  have pv2_h31 : v2 = zv h31 5 a.toNat ∧ ((a.toNat : Nat) : Int) < fld h31 5 2 := zpv Ch26 Qh31 (A := 5) (by decide) (by decide +kernel) pv2_h26
                  have pv8_h31 : v8 = zv h31 2 b.toNat ∧ ((b.toNat : Nat) : Int) < fld h31 2 2 := zpv Ch26 Qh31 (A := 2) (by decide) (by decide +kernel) pv8_h26
                  have E83 : (yPut (zs (yC h) 184 a.toNat b) b.toNat ((yC h) 183 a.toNat) ((yC h) 185 a.toNat)) = yBrS (yC h) a.toNat b.toNat := yPut_br (by omega)
                  refine zwW_p [(1, 4, 2)] (q := 85) (ls' := [(2, 1), (0, a), (0, b), (2, v2), (2, v8)]) (st' := [(2, v8)]) (by decide +kernel) rfl ?_
                  refine zwX_gi Ch31 (kd := 11) (bn := 5) (n := 17) (nx := 88) (by decide +kernel) Gh31_1.2.1 Gh31_1.1 rfl ?_
                  intro v32 ev32 lv32 uv32
                  have sv32 : v32 = (yBrS (yC h) a.toNat b.toNat) 67 b.toNat := Eq.trans ev32 (Eq.trans (congrArg (fun q => fld h31 q 5) pv8_h31.1) (Eq.trans (Eq.symm (yC_f (h := h31) (a := 67) (A := 2) (j := 5) (i := b.toNat) rfl pv8_h31.2)) (Eq.trans (congrFun (congrFun (Zh31.trans E83) 67) b.toNat) rfl)))
                  refine zwW_p [(1, 4, 2)] (q := 90) (ls' := [(2, 1), (0, a), (0, b), (2, v2), (2, v8)]) (st' := [(2, v8), (0, v32)]) (by decide +kernel) rfl ?_
                  refine zwX_gi Ch31 (kd := 11) (bn := 6) (n := 17) (nx := 93) (by decide +kernel) Gh31_1.2.1 Gh31_1.1 rfl ?_
                  intro v33 ev33 lv33 uv33
                  have sv33 : v33 = (yBrS (yC h) a.toNat b.toNat) 68 b.toNat := Eq.trans ev33 (Eq.trans (congrArg (fun q => fld h31 q 6) pv8_h31.1) (Eq.trans (Eq.symm (yC_f (h := h31) (a := 68) (A := 2) (j := 6) (i := b.toNat) rfl pv8_h31.2)) (Eq.trans (congrFun (congrFun (Zh31.trans E83) 68) b.toNat) rfl)))
                  refine zwW_adw (nx := 94) (by decide +kernel) ?_
                  intro v34 ev34 lv34 uv34
                  have Ev34 : v34 = w32 (((yBrS (yC h) a.toNat b.toNat) 67 b.toNat) + ((yBrS (yC h) a.toNat b.toNat) 68 b.toNat)) := by rw [ev34, sv32, sv33]
                  refine zwW_ret (nx := 95) (a := 0) (b := 0) (by decide +kernel) rfl (Or.inl rfl) ?_
                  exact ⟨Ch31, Xh31.le (by decide) (by decide), by omega, by first | (exfalso; omega) | (unfold yBrA; (repeat' (first | rw [if_pos (by omega)] | rw [if_neg (by omega)])); all_goals (first | rfl | omega)), by first | (exfalso; omega) | (refine Eq.trans (Zh31.trans E83) ?_; unfold yBrF; (repeat' (first | rw [if_pos (by omega)] | rw [if_neg (by omega)])); all_goals (first | rfl | omega)), by exact f30⟩
                · exfalso; omega
              · refine zwif_ne (q := 65) (nx := 63) (by decide +kernel) (fun c35 => ?_) (fun c35 => ?_)
                · exfalso; omega
                · refine zwW_p [(0, -1, 0)] (q := 64) (ls' := [(2, 1), (0, a), (0, b), (2, v2), (2, v8)]) (st' := [(0, -1)]) (by decide +kernel) rfl ?_
                  refine zwW_ret (nx := 65) (a := 0) (b := 0) (by decide +kernel) rfl (Or.inl rfl) ?_
                  exact ⟨C, X.le (by decide) (by decide), by omega, by first | (exfalso; omega) | (unfold yBrA; (repeat' (first | rw [if_neg (by omega)] | rw [if_pos (by omega)])); all_goals (first | rfl | omega)), by first | (exfalso; omega) | (refine Eq.trans (rfl : yC h = yC h) ?_; unfold yBrF; (repeat' (first | rw [if_neg (by omega)] | rw [if_pos (by omega)])); all_goals (first | rfl | omega)), by exact J⟩
def msx3_z : Zms := [(2, 2, 0, 3)]
-- WheelLand.village(III)I
theorem x3_z {sc : List Int} (h : Hp) (C : CI h) (a b c : Int) (q_a : -2147483648 ≤ a ∧ a ≤ 2147483647) (q_b : -2147483648 ≤ b ∧ b ≤ 2147483647) (q_c : -2147483648 ≤ c ∧ c ≤ 2147483647) (J : yR h) (PD : zPd h) (hl : h.length ≤ 999930000) : zwC sc 7 3 [(2, 1), (0, a), (0, b), (0, c)] h (zwRt 0 (fun x g => CI g ∧ zXR msx3_z (3) (1174) h g ∧ (-2147483648 ≤ x ∧ x ≤ 2147483647) ∧ (zPd g) ∧ (x = yVilA (yC h) a b c) ∧ (yC g = yVilF (yC h) a b c) ∧ (yR g))) := by
  refine zwC_of (D := 6) 4 (by decide +kernel) rfl (ls := [(2, 1), (0, a), (0, b), (0, c)]) rfl ?_
  have X : zXR msx3_z 0 0 h h := zXR.rf _ _
  have u0 : yC h 37 0 = fld h 1 0 := rfl
  have u1 : yC h 37 1 = fld h 2 2 := rfl
  have b22 := zLb_2 C
  refine zwW_p [(1, 0, 2)] (q := 1) (ls' := [(2, 1), (0, a), (0, b), (0, c)]) (st' := [(2, 1)]) (by decide +kernel) rfl ?_
  refine zwW_gc C.1 (kd := 12) (bn := 2) (n := 13) (c := 2) (nx := 4) (by decide +kernel) ?_
  refine zwW_cm C.1 (op := 60) (k' := 96) (n := 0) (kd := 0) (m := 3) (nx := 7) (r := 2) (tl := []) (st' := []) (by decide +kernel) rfl (by decide +kernel) rfl (x96_2 C) ?_
  rintro v1 _ ⟨rfl, ev1⟩
  have bv1 := zLb_2 C
  have sv1 : v1 = (yC h) 37 1 := Eq.trans ev1 (Eq.trans (Eq.symm (yC_s (h := h) (i := 1) rfl)) (Eq.trans (congrFun (congrFun (rfl : yC h = yC h) 37) 1) rfl))
  refine zwW_p [(0, 8, 0)] (q := 9) (ls' := [(2, 1), (0, a), (0, b), (0, c)]) (st' := [(0, 8), (0, v1)]) (by decide +kernel) rfl ?_
  refine zwic_ge (q := 40) (nx := 12) (by decide +kernel) (fun c2 => ?_) (fun c2 => ?_)
  · refine zwW_p [(0, -1, 0)] (q := 41) (ls' := [(2, 1), (0, a), (0, b), (0, c)]) (st' := [(0, -1)]) (by decide +kernel) rfl ?_
    refine zwW_ret (nx := 42) (a := 0) (b := 0) (by decide +kernel) rfl (Or.inl rfl) ?_
    exact ⟨C, X.le (by decide) (by decide), by omega, by exact PD, by unfold yVilA; (repeat' (first | rw [if_neg (by omega)] | rw [if_pos (by omega)])); all_goals (first | rfl | omega), by refine Eq.trans (rfl : yC h = yC h) ?_; unfold yVilF; (repeat' (first | rw [if_neg (by omega)] | rw [if_pos (by omega)])); all_goals (repeat' (first | rfl | apply zs_cg | omega)), by exact J⟩
  · refine zwW_p [(1, 1, 0)] (q := 13) (ls' := [(2, 1), (0, a), (0, b), (0, c)]) (st' := [(0, a)]) (by decide +kernel) rfl ?_
    refine zwW_cs (k' := 97) (n := 1) (nx := 16) (as := [(0, a)]) (st' := []) (by decide +kernel) rfl (x97 h C a (by omega)) rfl ?_
    rintro x _ ⟨rfl, ⟨rfl, c3⟩ | ⟨rfl, c3⟩⟩
    · refine zwif_eq (q := 40) (nx := 19) (by decide +kernel) (fun c4 => ?_) (fun c4 => ?_)
      · exfalso; omega
      · refine zwW_p [(1, 2, 0), (0, 1, 0), (0, 9, 0)] (q := 23) (ls' := [(2, 1), (0, a), (0, b), (0, c)]) (st' := [(0, 9), (0, 1), (0, b)]) (by decide +kernel) rfl ?_
        refine zwW_cs (k' := 98) (n := 3) (nx := 26) (as := [(0, b), (0, 1), (0, 9)]) (st' := []) (by decide +kernel) rfl (x98 h C b 1 9 (by omega) (by omega) (by omega)) rfl ?_
        rintro x _ ⟨rfl, ⟨rfl, c5⟩ | ⟨rfl, c5⟩⟩
        · refine zwif_ne (q := 40) (nx := 29) (by decide +kernel) (fun c6 => ?_) (fun c6 => ?_)
          · refine zwW_p [(0, -1, 0)] (q := 41) (ls' := [(2, 1), (0, a), (0, b), (0, c)]) (st' := [(0, -1)]) (by decide +kernel) rfl ?_
            refine zwW_ret (nx := 42) (a := 0) (b := 0) (by decide +kernel) rfl (Or.inl rfl) ?_
            exact ⟨C, X.le (by decide) (by decide), by omega, by exact PD, by unfold yVilA; (repeat' (first | rw [if_neg (by omega)] | rw [if_pos (by omega)])); all_goals (first | rfl | omega), by refine Eq.trans (rfl : yC h = yC h) ?_; unfold yVilF; (repeat' (first | rw [if_neg (by omega)] | rw [if_pos (by omega)])); all_goals (repeat' (first | rfl | apply zs_cg | omega)), by exact J⟩
          · exfalso; omega
        · refine zwif_ne (q := 40) (nx := 29) (by decide +kernel) (fun c7 => ?_) (fun c7 => ?_)
          · exfalso; omega
          · refine zwW_p [(1, 3, 0), (0, 0, 0), (0, 9999, 0)] (q := 34) (ls' := [(2, 1), (0, a), (0, b), (0, c)]) (st' := [(0, 9999), (0, 0), (0, c)]) (by decide +kernel) rfl ?_
            refine zwW_cs (k' := 98) (n := 3) (nx := 37) (as := [(0, c), (0, 0), (0, 9999)]) (st' := []) (by decide +kernel) rfl (x98 h C c 0 9999 (by omega) (by omega) (by omega)) rfl ?_
            rintro x _ ⟨rfl, ⟨rfl, c8⟩ | ⟨rfl, c8⟩⟩
            · refine zwif_eq (q := 42) (nx := 40) (by decide +kernel) (fun c9 => ?_) (fun c9 => ?_)
              · exfalso; omega
              · refine zwW_p [(0, -1, 0)] (q := 41) (ls' := [(2, 1), (0, a), (0, b), (0, c)]) (st' := [(0, -1)]) (by decide +kernel) rfl ?_
                refine zwW_ret (nx := 42) (a := 0) (b := 0) (by decide +kernel) rfl (Or.inl rfl) ?_
                exact ⟨C, X.le (by decide) (by decide), by omega, by exact PD, by unfold yVilA; (repeat' (first | rw [if_neg (by omega)] | rw [if_pos (by omega)])); all_goals (first | rfl | omega), by refine Eq.trans (rfl : yC h = yC h) ?_; unfold yVilF; (repeat' (first | rw [if_neg (by omega)] | rw [if_pos (by omega)])); all_goals (repeat' (first | rfl | apply zs_cg | omega)), by exact J⟩
            · refine zwif_eq (q := 42) (nx := 40) (by decide +kernel) (fun c10 => ?_) (fun c10 => ?_)
              · refine zwW_p [(1, 0, 2)] (q := 43) (ls' := [(2, 1), (0, a), (0, b), (0, c)]) (st' := [(2, 1)]) (by decide +kernel) rfl ?_
                refine zwW_gc C.1 (kd := 12) (bn := 2) (n := 13) (c := 2) (nx := 46) (by decide +kernel) ?_
                refine zwW_new (kd := 11) (n := 17) (nx := 49) (by decide +kernel) rfl rfl ?_
                rintro h11 r12 eh11 er12
                have Oh11 : zOld h h11 := by rw [eh11]; exact zOld.app _
                have Yh11 : zDy h11 := by rw [eh11]; exact C.2.1.app (fun x hx => by rw [List.eq_of_mem_replicate hx]; decide)
                have Ch11 : CI h11 := C.old Oh11 Yh11
                have Xh11 := Oh11.X C
                have th11_2_2 : fld h11 2 2 = fld h 2 2 := Xh11.f (a1 := 2) (a2 := 2) (j1 := 2) (j2 := 3) (by decide +kernel) (by first | decide | exact ⟨by decide, by decide⟩) (by first | decide | exact ⟨by decide, by decide⟩) (by first | decide | exact ⟨by decide, by decide⟩)
                have Zh11 : yC h11 = (yC h) := (yC_fr C Xh11 (by decide +kernel) (C.1.b (a1 := 37) (a2 := 37) (j1 := 86) (j2 := 87) (lo := 0) (hi := 6) (by decide +kernel) (r := 37) (j := 86) (by decide) (by decide) (by decide) (by decide)).2).trans (rfl : yC h = yC h)
                refine zwW_p [(12, 0, 0), (1, 0, 2)] (q := 51) (ls' := [(2, 1), (0, a), (0, b), (0, c)]) (st' := [(2, 1), (2, r12), (2, r12), (2, 2)]) (by decide +kernel) rfl ?_
                refine zwW_gc Ch11.1 (kd := 12) (bn := 2) (n := 13) (c := 2) (nx := 54) (by decide +kernel) ?_
                refine zwW_cm Ch11.1 (op := 60) (k' := 96) (n := 0) (kd := 0) (m := 3) (nx := 57) (r := 2) (tl := []) (st' := [(2, r12), (2, r12), (2, 2)]) (by decide +kernel) rfl (by decide +kernel) rfl (x96_2 Ch11) ?_
                rintro v13 _ ⟨rfl, ev13⟩
                have bv13 := zLb_2 Ch11
                have sv13 : v13 = (yC h) 37 1 := Eq.trans ev13 (Eq.trans (Eq.symm (yC_s (h := h11) (i := 1) rfl)) (Eq.trans (congrFun (congrFun Zh11 37) 1) rfl))
                refine zwW_p [(1, 1, 0), (1, 2, 0), (1, 3, 0)] (q := 60) (ls' := [(2, 1), (0, a), (0, b), (0, c)]) (st' := [(0, c), (0, b), (0, a), (0, v13), (2, r12), (2, r12), (2, 2)]) (by decide +kernel) rfl ?_
                subst er12 eh11
                refine zwW_cvv (op := 62) (k' := 99) (n := 4) (kd := 11) (m := 17) (nx := 63) (r := ((h.length + 1 : Nat) : Int)) (tl := [(0, v13), (0, a), (0, b), (0, c)]) (st' := [(2, ((h.length + 1 : Nat) : Int)), (2, 2)]) (by decide +kernel) rfl (by decide +kernel) (sh_new _ _) (x99 h C v13 a b c (by omega) (by omega) (by omega) (by omega)) rfl ?_
                rintro h14 ⟨Ch14, Qh14, Nh14, Fh14_0, Fh14_1⟩
                obtain ⟨nr12, err12⟩ : ∃ z, z = ((h.length + 1 : Nat) : Int) := ⟨_, rfl⟩
                rw [← err12] at Nh14 ⊢
                try rw [← err12] at Fh14_0
                try rw [← err12] at Fh14_1
                have Xh14 : zXR msx3_z (2) (174) h h14 := X.tr (c2 := 2) (s2 := 174) Qh14 (by decide +kernel) (by decide) (by decide)
                have Zh14 : yC h14 = (yC h) := (yC_fr C Qh14 (by decide +kernel) (C.1.b (a1 := 37) (a2 := 37) (j1 := 86) (j2 := 87) (lo := 0) (hi := 6) (by decide +kernel) (r := 37) (j := 86) (by decide) (by decide) (by decide) (by decide)).2).trans (rfl : yC h = yC h)
                have Jh14 : yR h14 := J.fr C Qh14 (by decide +kernel)
                have th14_2_2 : fld h14 2 2 = fld h 2 2 := Qh14.f (a1 := 2) (a2 := 2) (j1 := 2) (j2 := 3) (by decide +kernel) (by first | decide | exact ⟨by decide, by decide⟩) (by first | decide | exact ⟨by decide, by decide⟩) (by first | decide | exact ⟨by decide, by decide⟩)
                have PDh14 : zPd h14 := PD.fr C Qh14 (by decide +kernel)
                have lnr12 := Nh14.1
                refine zwW_cm Ch14.1 (op := 60) (k' := 100) (n := 1) (kd := 0) (m := 3) (nx := 66) (r := 2) (tl := [(2, nr12)]) (st' := []) (by decide +kernel) rfl (by decide +kernel) rfl (x100_2 Ch14 Nh14 (by omega) (by have := Xh14.hl C Ch14 (by decide) hl; omega)) ?_
                rintro x h16 ⟨rfl, Ah16⟩
                have Ch16 := Ah16.1
                have Qh16 : zXR [(2, 2, 0, 3)] (1) (1000) h14 h16 := Ah16.2.1
                have zh16 : fld h16 2 2 = fld h14 2 2 + 1 := Ah16.2.2.1
                have PN := zPd_vil PDh14 Ch14 Ah16 Nh14 Fh14_0 (n := (yC h 37 1).toNat) (by omega) (zfreshP C Qh14 (by decide +kernel) rfl)
                have YLh16 := yC_vil (n := (yC h 37 1).toNat) Ch14 Ah16.1 Jh14 Ah16 Nh14 Fh14_0 Fh14_1 (by omega)
                have JLh16 := yR_vil (n := (yC h 37 1).toNat) Ch14 Jh14 Ah16 Nh14 Fh14_0 (by omega) (by omega) (by omega)
                have Zh16 : yC h16 = (yVil (yC h) (yC h 37 1).toNat a b c) := by rw [YLh16, Zh14]
                have Xh16 : zXR msx3_z (3) (1174) h h16 := Xh14.tr (c2 := 3) (s2 := 1174) Qh16 (by decide +kernel) (by decide) (by decide)
                refine zwW_p [(15, 0, 0)] (q := 67) (ls' := [(2, 1), (0, a), (0, b), (0, c)]) (st' := []) (by decide +kernel) rfl ?_
                refine zwW_p [(1, 0, 2)] (q := 68) (ls' := [(2, 1), (0, a), (0, b), (0, c)]) (st' := [(2, 1)]) (by decide +kernel) rfl ?_
                refine zwW_gc Ch16.1 (kd := 12) (bn := 2) (n := 13) (c := 2) (nx := 71) (by decide +kernel) ?_
                refine zwW_cm Ch16.1 (op := 60) (k' := 96) (n := 0) (kd := 0) (m := 3) (nx := 74) (r := 2) (tl := []) (st' := []) (by decide +kernel) rfl (by decide +kernel) rfl (x96_2 Ch16) ?_
                rintro v17 _ ⟨rfl, ev17⟩
                have bv17 := zLb_2 Ch16
                have sv17 : v17 = (yVil (yC h) (yC h 37 1).toNat a b c) 37 1 := Eq.trans ev17 (Eq.trans (Eq.symm (yC_s (h := h16) (i := 1) rfl)) (Eq.trans (congrFun (congrFun Zh16 37) 1) rfl))
                refine zwW_p [(0, 1, 0)] (q := 75) (ls' := [(2, 1), (0, a), (0, b), (0, c)]) (st' := [(0, 1), (0, v17)]) (by decide +kernel) rfl ?_
                refine zwW_sub (nx := 76) (by decide +kernel) (by first | omega | exact ⟨by omega, by omega⟩) ?_
                refine zwW_ret (nx := 77) (a := 0) (b := 0) (by decide +kernel) rfl (Or.inl rfl) ?_
                exact ⟨Ch16, Xh16.le (by decide) (by decide), by omega, by exact PN, by unfold yVilA; (repeat' (first | rw [if_pos (by omega)] | rw [if_neg (by omega)])); all_goals (first | rfl | omega), by refine Eq.trans Zh16 ?_; unfold yVilF; (repeat' (first | rw [if_pos (by omega)] | rw [if_neg (by omega)])); all_goals (repeat' (first | rfl | apply zs_cg | omega)), by exact JLh16⟩
              · exfalso; omega
    · refine zwif_eq (q := 40) (nx := 19) (by decide +kernel) (fun c18 => ?_) (fun c18 => ?_)
      · refine zwW_p [(0, -1, 0)] (q := 41) (ls' := [(2, 1), (0, a), (0, b), (0, c)]) (st' := [(0, -1)]) (by decide +kernel) rfl ?_
        refine zwW_ret (nx := 42) (a := 0) (b := 0) (by decide +kernel) rfl (Or.inl rfl) ?_
        exact ⟨C, X.le (by decide) (by decide), by omega, by exact PD, by unfold yVilA; (repeat' (first | rw [if_neg (by omega)] | rw [if_pos (by omega)])); all_goals (first | rfl | omega), by refine Eq.trans (rfl : yC h = yC h) ?_; unfold yVilF; (repeat' (first | rw [if_neg (by omega)] | rw [if_pos (by omega)])); all_goals (repeat' (first | rfl | apply zs_cg | omega)), by exact J⟩
      · exfalso; omega
def msx9_z : Zms := [(3, 3, 0, 3)]
-- WheelLand.house(II)I
theorem x9_z {sc : List Int} (h : Hp) (C : CI h) (a b : Int) (q_a : -2147483648 ≤ a ∧ a ≤ 2147483647) (q_b : -2147483648 ≤ b ∧ b ≤ 2147483647) (J : yR h) (hl : h.length ≤ 999930000) : zwC sc 7 9 [(2, 1), (0, a), (0, b)] h (zwRt 0 (fun x g => CI g ∧ zXR msx9_z (2) (1019) h g ∧ (-2147483648 ≤ x ∧ x ≤ 2147483647) ∧ (x = yHouA (yC h) a b) ∧ (yC g = yHouF (yC h) a b) ∧ (yR g))) := by
  refine zwC_of (D := 6) 4 (by decide +kernel) rfl (ls := [(2, 1), (0, a), (0, b), (9, 0)]) rfl ?_
  have X : zXR msx9_z 0 0 h h := zXR.rf _ _
  have u0 : yC h 37 0 = fld h 1 0 := rfl
  have u1 : yC h 37 1 = fld h 2 2 := rfl
  have u2 : yC h 37 2 = fld h 3 2 := rfl
  have b33 := zLb_3 C
  refine zwW_p [(1, 0, 2), (1, 1, 0)] (q := 2) (ls' := [(2, 1), (0, a), (0, b), (9, 0)]) (st' := [(0, a), (2, 1)]) (by decide +kernel) rfl ?_
  refine zwW_cm C.1 (op := 60) (k' := 102) (n := 1) (kd := 12) (m := 13) (nx := 5) (r := 1) (tl := [(0, a)]) (st' := []) (by decide +kernel) rfl (by decide +kernel) rfl (x102 h C a (by omega)) ?_
  rintro v2 _ ⟨rfl, ⟨rfl, c1⟩ | ⟨Gv2, c1⟩⟩
  · refine zwW_p [(2, 3, 2), (1, 3, 2)] (q := 7) (ls' := [(2, 1), (0, a), (0, b), (2, 0)]) (st' := [(2, 0)]) (by decide +kernel) rfl ?_
    refine zwnu_eq (q := 39) (nx := 10) (by decide +kernel) (by decide) (fun c3 => ?_) (fun c3 => ?_)
    · refine zwW_p [(0, -1, 0)] (q := 40) (ls' := [(2, 1), (0, a), (0, b), (2, 0)]) (st' := [(0, -1)]) (by decide +kernel) rfl ?_
      refine zwW_ret (nx := 41) (a := 0) (b := 0) (by decide +kernel) rfl (Or.inl rfl) ?_
      exact ⟨C, X.le (by decide) (by decide), by omega, by unfold yHouA; (repeat' (first | rw [if_neg (by omega)] | rw [if_pos (by omega)])); all_goals (first | rfl | omega), by refine Eq.trans (rfl : yC h = yC h) ?_; unfold yHouF; (repeat' (first | rw [if_neg (by omega)] | rw [if_pos (by omega)])); all_goals (repeat' (first | rfl | apply zs_cg | omega)), by exact J⟩
    · exfalso; omega
  · have lv2 := Gv2.1
    have ev2 := c1.2.2
    have pv2 : v2 = zv h 2 a.toNat ∧ ((a.toNat : Nat) : Int) < fld h 2 2 := ⟨ev2, by omega⟩
    refine zwW_p [(2, 3, 2), (1, 3, 2)] (q := 7) (ls' := [(2, 1), (0, a), (0, b), (2, v2)]) (st' := [(2, v2)]) (by decide +kernel) rfl ?_
    refine zwnu_eq (q := 39) (nx := 10) (by decide +kernel) (by omega) (fun c4 => ?_) (fun c4 => ?_)
    · exfalso; omega
    · refine zwW_p [(1, 0, 2)] (q := 11) (ls' := [(2, 1), (0, a), (0, b), (2, v2)]) (st' := [(2, 1)]) (by decide +kernel) rfl ?_
      refine zwW_gc C.1 (kd := 12) (bn := 3) (n := 13) (c := 3) (nx := 14) (by decide +kernel) ?_
      refine zwW_cm C.1 (op := 60) (k' := 96) (n := 0) (kd := 0) (m := 3) (nx := 17) (r := 3) (tl := []) (st' := []) (by decide +kernel) rfl (by decide +kernel) rfl (x96_3 C) ?_
      rintro v5 _ ⟨rfl, ev5⟩
      have bv5 := zLb_3 C
      have sv5 : v5 = (yC h) 37 2 := Eq.trans ev5 (Eq.trans (Eq.symm (yC_s (h := h) (i := 2) rfl)) (Eq.trans (congrFun (congrFun (rfl : yC h = yC h) 37) 2) rfl))
      refine zwW_p [(0, 20, 0)] (q := 19) (ls' := [(2, 1), (0, a), (0, b), (2, v2)]) (st' := [(0, 20), (0, v5)]) (by decide +kernel) rfl ?_
      refine zwic_ge (q := 39) (nx := 22) (by decide +kernel) (fun c6 => ?_) (fun c6 => ?_)
      · refine zwW_p [(0, -1, 0)] (q := 40) (ls' := [(2, 1), (0, a), (0, b), (2, v2)]) (st' := [(0, -1)]) (by decide +kernel) rfl ?_
        refine zwW_ret (nx := 41) (a := 0) (b := 0) (by decide +kernel) rfl (Or.inl rfl) ?_
        exact ⟨C, X.le (by decide) (by decide), by omega, by unfold yHouA; (repeat' (first | rw [if_neg (by omega)] | rw [if_pos (by omega)])); all_goals (first | rfl | omega), by refine Eq.trans (rfl : yC h = yC h) ?_; unfold yHouF; (repeat' (first | rw [if_neg (by omega)] | rw [if_pos (by omega)])); all_goals (repeat' (first | rfl | apply zs_cg | omega)), by exact J⟩
      · refine zwW_p [(1, 0, 2)] (q := 23) (ls' := [(2, 1), (0, a), (0, b), (2, v2)]) (st' := [(2, 1)]) (by decide +kernel) rfl ?_
        refine zwW_gs C.1 (kd := 12) (bn := 0) (n := 13) (t := 0) (lo := 0) (hi := 156) (nx := 26) (by decide +kernel) ?_
        intro v7 ev7 lv7 uv7
        have sv7 : v7 = (yC h) 37 0 := Eq.trans ev7 (Eq.trans (Eq.symm (yC_s (h := h) (i := 0) rfl)) (Eq.trans (congrFun (congrFun (rfl : yC h = yC h) 37) 0) rfl))
        refine zwW_p [(0, 156, 0)] (q := 29) (ls' := [(2, 1), (0, a), (0, b), (2, v2)]) (st' := [(0, 156), (0, v7)]) (by decide +kernel) rfl ?_
        refine zwic_ge (q := 39) (nx := 32) (by decide +kernel) (fun c8 => ?_) (fun c8 => ?_)
        · refine zwW_p [(0, -1, 0)] (q := 40) (ls' := [(2, 1), (0, a), (0, b), (2, v2)]) (st' := [(0, -1)]) (by decide +kernel) rfl ?_
          refine zwW_ret (nx := 41) (a := 0) (b := 0) (by decide +kernel) rfl (Or.inl rfl) ?_
          exact ⟨C, X.le (by decide) (by decide), by omega, by unfold yHouA; (repeat' (first | rw [if_neg (by omega)] | rw [if_pos (by omega)])); all_goals (first | rfl | omega), by refine Eq.trans (rfl : yC h = yC h) ?_; unfold yHouF; (repeat' (first | rw [if_neg (by omega)] | rw [if_pos (by omega)])); all_goals (repeat' (first | rfl | apply zs_cg | omega)), by exact J⟩
        · refine zwW_p [(1, 2, 0)] (q := 33) (ls' := [(2, 1), (0, a), (0, b), (2, v2)]) (st' := [(0, b)]) (by decide +kernel) rfl ?_
          refine zwW_cs (k' := 107) (n := 1) (nx := 36) (as := [(0, b)]) (st' := []) (by decide +kernel) rfl (x107 h C b (by omega)) rfl ?_
          rintro x _ ⟨rfl, ⟨rfl, c9⟩ | ⟨rfl, c9⟩⟩
          · refine zwif_ne (q := 41) (nx := 39) (by decide +kernel) (fun c10 => ?_) (fun c10 => ?_)
            · refine zwW_p [(1, 0, 2)] (q := 42) (ls' := [(2, 1), (0, a), (0, b), (2, v2)]) (st' := [(2, 1)]) (by decide +kernel) rfl ?_
              refine zwW_gc C.1 (kd := 12) (bn := 3) (n := 13) (c := 3) (nx := 45) (by decide +kernel) ?_
              refine zwW_new (kd := 4) (n := 19) (nx := 48) (by decide +kernel) rfl rfl ?_
              rintro h11 r12 eh11 er12
              have Oh11 : zOld h h11 := by rw [eh11]; exact zOld.app _
              have Yh11 : zDy h11 := by rw [eh11]; exact C.2.1.app (fun x hx => by rw [List.eq_of_mem_replicate hx]; decide)
              have Ch11 : CI h11 := C.old Oh11 Yh11
              have Xh11 := Oh11.X C
              have th11_3_2 : fld h11 3 2 = fld h 3 2 := Xh11.f (a1 := 3) (a2 := 3) (j1 := 2) (j2 := 3) (by decide +kernel) (by first | decide | exact ⟨by decide, by decide⟩) (by first | decide | exact ⟨by decide, by decide⟩) (by first | decide | exact ⟨by decide, by decide⟩)
              have Gh11_0 : gV h11 v2 := Gv2.x Xh11
              have Zh11 : yC h11 = (yC h) := (yC_fr C Xh11 (by decide +kernel) (C.1.b (a1 := 37) (a2 := 37) (j1 := 86) (j2 := 87) (lo := 0) (hi := 6) (by decide +kernel) (r := 37) (j := 86) (by decide) (by decide) (by decide) (by decide)).2).trans (rfl : yC h = yC h)
              refine zwW_p [(12, 0, 0), (1, 0, 2)] (q := 50) (ls' := [(2, 1), (0, a), (0, b), (2, v2)]) (st' := [(2, 1), (2, r12), (2, r12), (2, 3)]) (by decide +kernel) rfl ?_
              refine zwW_gc Ch11.1 (kd := 12) (bn := 3) (n := 13) (c := 3) (nx := 53) (by decide +kernel) ?_
              refine zwW_cm Ch11.1 (op := 60) (k' := 96) (n := 0) (kd := 0) (m := 3) (nx := 56) (r := 3) (tl := []) (st' := [(2, r12), (2, r12), (2, 3)]) (by decide +kernel) rfl (by decide +kernel) rfl (x96_3 Ch11) ?_
              rintro v13 _ ⟨rfl, ev13⟩
              have bv13 := zLb_3 Ch11
              have sv13 : v13 = (yC h) 37 2 := Eq.trans ev13 (Eq.trans (Eq.symm (yC_s (h := h11) (i := 2) rfl)) (Eq.trans (congrFun (congrFun Zh11 37) 2) rfl))
              refine zwW_p [(1, 3, 2), (1, 2, 0)] (q := 58) (ls' := [(2, 1), (0, a), (0, b), (2, v2)]) (st' := [(0, b), (2, v2), (0, v13), (2, r12), (2, r12), (2, 3)]) (by decide +kernel) rfl ?_
              subst er12 eh11
              refine zwW_cvv (op := 62) (k' := 108) (n := 3) (kd := 4) (m := 19) (nx := 61) (r := ((h.length + 1 : Nat) : Int)) (tl := [(0, v13), (2, v2), (0, b)]) (st' := [(2, ((h.length + 1 : Nat) : Int)), (2, 3)]) (by decide +kernel) rfl (by decide +kernel) (sh_new _ _) (x108 h C v13 v2 b (by omega) (by omega) Gv2) rfl ?_
              rintro h14 ⟨Ch14, Qh14, Nh14, Fh14_0⟩
              obtain ⟨nr12, err12⟩ : ∃ z, z = ((h.length + 1 : Nat) : Int) := ⟨_, rfl⟩
              rw [← err12] at Nh14 ⊢
              try rw [← err12] at Fh14_0
              have Xh14 : zXR msx9_z (1) (19) h h14 := X.tr (c2 := 1) (s2 := 19) Qh14 (by decide +kernel) (by decide) (by decide)
              have Gh14_0 : gV h14 v2 := Gv2.x Qh14
              have Zh14 : yC h14 = (yC h) := (yC_fr C Qh14 (by decide +kernel) (C.1.b (a1 := 37) (a2 := 37) (j1 := 86) (j2 := 87) (lo := 0) (hi := 6) (by decide +kernel) (r := 37) (j := 86) (by decide) (by decide) (by decide) (by decide)).2).trans (rfl : yC h = yC h)
              have Jh14 : yR h14 := J.fr C Qh14 (by decide +kernel)
              have pv2_h14 : v2 = zv h14 2 a.toNat ∧ ((a.toNat : Nat) : Int) < fld h14 2 2 := zpv C Qh14 (A := 2) (by decide) (by decide +kernel) pv2
              have th14_3_2 : fld h14 3 2 = fld h 3 2 := Qh14.f (a1 := 3) (a2 := 3) (j1 := 2) (j2 := 3) (by decide +kernel) (by first | decide | exact ⟨by decide, by decide⟩) (by first | decide | exact ⟨by decide, by decide⟩) (by first | decide | exact ⟨by decide, by decide⟩)
              have lnr12 := Nh14.1
              refine zwW_cm Ch14.1 (op := 60) (k' := 100) (n := 1) (kd := 0) (m := 3) (nx := 64) (r := 3) (tl := [(2, nr12)]) (st' := []) (by decide +kernel) rfl (by decide +kernel) rfl (x100_3 Ch14 Nh14 (by omega) (by have := Xh14.hl C Ch14 (by decide) hl; omega)) ?_
              rintro x h16 ⟨rfl, Ah16⟩
              have Ch16 := Ah16.1
              have Qh16 : zXR [(3, 3, 0, 3)] (1) (1000) h14 h16 := Ah16.2.1
              have zh16 : fld h16 3 2 = fld h14 3 2 + 1 := Ah16.2.2.1
              have YLh16 := yC_hou (n := (yC h 37 2).toNat) (w := a) Ch14 Jh14 Ah16 Nh14 Fh14_0 (by omega) pv2_h14.1 pv2_h14.2 (by omega)
              have JLh16 := yR_hou (n := (yC h 37 2).toNat) Ch14 Jh14 Ah16 Nh14 Fh14_0 (by omega) (by omega) pv2_h14.1 pv2_h14.2
              have Zh16 : yC h16 = (yHou (yC h) (yC h 37 2).toNat a (b / 1000) (b / 100 % 10) (b / 10 % 10) (b % 10)) := by rw [YLh16, Zh14]
              have Xh16 : zXR msx9_z (2) (1019) h h16 := Xh14.tr (c2 := 2) (s2 := 1019) Qh16 (by decide +kernel) (by decide) (by decide)
              have Gh16_0 : gV h16 v2 := Gh14_0.x Qh16
              have pv2_h16 : v2 = zv h16 2 a.toNat ∧ ((a.toNat : Nat) : Int) < fld h16 2 2 := zpv Ch14 Qh16 (A := 2) (by decide) (by decide +kernel) pv2_h14
              refine zwW_p [(15, 0, 0), (1, 0, 2)] (q := 66) (ls' := [(2, 1), (0, a), (0, b), (2, v2)]) (st' := [(2, 1)]) (by decide +kernel) rfl ?_
              refine zwW_gc Ch16.1 (kd := 12) (bn := 3) (n := 13) (c := 3) (nx := 69) (by decide +kernel) ?_
              refine zwW_cm Ch16.1 (op := 60) (k' := 96) (n := 0) (kd := 0) (m := 3) (nx := 72) (r := 3) (tl := []) (st' := []) (by decide +kernel) rfl (by decide +kernel) rfl (x96_3 Ch16) ?_
              rintro v17 _ ⟨rfl, ev17⟩
              have bv17 := zLb_3 Ch16
              have sv17 : v17 = (yHou (yC h) (yC h 37 2).toNat a (b / 1000) (b / 100 % 10) (b / 10 % 10) (b % 10)) 37 2 := Eq.trans ev17 (Eq.trans (Eq.symm (yC_s (h := h16) (i := 2) rfl)) (Eq.trans (congrFun (congrFun Zh16 37) 2) rfl))
              refine zwW_p [(0, 1, 0)] (q := 73) (ls' := [(2, 1), (0, a), (0, b), (2, v2)]) (st' := [(0, 1), (0, v17)]) (by decide +kernel) rfl ?_
              refine zwW_sub (nx := 74) (by decide +kernel) (by first | omega | exact ⟨by omega, by omega⟩) ?_
              refine zwW_ret (nx := 75) (a := 0) (b := 0) (by decide +kernel) rfl (Or.inl rfl) ?_
              exact ⟨Ch16, Xh16.le (by decide) (by decide), by omega, by unfold yHouA; (repeat' (first | rw [if_pos (by omega)] | rw [if_neg (by omega)])); all_goals (first | rfl | omega), by refine Eq.trans Zh16 ?_; unfold yHouF; (repeat' (first | rw [if_pos (by omega)] | rw [if_neg (by omega)])); all_goals (repeat' (first | rfl | apply zs_cg | omega)), by exact JLh16⟩
            · exfalso; omega
          · refine zwif_ne (q := 41) (nx := 39) (by decide +kernel) (fun c18 => ?_) (fun c18 => ?_)
            · exfalso; omega
            · refine zwW_p [(0, -1, 0)] (q := 40) (ls' := [(2, 1), (0, a), (0, b), (2, v2)]) (st' := [(0, -1)]) (by decide +kernel) rfl ?_
              refine zwW_ret (nx := 41) (a := 0) (b := 0) (by decide +kernel) rfl (Or.inl rfl) ?_
              exact ⟨C, X.le (by decide) (by decide), by omega, by unfold yHouA; (repeat' (first | rw [if_neg (by omega)] | rw [if_pos (by omega)])); all_goals (first | rfl | omega), by refine Eq.trans (rfl : yC h = yC h) ?_; unfold yHouF; (repeat' (first | rw [if_neg (by omega)] | rw [if_pos (by omega)])); all_goals (repeat' (first | rfl | apply zs_cg | omega)), by exact J⟩
end
