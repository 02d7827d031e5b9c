/-! weaving and bringing, pure -/
section YWV
variable {h g : Hp} {S T : zT} {a i j k l n v : Nat} {b c d x y : Int} {q : qT} {N : Nat → Int}
theorem tm2 {x : Int} : x.tmod 2 = 0 ↔ x % 2 = 0 := ⟨fun e => Int.emod_eq_zero_of_dvd (Int.dvd_of_tmod_eq_zero e), fun e => Int.tmod_eq_zero_of_dvd (Int.dvd_of_emod_eq_zero e)⟩
theorem zu_sw (e : i ≠ j) : zu (zu N i x) j y = zu (zu N j y) i x := by
  funext p
  by_cases h1 : p = j
  · subst h1
    rw [zu_eq, zu_ne (fun z => e z.symm), zu_eq]
  · rw [zu_ne h1]
    by_cases h2 : p = i
    · subst h2
      rw [zu_eq, zu_eq]
    · rw [zu_ne h2, zu_ne h2, zu_ne h1]
theorem wn_sw : zu (zu (zu (zu (zu N 6 b) 7 c) 8 d) 9 x) 11 y = zu (zu (zu (zu (zu N 6 b) 11 y) 7 c) 8 d) 9 x := by
  rw [zu_sw (i := 9) (j := 11) (by decide), zu_sw (i := 8) (j := 11) (by decide), zu_sw (i := 7) (j := 11) (by decide)]
/-- the least days, from a village to another -/
def yFarq (S : zT) (u v : Nat) : Int := if S 8 (8 * u + v) < 1000000 then S 8 (8 * u + v) else -1
def yF8 (S : zT) : Prop := ∀ u v : Nat, u < 8 → v < 8 → 0 ≤ S 8 (8 * u + v)
theorem yFarq_b (F : yF8 S) (hk : k < 8) (hl : l < 8) : -1 ≤ yFarq S k l ∧ yFarq S k l ≤ 999999 := by
  have w := F k l hk hl
  unfold yFarq
  split <;> omega
theorem yM_8 (hi : i < 64) : yM h 8 i = fld h 8 i := yM_p (a := 8) (n := 64) rfl hi
theorem yFq_m (hk : k < 8) (hl : l < 8) : zDa h k l = yFarq (yM h) k l := by
  unfold zDa yFarq zLe
  rw [yM_8 (by omega)]
theorem yFq_c (hk : k < 8) (hl : l < 8) : zDa h k l = yFarq (yC h) k l := by
  have e : yC h 8 (8 * k + l) = yM h 8 (8 * k + l) := yC_8 rfl
  unfold zDa yFarq zLe
  rw [e, yM_8 (by omega)]
/-- names told for so many hanks of a lot, woven by a house -/
def yWN (S : zT) (k l : Nat) (n : Int) : Nat → Int := zu (zu (zu (zu (zu (yNmH S (S 170 l).toNat (yNm0 (S 37 0))) 6 (S 82 k)) 11 (yFarq S (S 79 (S 170 l).toNat).toNat (S 79 k).toNat)) 7 (S 172 l)) 8 (S 173 l)) 9 n
def yWask (q : qT) (S : zT) (c : Int) (k l : Nat) (n : Int) : Int := q c (S 37 0) (yWN S k l n)
theorem yOK.lo (K : yOK S) (hl : (l : Int) < S 37 64) : (0 ≤ S 172 l ∧ S 172 l ≤ 60) ∧ (0 ≤ S 173 l ∧ S 173 l ≤ 300) ∧ (0 ≤ S 170 l ∧ S 170 l < S 37 2) := K.2.2.2 l hl
theorem eNs_zn (H : eNs N) (hx : eNum x) : eNs (zu N i x) := fun j hj => by
  by_cases z : j = i
  · rw [z, zu_eq]
    exact hx
  · rw [zu_ne z]
    exact H j hj
theorem eNs_wn (K : yOK S) (F : yF8 S) (hk : (k : Int) < S 37 2) (hl : (l : Int) < S 37 64) (hn : -1000 ≤ x ∧ x ≤ 1000) : eNs (yWN S k l x) := by
  have s := K.s
  have w := K.lo hl
  have u := K.ho hk
  have t := K.ho (k := (S 170 l).toNat) (by omega)
  have f := yFarq_b F (k := (S 79 (S 170 l).toNat).toNat) (l := (S 79 k).toNat) (by omega) (by omega)
  refine eNs_zu (eNs_zu (eNs_zu (eNs_zn (eNs_zu (eNs_nmh K (eNs_nm0 K) (by omega)) (by omega)) ?_) (by omega)) (by omega)) hn
  unfold eNum
  omega
/-- the bar -/
def yLbar (q : qT) (S : zT) (k l : Nat) (n : Int) : Int := if S 91 k ≤ 0 then 1 else if S 172 l < S 89 k ∨ S 90 k < S 172 l then 2 else if S 173 l < S 172 l + 30 then 3 else if yFarq S (S 79 (S 170 l).toNat).toNat (S 79 k).toNat = -1 then 4 else if q 3 (S 37 0) (yWN S k l n) = 0 then 5 else 0
def yBarF (q : qT) (S : zT) (k l : Nat) (n : Int) : Int := if yLbar q S k l n ≠ 0 then yLbar q S k l n else if S 175 l < n then 6 else if w32 (S 91 k - S 92 k) < n then 7 else 0
def yBarA (q : qT) (S : zT) (a b c : Int) : Int := if (0 ≤ a ∧ a < S 37 2) ∧ (0 ≤ b ∧ b < S 37 64) ∧ (c % 2 = 0 ∧ 2 ≤ c ∧ c ≤ 100) then yBarF q S a.toNat b.toNat c else -1
/-- weaving -/
def yWvS (q : qT) (S : zT) (k l : Nat) (n : Int) : zT := zs (zs (zs (zs (zs (zs (zs (zs (zs (zs (zs (zs S 84 (S 170 l).toNat (w32 (S 84 (S 170 l).toNat - max (yWask q S 1 k l n) 0))) 84 k (w32 (zs S 84 (S 170 l).toNat (w32 (S 84 (S 170 l).toNat - max (yWask q S 1 k l n) 0)) 84 k + max (yWask q S 1 k l n) 0))) 92 k (w32 (S 92 k + n))) 175 l (w32 (S 175 l - n))) 180 (S 37 78).toNat l) 181 (S 37 78).toNat k) 182 (S 37 78).toNat (S 37 0)) 183 (S 37 78).toNat (n / 2)) 184 (S 37 78).toNat (-1)) 185 (S 37 78).toNat (if yWask q S 4 k l n = 0 then 0 else 1)) 37 70 (w32 (S 37 70 + n))) 37 78 (S 37 78 + 1)
def yWvA (q : qT) (S : zT) (a b c : Int) : Int := if ((0 ≤ a ∧ a < S 37 2) ∧ (0 ≤ b ∧ b < S 37 64) ∧ (c % 2 = 0 ∧ 2 ≤ c ∧ c ≤ 100)) ∧ S 37 78 < 200 ∧ S 37 0 < 156 ∧ yBarF q S a.toNat b.toNat c = 0 then S 37 78 else -1
def yWvF (q : qT) (S : zT) (a b c : Int) : zT := if ((0 ≤ a ∧ a < S 37 2) ∧ (0 ≤ b ∧ b < S 37 64) ∧ (c % 2 = 0 ∧ 2 ≤ c ∧ c ≤ 100)) ∧ S 37 78 < 200 ∧ S 37 0 < 156 ∧ yBarF q S a.toNat b.toNat c = 0 then yWvS q S a.toNat b.toNat c else S
/-- bringing: there is room for all -/
def yRm (S : zT) : Prop := ∀ u v : Nat, (u : Int) < S 37 78 → (v : Int) < S 37 1 → S 184 u = -1 → (0 ≤ S 67 v ∧ 0 ≤ S 68 v ∧ 0 ≤ S 183 u) ∧ S 67 v + S 68 v + S 183 u ≤ 9999
def yPut (S : zT) (k : Nat) (a b : Int) : zT := if b = 0 then zs S 68 k (w32 (S 68 k + a)) else zs (zs S 67 k (w32 (S 67 k + a))) 75 k (w32 (S 75 k + a))
def yBrS (S : zT) (u v : Nat) : zT := if S 185 u = 0 then zs (zs S 68 v (w32 (S 68 v + S 183 u))) 184 u v else zs (zs (zs S 67 v (w32 (S 67 v + S 183 u))) 75 v (w32 (S 75 v + S 183 u))) 184 u v
def yBrA (S : zT) (a b : Int) : Int := if (0 ≤ a ∧ a < S 37 78) ∧ (0 ≤ b ∧ b < S 37 1) ∧ S 184 a.toNat = -1 ∧ yFarq S (S 79 (S 181 a.toNat).toNat).toNat b.toNat ≠ -1 then w32 (yBrS S a.toNat b.toNat 67 b.toNat + yBrS S a.toNat b.toNat 68 b.toNat) else -1
def yBrF (S : zT) (a b : Int) : zT := if (0 ≤ a ∧ a < S 37 78) ∧ (0 ≤ b ∧ b < S 37 1) ∧ S 184 a.toNat = -1 ∧ yFarq S (S 79 (S 181 a.toNat).toNat).toNat b.toNat ≠ -1 then yBrS S a.toNat b.toNat else S
theorem yPut_br {u v : Nat} (hb : b = (v : Int)) : yPut (zs S 184 u b) v (S 183 u) (S 185 u) = yBrS S u v := by
  subst hb
  unfold yPut yBrS
  by_cases h : S 185 u = 0
  · rw [if_pos h, if_pos h, zs_na (by decide), zs_sw (a := 184) (b := 68) (by decide)]
  · rw [if_neg h, if_neg h, zs_na (by decide), zs_na (by decide), zs_sw (a := 184) (b := 67) (by decide), zs_sw (a := 184) (b := 75) (by decide)]
theorem z57_0 : S = z57 S n 0 := by
  funext a i
  exact (if_neg (fun z => absurd z.2.2 (Nat.not_lt_zero _))).symm
theorem z57_s (h : k < 157) : zs (z57 S n k) 57 (157 * n + k) 10 = z57 S n (k + 1) := by
  funext a i
  rw [zs_if]
  show (if _ then _ else (if _ then _ else _)) = (if _ then _ else _)
  by_cases e : a = 57 ∧ i = 157 * n + k
  · rw [if_pos e, if_pos ⟨e.1, by omega, by omega⟩]
  · rw [if_neg e]
    by_cases f : a = 57 ∧ i / 157 = n ∧ i % 157 < k
    · rw [if_pos f, if_pos ⟨f.1, f.2.1, by omega⟩]
    · rw [if_neg f, if_neg (fun z => by omega)]
/-- a village, a house -/
def yVilA (S : zT) (a b c : Int) : Int := if S 37 1 < 8 ∧ (0 ≤ a ∧ a / 1000000 ≤ 40 ∧ a / 10000 % 100 ≤ 40 ∧ a / 100 % 100 ≤ 40 ∧ a % 100 ≤ 40) ∧ (1 ≤ b ∧ b ≤ 9) ∧ (0 ≤ c ∧ c ≤ 9999) then S 37 1 else -1
def yVilF (S : zT) (a b c : Int) : zT := if S 37 1 < 8 ∧ (0 ≤ a ∧ a / 1000000 ≤ 40 ∧ a / 10000 % 100 ≤ 40 ∧ a / 100 % 100 ≤ 40 ∧ a % 100 ≤ 40) ∧ (1 ≤ b ∧ b ≤ 9) ∧ (0 ≤ c ∧ c ≤ 9999) then yVil S (S 37 1).toNat a b c else S
def yHouA (S : zT) (a b : Int) : Int := if (0 ≤ a ∧ a < S 37 1) ∧ S 37 2 < 20 ∧ S 37 0 < 156 ∧ (0 ≤ b ∧ b / 1000 ≤ 5 ∧ 1 ≤ b / 100 % 10 ∧ b / 10 % 10 ≤ 5 ∧ 1 ≤ b % 10) then S 37 2 else -1
def yHouF (S : zT) (a b : Int) : zT := if (0 ≤ a ∧ a < S 37 1) ∧ S 37 2 < 20 ∧ S 37 0 < 156 ∧ (0 ≤ b ∧ b / 1000 ≤ 5 ∧ 1 ≤ b / 100 % 10 ∧ b / 10 % 10 ≤ 5 ∧ 1 ≤ b % 10) then yHou S (S 37 2).toNat a (b / 1000) (b / 100 % 10) (b / 10 % 10) (b % 10) else S
end YWV
