/-! what of the model stays from call to call, as one function of table and place -/
section YM
variable {h h' g : Hp} {a i n : Nat} {x : Int} {ms : Zms}
theorem zbq_f {m k : Nat} (e : m ≠ k) : Nat.beq m k = false := by
  cases q : Nat.beq m k with
  | true => exact absurd (Nat.eq_of_beq_eq_true q) e
  | false => rfl
def zu (f : Nat → Int) (i : Nat) (x : Int) : Nat → Int := fun k => if k = i then x else f k
theorem zu_eq {f : Nat → Int} : zu f i x i = x := if_pos rfl
theorem zu_ne {f : Nat → Int} {k : Nat} (e : k ≠ i) : zu f i x k = f k := if_neg e
/-- a row behind a write of one of its places -/
theorem fld_zu {r : Int} {k : Nat} (s : sh h r = some (k, n)) (hi : i < n) (e : h' = wr h r i x) : fld h' r = zu (fld h r) i x := by
  funext j
  by_cases q : j = i
  · rw [q, zu_eq, e]
    exact fld_wr_eq s hi
  · rw [zu_ne q, e]
    exact fld_wr (Or.inr q)
/-- how wide a table's rows are (0: one row) -/
def yWd (a : Nat) : Nat := cond (Nat.beq a 39) 4 (cond (Nat.beq a 48) 8 (cond (Nat.beq a 57) 157 (cond (Nat.beq a 101) 840 (cond (Nat.beq a 155) 5 (cond (Nat.beq a 206) 6 0)))))
/-- how many places a table has -/
def ySz (a : Nat) : Nat := cond (Nat.beq a 39) 32 (cond (Nat.beq a 48) 64 (cond (Nat.beq a 57) 1256 (cond (Nat.beq a 101) 40320 (cond (Nat.beq a 155) 40 (cond (Nat.beq a 206) 936 (cond (Nat.ble 65 a && Nat.ble a 78) 8 (cond (Nat.ble 79 a && Nat.ble a 96) 20 (cond (Nat.beq a 98) 400 (cond (Nat.ble 164 a && Nat.ble a 165) 12 (cond (Nat.ble 170 a && Nat.ble a 175) 300 (cond (Nat.ble 180 a && Nat.ble a 185) 200 (cond (Nat.ble 363 a && Nat.ble a 365) 8 (cond (Nat.beq a 8) 64 0)))))))))))))
/-- single numbers that stay -/
def ySc (i : Nat) : Bool := Nat.ble i 2 || (Nat.beq i 38 || (Nat.beq i 41 || ((Nat.beq i 52 || Nat.beq i 53) || (Nat.beq i 64 || ((Nat.ble 69 i && Nat.ble i 71) || (Nat.beq i 78 || (Nat.beq i 86 || Nat.beq i 96)))))))
def yM (h : Hp) : zT := fun a i => cond (Nat.beq a 37) (cond (ySc i) (fld h 37 i) 0) (cond (Nat.beq a 186) (if (i : Int) < fld h 37 86 then fld h 186 i else 0) (cond (Nat.blt i (ySz a)) (cond (Nat.beq a 93) (w32 (fld h 93 i)) (fld h ((a + i / yWd a : Nat) : Int) (i % yWd a))) 0))
/-- tables of one row -/
def yPl (a n : Nat) : Bool := Nat.beq (yWd a) 0 && (Nat.beq (ySz a) n && (!(Nat.beq a 93) && Nat.blt 0 n))
theorem yWd_c (a : Nat) : (a = 39 ∧ yWd a = 4 ∧ ySz a = 32) ∨ (a = 48 ∧ yWd a = 8 ∧ ySz a = 64) ∨ (a = 57 ∧ yWd a = 157 ∧ ySz a = 1256) ∨ (a = 101 ∧ yWd a = 840 ∧ ySz a = 40320) ∨ (a = 155 ∧ yWd a = 5 ∧ ySz a = 40) ∨ (a = 206 ∧ yWd a = 6 ∧ ySz a = 936) ∨ (yWd a = 0 ∧ (ySz a = 0 ∨ (a = 8 ∧ ySz a = 64) ∨ (65 ≤ a ∧ a ≤ 96 ∧ ySz a ≤ 20) ∨ (a = 98 ∧ ySz a = 400) ∨ (164 ≤ a ∧ a ≤ 165 ∧ ySz a = 12) ∨ (170 ≤ a ∧ a ≤ 175 ∧ ySz a = 300) ∨ (180 ≤ a ∧ a ≤ 185 ∧ ySz a = 200) ∨ (363 ≤ a ∧ a ≤ 365 ∧ ySz a = 8))) := by
  by_cases h1 : a = 39
  · subst h1; exact Or.inl ⟨rfl, rfl, rfl⟩
  by_cases h2 : a = 48
  · subst h2; exact Or.inr (Or.inl ⟨rfl, rfl, rfl⟩)
  by_cases h3 : a = 57
  · subst h3; exact Or.inr (Or.inr (Or.inl ⟨rfl, rfl, rfl⟩))
  by_cases h4 : a = 101
  · subst h4; exact Or.inr (Or.inr (Or.inr (Or.inl ⟨rfl, rfl, rfl⟩)))
  by_cases h5 : a = 155
  · subst h5; exact Or.inr (Or.inr (Or.inr (Or.inr (Or.inl ⟨rfl, rfl, rfl⟩))))
  by_cases h6 : a = 206
  · subst h6; exact Or.inr (Or.inr (Or.inr (Or.inr (Or.inr (Or.inl ⟨rfl, rfl, rfl⟩)))))
  have b1 : Nat.beq a 39 = false := zbq_f h1
  have b2 : Nat.beq a 48 = false := zbq_f h2
  have b3 : Nat.beq a 57 = false := zbq_f h3
  have b4 : Nat.beq a 101 = false := zbq_f h4
  have b5 : Nat.beq a 155 = false := zbq_f h5
  have b6 : Nat.beq a 206 = false := zbq_f h6
  refine Or.inr (Or.inr (Or.inr (Or.inr (Or.inr (Or.inr ⟨by unfold yWd; rw [b1, b2, b3, b4, b5, b6]; rfl, ?_⟩)))))
  unfold ySz
  rw [b1, b2, b3, b4, b5, b6]
  simp only [cond_false]
  cases c1 : (Nat.ble 65 a && Nat.ble a 78) with
  | true =>
    rw [Bool.and_eq_true] at c1
    have p1 := Nat.le_of_ble_eq_true c1.1
    have p2 := Nat.le_of_ble_eq_true c1.2
    exact Or.inr (Or.inr (Or.inl ⟨p1, by omega, by show 8 ≤ 20; decide⟩))
  | false =>
  cases c2 : (Nat.ble 79 a && Nat.ble a 96) with
  | true =>
    rw [Bool.and_eq_true] at c2
    have p1 := Nat.le_of_ble_eq_true c2.1
    have p2 := Nat.le_of_ble_eq_true c2.2
    exact Or.inr (Or.inr (Or.inl ⟨by omega, p2, by show 20 ≤ 20; decide⟩))
  | false =>
  cases c3 : Nat.beq a 98 with
  | true => exact Or.inr (Or.inr (Or.inr (Or.inl ⟨Nat.eq_of_beq_eq_true c3, rfl⟩)))
  | false =>
  cases c4 : (Nat.ble 164 a && Nat.ble a 165) with
  | true =>
    rw [Bool.and_eq_true] at c4
    exact Or.inr (Or.inr (Or.inr (Or.inr (Or.inl ⟨Nat.le_of_ble_eq_true c4.1, Nat.le_of_ble_eq_true c4.2, rfl⟩))))
  | false =>
  cases c5 : (Nat.ble 170 a && Nat.ble a 175) with
  | true =>
    rw [Bool.and_eq_true] at c5
    exact Or.inr (Or.inr (Or.inr (Or.inr (Or.inr (Or.inl ⟨Nat.le_of_ble_eq_true c5.1, Nat.le_of_ble_eq_true c5.2, rfl⟩)))))
  | false =>
  cases c6 : (Nat.ble 180 a && Nat.ble a 185) with
  | true =>
    rw [Bool.and_eq_true] at c6
    exact Or.inr (Or.inr (Or.inr (Or.inr (Or.inr (Or.inr (Or.inl ⟨Nat.le_of_ble_eq_true c6.1, Nat.le_of_ble_eq_true c6.2, rfl⟩))))))
  | false =>
  cases c7 : (Nat.ble 363 a && Nat.ble a 365) with
  | true =>
    rw [Bool.and_eq_true] at c7
    exact Or.inr (Or.inr (Or.inr (Or.inr (Or.inr (Or.inr (Or.inr (⟨Nat.le_of_ble_eq_true c7.1, Nat.le_of_ble_eq_true c7.2, rfl⟩)))))))
  | false =>
  cases c8 : Nat.beq a 8 with
  | true => exact Or.inr (Or.inl ⟨Nat.eq_of_beq_eq_true c8, rfl⟩)
  | false => exact Or.inl rfl
theorem yPl_of (e : yPl a n = true) : yWd a = 0 ∧ ySz a = n ∧ a ≠ 93 ∧ 0 < n ∧ (a = 8 ∨ (65 ≤ a ∧ a ≤ 98) ∨ (164 ≤ a ∧ a ≤ 185) ∨ (363 ≤ a ∧ a ≤ 365)) ∧ a ≠ 186 := by
  unfold yPl at e
  simp only [Bool.and_eq_true, Bool.not_eq_true'] at e
  obtain ⟨e1, e2, e3, e4⟩ := e
  have e1 := Nat.eq_of_beq_eq_true e1
  have e2 := Nat.eq_of_beq_eq_true e2
  have e3 := Nat.ne_of_beq_eq_false e3
  have e4 : 0 < n := Nat.le_of_ble_eq_true e4
  have c := yWd_c a
  refine ⟨e1, e2, e3, e4, ?_, ?_⟩ <;> omega
theorem blt_t {m k : Nat} (e : m < k) : Nat.blt m k = true := Nat.ble_eq_true_of_le e
/-- a place of a one-row table -/
theorem yM_p (e : yPl a n = true) (hi : i < n) : yM h a i = fld h (a : Int) i := by
  obtain ⟨e1, e2, e3, e4, e5, e6⟩ := yPl_of e
  unfold yM
  rw [zbq_f (show a ≠ 37 by omega), zbq_f e6, zbq_f e3, e2, blt_t hi, e1, Nat.div_zero, Nat.mod_zero]
  rfl
theorem yM_s (e : ySc i = true) : yM h 37 i = fld h 37 i := by
  show cond (ySc i) (fld h 37 i) 0 = _
  rw [e]
  rfl
theorem yM_93 (hi : i < 20) : yM h 93 i = w32 (fld h 93 i) := by
  show cond (Nat.blt i 20) (w32 (fld h 93 i)) 0 = _
  rw [blt_t hi]
  rfl
theorem yM_186 : yM h 186 i = if (i : Int) < fld h 37 86 then fld h 186 i else 0 := rfl
/-- a place of a table of rows -/
theorem yM_2 {w v j : Nat} (e : Nat.beq (yWd a) w = true) (hj : j < w) (hi : w * v + j < ySz a) : yM h a (w * v + j) = fld h ((a + v : Nat) : Int) j := by
  have e := Nat.eq_of_beq_eq_true e
  have c := yWd_c a
  unfold yM
  rw [zbq_f (show a ≠ 37 by omega), zbq_f (show a ≠ 186 by omega), zbq_f (show a ≠ 93 by intro z; subst z; have : yWd 93 = 0 := rfl; omega), blt_t hi, e, Nat.mul_add_mod, Nat.mod_eq_of_lt hj, Nat.mul_add_div (by omega), Nat.div_eq_of_lt hj]
  rfl
theorem ySc_of (e : ySc i = true) : i ≤ 2 ∨ i = 38 ∨ i = 41 ∨ i = 52 ∨ i = 53 ∨ i = 64 ∨ (69 ≤ i ∧ i ≤ 71) ∨ i = 78 ∨ i = 86 ∨ i = 96 := by
  unfold ySc at e
  simp only [Bool.or_eq_true, Bool.and_eq_true] at e
  rcases e with e | e | e | (e | e) | e | e | e | e | e
  · exact Or.inl (Nat.le_of_ble_eq_true e)
  · have := Nat.eq_of_beq_eq_true e; omega
  · have := Nat.eq_of_beq_eq_true e; omega
  · have := Nat.eq_of_beq_eq_true e; omega
  · have := Nat.eq_of_beq_eq_true e; omega
  · have := Nat.eq_of_beq_eq_true e; omega
  · have := Nat.le_of_ble_eq_true e.1; have := Nat.le_of_ble_eq_true e.2; omega
  · have := Nat.eq_of_beq_eq_true e; omega
  · have := Nat.eq_of_beq_eq_true e; omega
  · have := Nat.eq_of_beq_eq_true e; omega
/-- where the places of a table lie -/
theorem yM_wh {b k : Nat} (hk : k < ySz b) : ((b = 39 ∨ b = 48 ∨ b = 57 ∨ b = 101 ∨ b = 155 ∨ b = 206) ∧ b + k / yWd b < b + 160 ∧ ((b = 39 → b + k / yWd b ≤ 46) ∧ (b = 48 → b + k / yWd b ≤ 55) ∧ (b = 57 → b + k / yWd b ≤ 64) ∧ (b = 101 → b + k / yWd b ≤ 148) ∧ (b = 155 → b + k / yWd b ≤ 162) ∧ (b = 206 → b + k / yWd b ≤ 361)) ∧ b ≤ b + k / yWd b ∧ k % yWd b < yWd b ∧ yWd b * (k / yWd b) + k % yWd b = k) ∨ (b + k / yWd b = b ∧ k % yWd b = k ∧ (b = 8 ∨ (65 ≤ b ∧ b ≤ 98) ∨ (164 ≤ b ∧ b ≤ 185) ∨ (363 ≤ b ∧ b ≤ 365)) ∧ b ≠ 186) := by
  rcases yWd_c b with ⟨rfl, e, f⟩ | ⟨rfl, e, f⟩ | ⟨rfl, e, f⟩ | ⟨rfl, e, f⟩ | ⟨rfl, e, f⟩ | ⟨rfl, e, f⟩ | ⟨e, c⟩
  · rw [f] at hk; rw [e]; omega
  · rw [f] at hk; rw [e]; omega
  · rw [f] at hk; rw [e]; omega
  · rw [f] at hk; rw [e]; omega
  · rw [f] at hk; rw [e]; omega
  · rw [f] at hk; rw [e]; omega
  · right
    rw [e, Nat.div_zero, Nat.mod_zero]
    omega
/-- a place of a one-row table is written -/
theorem yM_w {kd : Nat} (e : yPl a n = true) (s : sh h (a : Int) = some (kd, n)) (hi : i < n) (e' : h' = wr h (a : Int) i x) : yM h' = zs (yM h) a i x := by
  have ⟨e1, e2, e3, e4, e5, e6⟩ := yPl_of e
  funext b k
  rw [zs_if]
  by_cases hb : b = a ∧ k = i
  · obtain ⟨rfl, rfl⟩ := hb
    rw [if_pos ⟨rfl, rfl⟩, yM_p e hi, e']
    exact fld_wr_eq s hi
  · rw [if_neg hb]
    have key : ∀ (p : Int) (q : Nat), (p ≠ (a : Int) ∨ q ≠ i) → fld h' p q = fld h p q := fun p q hn => by rw [e']; exact fld_wr hn
    unfold yM
    rw [key 37 k (Or.inl (by omega)), key 37 86 (Or.inl (by omega)), key 186 k (Or.inl (by omega)), key 93 k (Or.inl (by omega))]
    cases c4 : Nat.blt k (ySz b) with
    | false => rfl
    | true =>
      have hk : k < ySz b := Nat.le_of_ble_eq_true c4
      rw [key ((b + k / yWd b : Nat) : Int) (k % yWd b) (by have := yM_wh hk; omega)]
/-- a single number is written -/
theorem yM_ws {kd : Nat} (e : (ySc i && !(Nat.beq i 86)) = true) (s : sh h 37 = some (kd, n)) (hi : i < n) (e' : h' = wr h 37 i x) : yM h' = zs (yM h) 37 i x := by
  rw [Bool.and_eq_true, Bool.not_eq_true'] at e
  have e2 := Nat.ne_of_beq_eq_false e.2
  funext b k
  rw [zs_if]
  by_cases hb : b = 37 ∧ k = i
  · obtain ⟨rfl, rfl⟩ := hb
    rw [if_pos ⟨rfl, rfl⟩, yM_s e.1, e']
    exact fld_wr_eq s hi
  · rw [if_neg hb]
    have key : ∀ (p : Int) (q : Nat), (p ≠ 37 ∨ q ≠ i) → fld h' p q = fld h p q := fun p q hn => by rw [e']; exact fld_wr hn
    unfold yM
    rw [key 37 86 (Or.inr (by omega)), key 186 k (Or.inl (by decide)), key 93 k (Or.inl (by decide))]
    cases c1 : Nat.beq b 37 with
    | true =>
      have := Nat.eq_of_beq_eq_true c1
      rw [key 37 k (Or.inr (by omega))]
      rfl
    | false =>
      cases c4 : Nat.blt k (ySz b) with
      | false => rfl
      | true =>
        have hk : k < ySz b := Nat.le_of_ble_eq_true c4
        rw [key ((b + k / yWd b : Nat) : Int) (k % yWd b) (by have := yM_wh hk; omega)]
        rfl
theorem w32_w (y z : Int) : w32 (w32 y + z) = w32 (y + z) := by
  unfold w32
  omega
/-- what a house owes is written -/
theorem yM_w93 {kd : Nat} (s : sh h 93 = some (kd, 20)) (hi : i < 20) (e' : h' = wr h 93 i x) : yM h' = zs (yM h) 93 i (w32 x) := by
  funext b k
  rw [zs_if]
  by_cases hb : b = 93 ∧ k = i
  · obtain ⟨rfl, rfl⟩ := hb
    rw [if_pos ⟨rfl, rfl⟩, yM_93 hi, e', fld_wr_eq s hi]
  · rw [if_neg hb]
    have key : ∀ (p : Int) (q : Nat), (p ≠ 93 ∨ q ≠ i) → fld h' p q = fld h p q := fun p q hn => by rw [e']; exact fld_wr hn
    unfold yM
    rw [key 37 86 (Or.inl (by decide)), key 186 k (Or.inl (by decide)), key 37 k (Or.inl (by decide))]
    cases c4 : Nat.blt k (ySz b) with
    | false => rfl
    | true =>
      have hk : k < ySz b := Nat.le_of_ble_eq_true c4
      cases c5 : Nat.beq b 93 with
      | true =>
        have := Nat.eq_of_beq_eq_true c5
        rw [key 93 k (Or.inr (by omega))]
        rfl
      | false =>
        have := Nat.ne_of_beq_eq_false c5
        rw [key ((b + k / yWd b : Nat) : Int) (k % yWd b) (by have := yM_wh hk; omega)]
        rfl
/-- a place of a table of rows is written -/
theorem yM_w2 {kd w v j m : Nat} {r : Int} (e : (Nat.beq (yWd a) w && Nat.blt 0 w) = true) (hr : r = ((a + v : Nat) : Int)) (s : sh h r = some (kd, m)) (hm : j < m) (hj : j < w) (hi : w * v + j < ySz a) (e' : h' = wr h r j x) : yM h' = zs (yM h) a (w * v + j) x := by
  rw [Bool.and_eq_true] at e
  have ew := Nat.eq_of_beq_eq_true e.1
  have c := yWd_c a
  subst hr
  have wa : 39 ≤ a ∧ a + v ≤ 361 ∧ ((a = 39 ∧ v ≤ 7) ∨ (a = 48 ∧ v ≤ 7) ∨ (a = 57 ∧ v ≤ 7) ∨ (a = 101 ∧ v ≤ 47) ∨ (a = 155 ∧ v ≤ 7) ∨ (a = 206 ∧ v ≤ 155)) := by
    rcases c with ⟨rfl, q, f⟩ | ⟨rfl, q, f⟩ | ⟨rfl, q, f⟩ | ⟨rfl, q, f⟩ | ⟨rfl, q, f⟩ | ⟨rfl, q, f⟩ | ⟨q, f⟩
    · rw [q] at ew; subst ew; rw [f] at hi; omega
    · rw [q] at ew; subst ew; rw [f] at hi; omega
    · rw [q] at ew; subst ew; rw [f] at hi; omega
    · rw [q] at ew; subst ew; rw [f] at hi; omega
    · rw [q] at ew; subst ew; rw [f] at hi; omega
    · rw [q] at ew; subst ew; rw [f] at hi; omega
    · omega
  funext b k
  rw [zs_if]
  by_cases hb : b = a ∧ k = w * v + j
  · obtain ⟨rfl, rfl⟩ := hb
    rw [if_pos ⟨rfl, rfl⟩, yM_2 e.1 hj hi, e']
    exact fld_wr_eq s hm
  · rw [if_neg hb]
    have key : ∀ (p : Int) (q : Nat), (p ≠ ((a + v : Nat) : Int) ∨ q ≠ j) → fld h' p q = fld h p q := fun p q hn => by rw [e']; exact fld_wr hn
    unfold yM
    rw [key 37 k (Or.inl (by omega)), key 37 86 (Or.inl (by omega)), key 186 k (Or.inl (by omega)), key 93 k (Or.inl (by omega))]
    cases c4 : Nat.blt k (ySz b) with
    | false => rfl
    | true =>
      have hk : k < ySz b := Nat.le_of_ble_eq_true c4
      rw [key ((b + k / yWd b : Nat) : Int) (k % yWd b) ?_]
      have W := yM_wh hk
      by_cases hba : b = a
      · subst hba
        rcases W with ⟨-, -, -, -, w5, w6⟩ | ⟨w1, w2, w3, -⟩
        · by_cases hq : k % yWd b = j
          · left
            intro z
            have z : b + k / yWd b = b + v := by omega
            have z : k / yWd b = v := by omega
            rw [z, hq, ew] at w6
            exact hb ⟨rfl, w6.symm⟩
          · exact Or.inr hq
        · omega
      · left
        omega
/-- tables' places, as areas -/
def yAr : Zms := [(8, 8, 0, 64), (37, 37, 0, 3), (37, 37, 38, 39), (37, 37, 41, 42), (37, 37, 52, 54), (37, 37, 64, 65), (37, 37, 69, 72), (37, 37, 78, 79), (37, 37, 86, 87), (37, 37, 96, 97), (39, 46, 0, 4), (48, 55, 0, 8), (57, 64, 0, 157), (65, 96, 0, 20), (98, 98, 0, 400), (101, 148, 0, 840), (155, 162, 0, 5), (164, 165, 0, 12), (170, 175, 0, 300), (180, 185, 0, 200), (186, 186, 0, 6), (206, 361, 0, 6), (363, 365, 0, 8)]
def yFr (ms : Zms) : Bool := yAr.all (fun e => zqN ms e.1 e.2.1 e.2.2.1 e.2.2.2)
theorem yFr_a (e : yFr ms = true) {q : Nat × Nat × Nat × Nat} (hq : yAr.contains q = true) : zqN ms q.1 q.2.1 q.2.2.1 q.2.2.2 = true := by
  rw [List.contains_iff_mem] at hq
  exact List.all_eq_true.mp e q hq
/-- tables stay where their places stay -/
theorem yM_st (f37 : ∀ q, ySc q = true → fld g 37 q = fld h 37 q) (f186 : ∀ k : Nat, (k : Int) < fld h 37 86 → fld g 186 k = fld h 186 k) (fT : ∀ b k : Nat, k < ySz b → fld g ((b + k / yWd b : Nat) : Int) (k % yWd b) = fld h ((b + k / yWd b : Nat) : Int) (k % yWd b)) : yM g = yM h := by
  funext b k
  unfold yM
  cases c1 : Nat.beq b 37 with
  | true =>
    simp only [cond_true]
    cases c2 : ySc k with
    | true => exact f37 k c2
    | false => rfl
  | false =>
    simp only [cond_false]
    cases c3 : Nat.beq b 186 with
    | true =>
      simp only [cond_true]
      rw [f37 86 rfl]
      by_cases hk : (k : Int) < fld h 37 86
      · rw [if_pos hk, if_pos hk]
        exact f186 k hk
      · rw [if_neg hk, if_neg hk]
    | false =>
      simp only [cond_false]
      cases c4 : Nat.blt k (ySz b) with
      | false => rfl
      | true =>
        have key := fT b k (Nat.le_of_ble_eq_true c4)
        simp only [cond_true]
        cases c5 : Nat.beq b 93 with
        | false => exact key
        | true =>
          have hb := Nat.eq_of_beq_eq_true c5
          subst hb
          have key : fld g ((93 + k / 0 : Nat) : Int) (k % 0) = fld h ((93 + k / 0 : Nat) : Int) (k % 0) := key
          rw [Nat.div_zero, Nat.mod_zero] at key
          show w32 _ = w32 _
          rw [show fld g 93 k = fld h 93 k from key]
/-- what touches no table -/
theorem yM_fr (R : zMR ms h g) (e : yFr ms = true) (b86 : fld h 37 86 ≤ 6) : yM g = yM h := by
  have f : ∀ (a1 a2 j1 j2 : Nat), yAr.contains (a1, a2, j1, j2) = true → ∀ (p : Int) (q : Nat), (a1 : Int) ≤ p → p ≤ (a2 : Int) → j1 ≤ q → q < j2 → fld g p q = fld h p q := fun a1 a2 j1 j2 hc p q k1 k2 k3 k4 => R.f (yFr_a e hc) ⟨k1, k2⟩ ⟨k3, k4⟩
  have f37 : ∀ q, ySc q = true → fld g 37 q = fld h 37 q := by
    intro q hq
    rcases ySc_of hq with z | rfl | rfl | rfl | rfl | rfl | z | rfl | rfl | rfl
    · exact f 37 37 0 3 (by decide +kernel) 37 q (by decide) (by decide) (by omega) (by omega)
    · exact f 37 37 38 39 (by decide +kernel) 37 38 (by decide) (by decide) (by omega) (by omega)
    · exact f 37 37 41 42 (by decide +kernel) 37 41 (by decide) (by decide) (by omega) (by omega)
    · exact f 37 37 52 54 (by decide +kernel) 37 52 (by decide) (by decide) (by omega) (by omega)
    · exact f 37 37 52 54 (by decide +kernel) 37 53 (by decide) (by decide) (by omega) (by omega)
    · exact f 37 37 64 65 (by decide +kernel) 37 64 (by decide) (by decide) (by omega) (by omega)
    · exact f 37 37 69 72 (by decide +kernel) 37 q (by decide) (by decide) (by omega) (by omega)
    · exact f 37 37 78 79 (by decide +kernel) 37 78 (by decide) (by decide) (by omega) (by omega)
    · exact f 37 37 86 87 (by decide +kernel) 37 86 (by decide) (by decide) (by omega) (by omega)
    · exact f 37 37 96 97 (by decide +kernel) 37 96 (by decide) (by decide) (by omega) (by omega)
  have fT : ∀ b k : Nat, k < ySz b → fld g ((b + k / yWd b : Nat) : Int) (k % yWd b) = fld h ((b + k / yWd b : Nat) : Int) (k % yWd b) := by
    intro b k hk
    rcases yWd_c b with ⟨rfl, q, z⟩ | ⟨rfl, q, z⟩ | ⟨rfl, q, z⟩ | ⟨rfl, q, z⟩ | ⟨rfl, q, z⟩ | ⟨rfl, q, z⟩ | ⟨q, z⟩
    · rw [z] at hk; rw [q]; exact f 39 46 0 4 (by decide +kernel) _ _ (by omega) (by omega) (by omega) (by omega)
    · rw [z] at hk; rw [q]; exact f 48 55 0 8 (by decide +kernel) _ _ (by omega) (by omega) (by omega) (by omega)
    · rw [z] at hk; rw [q]; exact f 57 64 0 157 (by decide +kernel) _ _ (by omega) (by omega) (by omega) (by omega)
    · rw [z] at hk; rw [q]; exact f 101 148 0 840 (by decide +kernel) _ _ (by omega) (by omega) (by omega) (by omega)
    · rw [z] at hk; rw [q]; exact f 155 162 0 5 (by decide +kernel) _ _ (by omega) (by omega) (by omega) (by omega)
    · rw [z] at hk; rw [q]; exact f 206 361 0 6 (by decide +kernel) _ _ (by omega) (by omega) (by omega) (by omega)
    · rw [q, Nat.div_zero, Nat.mod_zero]
      rcases z with z | z | z | z | z | z | z | z
      · omega
      · exact f 8 8 0 64 (by decide +kernel) _ _ (by omega) (by omega) (by omega) (by omega)
      · exact f 65 96 0 20 (by decide +kernel) _ _ (by omega) (by omega) (by omega) (by omega)
      · exact f 98 98 0 400 (by decide +kernel) _ _ (by omega) (by omega) (by omega) (by omega)
      · exact f 164 165 0 12 (by decide +kernel) _ _ (by omega) (by omega) (by omega) (by omega)
      · exact f 170 175 0 300 (by decide +kernel) _ _ (by omega) (by omega) (by omega) (by omega)
      · exact f 180 185 0 200 (by decide +kernel) _ _ (by omega) (by omega) (by omega) (by omega)
      · exact f 363 365 0 8 (by decide +kernel) _ _ (by omega) (by omega) (by omega) (by omega)
  exact yM_st f37 (fun k hk => f 186 186 0 6 (by decide +kernel) 186 k (by decide) (by decide) (by omega) (by omega)) fT
/-- what stays at the fixed places -/
theorem yM_fx (f : ∀ (p : Int) (q : Nat), 0 < p ∧ p ≤ 365 → fld g p q = fld h p q) : yM g = yM h := by
  funext b k
  unfold yM
  rw [f 37 k (by decide), f 37 86 (by decide), f 186 k (by decide), f 93 k (by decide)]
  cases c4 : Nat.blt k (ySz b) with
  | false => rfl
  | true =>
    have hk : k < ySz b := Nat.le_of_ble_eq_true c4
    rw [f ((b + k / yWd b : Nat) : Int) (k % yWd b) (by have := yM_wh hk; omega)]
end YM
