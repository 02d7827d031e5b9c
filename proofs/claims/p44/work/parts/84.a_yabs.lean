/-! joined: 84.a_yabs 84.b_yfun 84.c_parse 84.d_weval 84.e_xeval -/
section
/-! what of the model stays from call to call, as one function of table and place -/
section YM
variable {h h' g : Hp} {a i n : Nat} {x : Int} {ms : Zms}
theorem zbq_f {m k : Nat} (e : m ≠ k) : Nat.beq m k = false := by
  cases q : Nat.beq m k with
  | true => exact absurd (Nat.eq_of_beq_eq_true q) e
  | false => rfl
def zu (f : Nat → Int) (i : Nat) (x : Int) : Nat → Int := fun k => if k = i then x else f k
theorem zu_eq {f : Nat → Int} : zu f i x i = x := if_pos rfl
theorem zu_ne {f : Nat → Int} {k : Nat} (e : k ≠ i) : zu f i x k = f k := if_neg e
/-- a row behind a write of one of its places -/
theorem fld_zu {r : Int} {k : Nat} (s : sh h r = some (k, n)) (hi : i < n) (e : h' = wr h r i x) : fld h' r = zu (fld h r) i x := by
  funext j
  by_cases q : j = i
  · rw [q, zu_eq, e]
    exact fld_wr_eq s hi
  · rw [zu_ne q, e]
    exact fld_wr (Or.inr q)
/-- how wide a table's rows are (0: one row) -/
def yWd (a : Nat) : Nat := cond (Nat.beq a 39) 4 (cond (Nat.beq a 48) 8 (cond (Nat.beq a 57) 157 (cond (Nat.beq a 101) 840 (cond (Nat.beq a 155) 5 (cond (Nat.beq a 206) 6 0)))))
/-- how many places a table has -/
def ySz (a : Nat) : Nat := cond (Nat.beq a 39) 32 (cond (Nat.beq a 48) 64 (cond (Nat.beq a 57) 1256 (cond (Nat.beq a 101) 40320 (cond (Nat.beq a 155) 40 (cond (Nat.beq a 206) 936 (cond (Nat.ble 65 a && Nat.ble a 78) 8 (cond (Nat.ble 79 a && Nat.ble a 96) 20 (cond (Nat.beq a 98) 400 (cond (Nat.ble 164 a && Nat.ble a 165) 12 (cond (Nat.ble 170 a && Nat.ble a 175) 300 (cond (Nat.ble 180 a && Nat.ble a 185) 200 (cond (Nat.ble 363 a && Nat.ble a 365) 8 (cond (Nat.beq a 8) 64 0)))))))))))))
/-- single numbers that stay -/
def ySc (i : Nat) : Bool := Nat.ble i 2 || (Nat.beq i 38 || (Nat.beq i 41 || ((Nat.beq i 52 || Nat.beq i 53) || (Nat.beq i 64 || ((Nat.ble 69 i && Nat.ble i 71) || (Nat.beq i 78 || (Nat.beq i 86 || Nat.beq i 96)))))))
def yM (h : Hp) : zT := fun a i => cond (Nat.beq a 37) (cond (ySc i) (fld h 37 i) 0) (cond (Nat.beq a 186) (if (i : Int) < fld h 37 86 then fld h 186 i else 0) (cond (Nat.blt i (ySz a)) (cond (Nat.beq a 93) (w32 (fld h 93 i)) (fld h ((a + i / yWd a : Nat) : Int) (i % yWd a))) 0))
/-- tables of one row -/
def yPl (a n : Nat) : Bool := Nat.beq (yWd a) 0 && (Nat.beq (ySz a) n && (!(Nat.beq a 93) && Nat.blt 0 n))
theorem yWd_c (a : Nat) : (a = 39 ∧ yWd a = 4 ∧ ySz a = 32) ∨ (a = 48 ∧ yWd a = 8 ∧ ySz a = 64) ∨ (a = 57 ∧ yWd a = 157 ∧ ySz a = 1256) ∨ (a = 101 ∧ yWd a = 840 ∧ ySz a = 40320) ∨ (a = 155 ∧ yWd a = 5 ∧ ySz a = 40) ∨ (a = 206 ∧ yWd a = 6 ∧ ySz a = 936) ∨ (yWd a = 0 ∧ (ySz a = 0 ∨ (a = 8 ∧ ySz a = 64) ∨ (65 ≤ a ∧ a ≤ 96 ∧ ySz a ≤ 20) ∨ (a = 98 ∧ ySz a = 400) ∨ (164 ≤ a ∧ a ≤ 165 ∧ ySz a = 12) ∨ (170 ≤ a ∧ a ≤ 175 ∧ ySz a = 300) ∨ (180 ≤ a ∧ a ≤ 185 ∧ ySz a = 200) ∨ (363 ≤ a ∧ a ≤ 365 ∧ ySz a = 8))) := by
  by_cases h1 : a = 39
  · subst h1; exact Or.inl ⟨rfl, rfl, rfl⟩
  by_cases h2 : a = 48
  · subst h2; exact Or.inr (Or.inl ⟨rfl, rfl, rfl⟩)
  by_cases h3 : a = 57
  · subst h3; exact Or.inr (Or.inr (Or.inl ⟨rfl, rfl, rfl⟩))
  by_cases h4 : a = 101
  · subst h4; exact Or.inr (Or.inr (Or.inr (Or.inl ⟨rfl, rfl, rfl⟩)))
  by_cases h5 : a = 155
  · subst h5; exact Or.inr (Or.inr (Or.inr (Or.inr (Or.inl ⟨rfl, rfl, rfl⟩))))
  by_cases h6 : a = 206
  · subst h6; exact Or.inr (Or.inr (Or.inr (Or.inr (Or.inr (Or.inl ⟨rfl, rfl, rfl⟩)))))
  have b1 : Nat.beq a 39 = false := zbq_f h1
  have b2 : Nat.beq a 48 = false := zbq_f h2
  have b3 : Nat.beq a 57 = false := zbq_f h3
  have b4 : Nat.beq a 101 = false := zbq_f h4
  have b5 : Nat.beq a 155 = false := zbq_f h5
  have b6 : Nat.beq a 206 = false := zbq_f h6
  refine Or.inr (Or.inr (Or.inr (Or.inr (Or.inr (Or.inr ⟨by unfold yWd; rw [b1, b2, b3, b4, b5, b6]; rfl, ?_⟩)))))
  unfold ySz
  rw [b1, b2, b3, b4, b5, b6]
  simp only [cond_false]
  cases c1 : (Nat.ble 65 a && Nat.ble a 78) with
  | true =>
    rw [Bool.and_eq_true] at c1
    have p1 := Nat.le_of_ble_eq_true c1.1
    have p2 := Nat.le_of_ble_eq_true c1.2
    exact Or.inr (Or.inr (Or.inl ⟨p1, by omega, by show 8 ≤ 20; decide⟩))
  | false =>
  cases c2 : (Nat.ble 79 a && Nat.ble a 96) with
  | true =>
    rw [Bool.and_eq_true] at c2
    have p1 := Nat.le_of_ble_eq_true c2.1
    have p2 := Nat.le_of_ble_eq_true c2.2
    exact Or.inr (Or.inr (Or.inl ⟨by omega, p2, by show 20 ≤ 20; decide⟩))
  | false =>
  cases c3 : Nat.beq a 98 with
  | true => exact Or.inr (Or.inr (Or.inr (Or.inl ⟨Nat.eq_of_beq_eq_true c3, rfl⟩)))
  | false =>
  cases c4 : (Nat.ble 164 a && Nat.ble a 165) with
  | true =>
    rw [Bool.and_eq_true] at c4
    exact Or.inr (Or.inr (Or.inr (Or.inr (Or.inl ⟨Nat.le_of_ble_eq_true c4.1, Nat.le_of_ble_eq_true c4.2, rfl⟩))))
  | false =>
  cases c5 : (Nat.ble 170 a && Nat.ble a 175) with
  | true =>
    rw [Bool.and_eq_true] at c5
    exact Or.inr (Or.inr (Or.inr (Or.inr (Or.inr (Or.inl ⟨Nat.le_of_ble_eq_true c5.1, Nat.le_of_ble_eq_true c5.2, rfl⟩)))))
  | false =>
  cases c6 : (Nat.ble 180 a && Nat.ble a 185) with
  | true =>
    rw [Bool.and_eq_true] at c6
    exact Or.inr (Or.inr (Or.inr (Or.inr (Or.inr (Or.inr (Or.inl ⟨Nat.le_of_ble_eq_true c6.1, Nat.le_of_ble_eq_true c6.2, rfl⟩))))))
  | false =>
  cases c7 : (Nat.ble 363 a && Nat.ble a 365) with
  | true =>
    rw [Bool.and_eq_true] at c7
    exact Or.inr (Or.inr (Or.inr (Or.inr (Or.inr (Or.inr (Or.inr (⟨Nat.le_of_ble_eq_true c7.1, Nat.le_of_ble_eq_true c7.2, rfl⟩)))))))
  | false =>
  cases c8 : Nat.beq a 8 with
  | true => exact Or.inr (Or.inl ⟨Nat.eq_of_beq_eq_true c8, rfl⟩)
  | false => exact Or.inl rfl
theorem yPl_of (e : yPl a n = true) : yWd a = 0 ∧ ySz a = n ∧ a ≠ 93 ∧ 0 < n ∧ (a = 8 ∨ (65 ≤ a ∧ a ≤ 98) ∨ (164 ≤ a ∧ a ≤ 185) ∨ (363 ≤ a ∧ a ≤ 365)) ∧ a ≠ 186 := by
  unfold yPl at e
  simp only [Bool.and_eq_true, Bool.not_eq_true'] at e
  obtain ⟨e1, e2, e3, e4⟩ := e
  have e1 := Nat.eq_of_beq_eq_true e1
  have e2 := Nat.eq_of_beq_eq_true e2
  have e3 := Nat.ne_of_beq_eq_false e3
  have e4 : 0 < n := Nat.le_of_ble_eq_true e4
  have c := yWd_c a
  refine ⟨e1, e2, e3, e4, ?_, ?_⟩ <;> omega
theorem blt_t {m k : Nat} (e : m < k) : Nat.blt m k = true := Nat.ble_eq_true_of_le e
/-- a place of a one-row table -/
theorem yM_p (e : yPl a n = true) (hi : i < n) : yM h a i = fld h (a : Int) i := by
  obtain ⟨e1, e2, e3, e4, e5, e6⟩ := yPl_of e
  unfold yM
  rw [zbq_f (show a ≠ 37 by omega), zbq_f e6, zbq_f e3, e2, blt_t hi, e1, Nat.div_zero, Nat.mod_zero]
  rfl
theorem yM_s (e : ySc i = true) : yM h 37 i = fld h 37 i := by
  show cond (ySc i) (fld h 37 i) 0 = _
  rw [e]
  rfl
theorem yM_93 (hi : i < 20) : yM h 93 i = w32 (fld h 93 i) := by
  show cond (Nat.blt i 20) (w32 (fld h 93 i)) 0 = _
  rw [blt_t hi]
  rfl
theorem yM_186 : yM h 186 i = if (i : Int) < fld h 37 86 then fld h 186 i else 0 := rfl
/-- a place of a table of rows -/
theorem yM_2 {w v j : Nat} (e : Nat.beq (yWd a) w = true) (hj : j < w) (hi : w * v + j < ySz a) : yM h a (w * v + j) = fld h ((a + v : Nat) : Int) j := by
  have e := Nat.eq_of_beq_eq_true e
  have c := yWd_c a
  unfold yM
  rw [zbq_f (show a ≠ 37 by omega), zbq_f (show a ≠ 186 by omega), zbq_f (show a ≠ 93 by intro z; subst z; have : yWd 93 = 0 := rfl; omega), blt_t hi, e, Nat.mul_add_mod, Nat.mod_eq_of_lt hj, Nat.mul_add_div (by omega), Nat.div_eq_of_lt hj]
  rfl
theorem ySc_of (e : ySc i = true) : i ≤ 2 ∨ i = 38 ∨ i = 41 ∨ i = 52 ∨ i = 53 ∨ i = 64 ∨ (69 ≤ i ∧ i ≤ 71) ∨ i = 78 ∨ i = 86 ∨ i = 96 := by
  unfold ySc at e
  simp only [Bool.or_eq_true, Bool.and_eq_true] at e
  rcases e with e | e | e | (e | e) | e | e | e | e | e
  · exact Or.inl (Nat.le_of_ble_eq_true e)
  · have := Nat.eq_of_beq_eq_true e; omega
  · have := Nat.eq_of_beq_eq_true e; omega
  · have := Nat.eq_of_beq_eq_true e; omega
  · have := Nat.eq_of_beq_eq_true e; omega
  · have := Nat.eq_of_beq_eq_true e; omega
  · have := Nat.le_of_ble_eq_true e.1; have := Nat.le_of_ble_eq_true e.2; omega
  · have := Nat.eq_of_beq_eq_true e; omega
  · have := Nat.eq_of_beq_eq_true e; omega
  · have := Nat.eq_of_beq_eq_true e; omega
/-- where the places of a table lie -/
theorem yM_wh {b k : Nat} (hk : k < ySz b) : ((b = 39 ∨ b = 48 ∨ b = 57 ∨ b = 101 ∨ b = 155 ∨ b = 206) ∧ b + k / yWd b < b + 160 ∧ ((b = 39 → b + k / yWd b ≤ 46) ∧ (b = 48 → b + k / yWd b ≤ 55) ∧ (b = 57 → b + k / yWd b ≤ 64) ∧ (b = 101 → b + k / yWd b ≤ 148) ∧ (b = 155 → b + k / yWd b ≤ 162) ∧ (b = 206 → b + k / yWd b ≤ 361)) ∧ b ≤ b + k / yWd b ∧ k % yWd b < yWd b ∧ yWd b * (k / yWd b) + k % yWd b = k) ∨ (b + k / yWd b = b ∧ k % yWd b = k ∧ (b = 8 ∨ (65 ≤ b ∧ b ≤ 98) ∨ (164 ≤ b ∧ b ≤ 185) ∨ (363 ≤ b ∧ b ≤ 365)) ∧ b ≠ 186) := by
  rcases yWd_c b with ⟨rfl, e, f⟩ | ⟨rfl, e, f⟩ | ⟨rfl, e, f⟩ | ⟨rfl, e, f⟩ | ⟨rfl, e, f⟩ | ⟨rfl, e, f⟩ | ⟨e, c⟩
  · rw [f] at hk; rw [e]; omega
  · rw [f] at hk; rw [e]; omega
  · rw [f] at hk; rw [e]; omega
  · rw [f] at hk; rw [e]; omega
  · rw [f] at hk; rw [e]; omega
  · rw [f] at hk; rw [e]; omega
  · right
    rw [e, Nat.div_zero, Nat.mod_zero]
    omega
/-- a place of a one-row table is written -/
theorem yM_w {kd : Nat} (e : yPl a n = true) (s : sh h (a : Int) = some (kd, n)) (hi : i < n) (e' : h' = wr h (a : Int) i x) : yM h' = zs (yM h) a i x := by
  have ⟨e1, e2, e3, e4, e5, e6⟩ := yPl_of e
  funext b k
  rw [zs_if]
  by_cases hb : b = a ∧ k = i
  · obtain ⟨rfl, rfl⟩ := hb
    rw [if_pos ⟨rfl, rfl⟩, yM_p e hi, e']
    exact fld_wr_eq s hi
  · rw [if_neg hb]
    have key : ∀ (p : Int) (q : Nat), (p ≠ (a : Int) ∨ q ≠ i) → fld h' p q = fld h p q := fun p q hn => by rw [e']; exact fld_wr hn
    unfold yM
    rw [key 37 k (Or.inl (by omega)), key 37 86 (Or.inl (by omega)), key 186 k (Or.inl (by omega)), key 93 k (Or.inl (by omega))]
    cases c4 : Nat.blt k (ySz b) with
    | false => rfl
    | true =>
      have hk : k < ySz b := Nat.le_of_ble_eq_true c4
      rw [key ((b + k / yWd b : Nat) : Int) (k % yWd b) (by have := yM_wh hk; omega)]
/-- a single number is written -/
theorem yM_ws {kd : Nat} (e : (ySc i && !(Nat.beq i 86)) = true) (s : sh h 37 = some (kd, n)) (hi : i < n) (e' : h' = wr h 37 i x) : yM h' = zs (yM h) 37 i x := by
  rw [Bool.and_eq_true, Bool.not_eq_true'] at e
  have e2 := Nat.ne_of_beq_eq_false e.2
  funext b k
  rw [zs_if]
  by_cases hb : b = 37 ∧ k = i
  · obtain ⟨rfl, rfl⟩ := hb
    rw [if_pos ⟨rfl, rfl⟩, yM_s e.1, e']
    exact fld_wr_eq s hi
  · rw [if_neg hb]
    have key : ∀ (p : Int) (q : Nat), (p ≠ 37 ∨ q ≠ i) → fld h' p q = fld h p q := fun p q hn => by rw [e']; exact fld_wr hn
    unfold yM
    rw [key 37 86 (Or.inr (by omega)), key 186 k (Or.inl (by decide)), key 93 k (Or.inl (by decide))]
    cases c1 : Nat.beq b 37 with
    | true =>
      have := Nat.eq_of_beq_eq_true c1
      rw [key 37 k (Or.inr (by omega))]
      rfl
    | false =>
      cases c4 : Nat.blt k (ySz b) with
      | false => rfl
      | true =>
        have hk : k < ySz b := Nat.le_of_ble_eq_true c4
        rw [key ((b + k / yWd b : Nat) : Int) (k % yWd b) (by have := yM_wh hk; omega)]
        rfl
/-- what a house owes is written -/
theorem yM_w93 {kd : Nat} (s : sh h 93 = some (kd, 20)) (hi : i < 20) (e' : h' = wr h 93 i x) : yM h' = zs (yM h) 93 i (w32 x) := by
  funext b k
  rw [zs_if]
  by_cases hb : b = 93 ∧ k = i
  · obtain ⟨rfl, rfl⟩ := hb
    rw [if_pos ⟨rfl, rfl⟩, yM_93 hi, e', fld_wr_eq s hi]
  · rw [if_neg hb]
    have key : ∀ (p : Int) (q : Nat), (p ≠ 93 ∨ q ≠ i) → fld h' p q = fld h p q := fun p q hn => by rw [e']; exact fld_wr hn
    unfold yM
    rw [key 37 86 (Or.inl (by decide)), key 186 k (Or.inl (by decide)), key 37 k (Or.inl (by decide))]
    cases c4 : Nat.blt k (ySz b) with
    | false => rfl
    | true =>
      have hk : k < ySz b := Nat.le_of_ble_eq_true c4
      cases c5 : Nat.beq b 93 with
      | true =>
        have := Nat.eq_of_beq_eq_true c5
        rw [key 93 k (Or.inr (by omega))]
        rfl
      | false =>
        have := Nat.ne_of_beq_eq_false c5
        rw [key ((b + k / yWd b : Nat) : Int) (k % yWd b) (by have := yM_wh hk; omega)]
        rfl
/-- a place of a table of rows is written -/
theorem yM_w2 {kd w v j m : Nat} {r : Int} (e : (Nat.beq (yWd a) w && Nat.blt 0 w) = true) (hr : r = ((a + v : Nat) : Int)) (s : sh h r = some (kd, m)) (hm : j < m) (hj : j < w) (hi : w * v + j < ySz a) (e' : h' = wr h r j x) : yM h' = zs (yM h) a (w * v + j) x := by
  rw [Bool.and_eq_true] at e
  have ew := Nat.eq_of_beq_eq_true e.1
  have c := yWd_c a
  subst hr
  have wa : 39 ≤ a ∧ a + v ≤ 361 ∧ ((a = 39 ∧ v ≤ 7) ∨ (a = 48 ∧ v ≤ 7) ∨ (a = 57 ∧ v ≤ 7) ∨ (a = 101 ∧ v ≤ 47) ∨ (a = 155 ∧ v ≤ 7) ∨ (a = 206 ∧ v ≤ 155)) := by
    rcases c with ⟨rfl, q, f⟩ | ⟨rfl, q, f⟩ | ⟨rfl, q, f⟩ | ⟨rfl, q, f⟩ | ⟨rfl, q, f⟩ | ⟨rfl, q, f⟩ | ⟨q, f⟩
    · rw [q] at ew; subst ew; rw [f] at hi; omega
    · rw [q] at ew; subst ew; rw [f] at hi; omega
    · rw [q] at ew; subst ew; rw [f] at hi; omega
    · rw [q] at ew; subst ew; rw [f] at hi; omega
    · rw [q] at ew; subst ew; rw [f] at hi; omega
    · rw [q] at ew; subst ew; rw [f] at hi; omega
    · omega
  funext b k
  rw [zs_if]
  by_cases hb : b = a ∧ k = w * v + j
  · obtain ⟨rfl, rfl⟩ := hb
    rw [if_pos ⟨rfl, rfl⟩, yM_2 e.1 hj hi, e']
    exact fld_wr_eq s hm
  · rw [if_neg hb]
    have key : ∀ (p : Int) (q : Nat), (p ≠ ((a + v : Nat) : Int) ∨ q ≠ j) → fld h' p q = fld h p q := fun p q hn => by rw [e']; exact fld_wr hn
    unfold yM
    rw [key 37 k (Or.inl (by omega)), key 37 86 (Or.inl (by omega)), key 186 k (Or.inl (by omega)), key 93 k (Or.inl (by omega))]
    cases c4 : Nat.blt k (ySz b) with
    | false => rfl
    | true =>
      have hk : k < ySz b := Nat.le_of_ble_eq_true c4
      rw [key ((b + k / yWd b : Nat) : Int) (k % yWd b) ?_]
      have W := yM_wh hk
      by_cases hba : b = a
      · subst hba
        rcases W with ⟨-, -, -, -, w5, w6⟩ | ⟨w1, w2, w3, -⟩
        · by_cases hq : k % yWd b = j
          · left
            intro z
            have z : b + k / yWd b = b + v := by omega
            have z : k / yWd b = v := by omega
            rw [z, hq, ew] at w6
            exact hb ⟨rfl, w6.symm⟩
          · exact Or.inr hq
        · omega
      · left
        omega
/-- tables' places, as areas -/
def yAr : Zms := [(8, 8, 0, 64), (37, 37, 0, 3), (37, 37, 38, 39), (37, 37, 41, 42), (37, 37, 52, 54), (37, 37, 64, 65), (37, 37, 69, 72), (37, 37, 78, 79), (37, 37, 86, 87), (37, 37, 96, 97), (39, 46, 0, 4), (48, 55, 0, 8), (57, 64, 0, 157), (65, 96, 0, 20), (98, 98, 0, 400), (101, 148, 0, 840), (155, 162, 0, 5), (164, 165, 0, 12), (170, 175, 0, 300), (180, 185, 0, 200), (186, 186, 0, 6), (206, 361, 0, 6), (363, 365, 0, 8)]
def yFr (ms : Zms) : Bool := yAr.all (fun e => zqN ms e.1 e.2.1 e.2.2.1 e.2.2.2)
theorem yFr_a (e : yFr ms = true) {q : Nat × Nat × Nat × Nat} (hq : yAr.contains q = true) : zqN ms q.1 q.2.1 q.2.2.1 q.2.2.2 = true := by
  rw [List.contains_iff_mem] at hq
  exact List.all_eq_true.mp e q hq
/-- tables stay where their places stay -/
theorem yM_st (f37 : ∀ q, ySc q = true → fld g 37 q = fld h 37 q) (f186 : ∀ k : Nat, (k : Int) < fld h 37 86 → fld g 186 k = fld h 186 k) (fT : ∀ b k : Nat, k < ySz b → fld g ((b + k / yWd b : Nat) : Int) (k % yWd b) = fld h ((b + k / yWd b : Nat) : Int) (k % yWd b)) : yM g = yM h := by
  funext b k
  unfold yM
  cases c1 : Nat.beq b 37 with
  | true =>
    simp only [cond_true]
    cases c2 : ySc k with
    | true => exact f37 k c2
    | false => rfl
  | false =>
    simp only [cond_false]
    cases c3 : Nat.beq b 186 with
    | true =>
      simp only [cond_true]
      rw [f37 86 rfl]
      by_cases hk : (k : Int) < fld h 37 86
      · rw [if_pos hk, if_pos hk]
        exact f186 k hk
      · rw [if_neg hk, if_neg hk]
    | false =>
      simp only [cond_false]
      cases c4 : Nat.blt k (ySz b) with
      | false => rfl
      | true =>
        have key := fT b k (Nat.le_of_ble_eq_true c4)
        simp only [cond_true]
        cases c5 : Nat.beq b 93 with
        | false => exact key
        | true =>
          have hb := Nat.eq_of_beq_eq_true c5
          subst hb
          have key : fld g ((93 + k / 0 : Nat) : Int) (k % 0) = fld h ((93 + k / 0 : Nat) : Int) (k % 0) := key
          rw [Nat.div_zero, Nat.mod_zero] at key
          show w32 _ = w32 _
          rw [show fld g 93 k = fld h 93 k from key]
/-- what touches no table -/
theorem yM_fr (R : zMR ms h g) (e : yFr ms = true) (b86 : fld h 37 86 ≤ 6) : yM g = yM h := by
  have f : ∀ (a1 a2 j1 j2 : Nat), yAr.contains (a1, a2, j1, j2) = true → ∀ (p : Int) (q : Nat), (a1 : Int) ≤ p → p ≤ (a2 : Int) → j1 ≤ q → q < j2 → fld g p q = fld h p q := fun a1 a2 j1 j2 hc p q k1 k2 k3 k4 => R.f (yFr_a e hc) ⟨k1, k2⟩ ⟨k3, k4⟩
  have f37 : ∀ q, ySc q = true → fld g 37 q = fld h 37 q := by
    intro q hq
    rcases ySc_of hq with z | rfl | rfl | rfl | rfl | rfl | z | rfl | rfl | rfl
    · exact f 37 37 0 3 (by decide +kernel) 37 q (by decide) (by decide) (by omega) (by omega)
    · exact f 37 37 38 39 (by decide +kernel) 37 38 (by decide) (by decide) (by omega) (by omega)
    · exact f 37 37 41 42 (by decide +kernel) 37 41 (by decide) (by decide) (by omega) (by omega)
    · exact f 37 37 52 54 (by decide +kernel) 37 52 (by decide) (by decide) (by omega) (by omega)
    · exact f 37 37 52 54 (by decide +kernel) 37 53 (by decide) (by decide) (by omega) (by omega)
    · exact f 37 37 64 65 (by decide +kernel) 37 64 (by decide) (by decide) (by omega) (by omega)
    · exact f 37 37 69 72 (by decide +kernel) 37 q (by decide) (by decide) (by omega) (by omega)
    · exact f 37 37 78 79 (by decide +kernel) 37 78 (by decide) (by decide) (by omega) (by omega)
    · exact f 37 37 86 87 (by decide +kernel) 37 86 (by decide) (by decide) (by omega) (by omega)
    · exact f 37 37 96 97 (by decide +kernel) 37 96 (by decide) (by decide) (by omega) (by omega)
  have fT : ∀ b k : Nat, k < ySz b → fld g ((b + k / yWd b : Nat) : Int) (k % yWd b) = fld h ((b + k / yWd b : Nat) : Int) (k % yWd b) := by
    intro b k hk
    rcases yWd_c b with ⟨rfl, q, z⟩ | ⟨rfl, q, z⟩ | ⟨rfl, q, z⟩ | ⟨rfl, q, z⟩ | ⟨rfl, q, z⟩ | ⟨rfl, q, z⟩ | ⟨q, z⟩
    · rw [z] at hk; rw [q]; exact f 39 46 0 4 (by decide +kernel) _ _ (by omega) (by omega) (by omega) (by omega)
    · rw [z] at hk; rw [q]; exact f 48 55 0 8 (by decide +kernel) _ _ (by omega) (by omega) (by omega) (by omega)
    · rw [z] at hk; rw [q]; exact f 57 64 0 157 (by decide +kernel) _ _ (by omega) (by omega) (by omega) (by omega)
    · rw [z] at hk; rw [q]; exact f 101 148 0 840 (by decide +kernel) _ _ (by omega) (by omega) (by omega) (by omega)
    · rw [z] at hk; rw [q]; exact f 155 162 0 5 (by decide +kernel) _ _ (by omega) (by omega) (by omega) (by omega)
    · rw [z] at hk; rw [q]; exact f 206 361 0 6 (by decide +kernel) _ _ (by omega) (by omega) (by omega) (by omega)
    · rw [q, Nat.div_zero, Nat.mod_zero]
      rcases z with z | z | z | z | z | z | z | z
      · omega
      · exact f 8 8 0 64 (by decide +kernel) _ _ (by omega) (by omega) (by omega) (by omega)
      · exact f 65 96 0 20 (by decide +kernel) _ _ (by omega) (by omega) (by omega) (by omega)
      · exact f 98 98 0 400 (by decide +kernel) _ _ (by omega) (by omega) (by omega) (by omega)
      · exact f 164 165 0 12 (by decide +kernel) _ _ (by omega) (by omega) (by omega) (by omega)
      · exact f 170 175 0 300 (by decide +kernel) _ _ (by omega) (by omega) (by omega) (by omega)
      · exact f 180 185 0 200 (by decide +kernel) _ _ (by omega) (by omega) (by omega) (by omega)
      · exact f 363 365 0 8 (by decide +kernel) _ _ (by omega) (by omega) (by omega) (by omega)
  exact yM_st f37 (fun k hk => f 186 186 0 6 (by decide +kernel) 186 k (by decide) (by decide) (by omega) (by omega)) fT
/-- what stays at the fixed places -/
theorem yM_fx (f : ∀ (p : Int) (q : Nat), 0 < p ∧ p ≤ 365 → fld g p q = fld h p q) : yM g = yM h := by
  funext b k
  unfold yM
  rw [f 37 k (by decide), f 37 86 (by decide), f 186 k (by decide), f 93 k (by decide)]
  cases c4 : Nat.blt k (ySz b) with
  | false => rfl
  | true =>
    have hk : k < ySz b := Nat.le_of_ble_eq_true c4
    rw [f ((b + k / yWd b : Nat) : Int) (k % yWd b) (by have := yM_wh hk; omega)]
end YM
end
section
/-! what each call answers, and what it leaves, of the tables alone -/
section YF
variable {S T : zT} {a b c i k : Nat} {x y : Int}
theorem zs_sw {j : Nat} (h : a ≠ b) : zs (zs S a i x) b j y = zs (zs S b j y) a i x := by
  funext p q
  rw [zs_if, zs_if, zs_if, zs_if]
  by_cases h1 : p = b ∧ q = j
  · rw [if_pos h1, if_neg (by omega), if_pos h1]
  · rw [if_neg h1]
    by_cases h2 : p = a ∧ q = i
    · rw [if_pos h2, if_pos h2]
    · rw [if_neg h2, if_neg h2, if_neg h1]
def yCoinA (S : zT) (a b : Int) : Int := if (0 ≤ a ∧ a < S 37 2) ∧ (-9999 ≤ b ∧ b ≤ 9999) then w32 (S 84 a.toNat + b) else -2147483648
def yCoin (S : zT) (a b : Int) : zT := if (0 ≤ a ∧ a < S 37 2) ∧ (-9999 ≤ b ∧ b ≤ 9999) then zs S 84 a.toNat (w32 (S 84 a.toNat + b)) else S
def yCottA (S : zT) (a b : Int) : Int := if (0 ≤ a ∧ a < S 37 1) ∧ (1 ≤ b ∧ b ≤ 999) ∧ w32 (S 66 a.toNat + b) ≤ 9999 then w32 (S 66 a.toNat + b) else -1
def yCott (S : zT) (a b : Int) : zT := if (0 ≤ a ∧ a < S 37 1) ∧ (1 ≤ b ∧ b ≤ 999) ∧ w32 (S 66 a.toNat + b) ≤ 9999 then zs S 66 a.toNat (w32 (S 66 a.toNat + b)) else S
def yMillA (S : zT) (a b : Int) : Int := if (0 ≤ a ∧ a < S 37 1) ∧ (1 ≤ b ∧ b ≤ 999) ∧ w32 (S 69 a.toNat + b) ≤ 9999 then w32 (S 69 a.toNat + b) else -1
def yMill (S : zT) (a b : Int) : zT := if (0 ≤ a ∧ a < S 37 1) ∧ (1 ≤ b ∧ b ≤ 999) ∧ w32 (S 69 a.toNat + b) ≤ 9999 then zs S 69 a.toNat (w32 (S 69 a.toNat + b)) else S
def ySoldA (S : zT) (a b : Int) : Int := if (0 ≤ a ∧ a < S 37 1) ∧ (1 ≤ b ∧ b ≤ 999) ∧ S 74 a.toNat + b ≤ 9999 then S 74 a.toNat + b else -1
def ySold (S : zT) (a b : Int) : zT := if (0 ≤ a ∧ a < S 37 1) ∧ (1 ≤ b ∧ b ≤ 999) ∧ S 74 a.toNat + b ≤ 9999 then zs S 74 a.toNat (S 74 a.toNat + b) else S
def yPricA (S : zT) (a b : Int) : Int := if (0 ≤ a ∧ a < S 37 1) ∧ 0 ≤ b ∧ 1 ≤ b / 100 ∧ b / 100 ≤ 99 ∧ 1 ≤ b % 100 then 1 else 0
def yPric (S : zT) (a b : Int) : zT := if (0 ≤ a ∧ a < S 37 1) ∧ 0 ≤ b ∧ 1 ≤ b / 100 ∧ b / 100 ≤ 99 ∧ 1 ≤ b % 100 then zs (zs S 70 a.toNat (b / 100)) 71 a.toNat (b % 100) else S
def yTalkA (S : zT) (a b : Int) : Int := if (0 ≤ a ∧ a < S 37 1) ∧ 0 ≤ b ∧ b ≤ 20 then b else -1
def yTalk (S : zT) (a b : Int) : zT := if (0 ≤ a ∧ a < S 37 1) ∧ 0 ≤ b ∧ b ≤ 20 then zs S 72 a.toNat b else S
def yAimA (S : zT) (a b : Int) : Int := if (0 ≤ a ∧ a < S 37 2) ∧ 4 ≤ b ∧ b ≤ 60 then 1 else 0
def yAim (S : zT) (a b : Int) : zT := if (0 ≤ a ∧ a < S 37 2) ∧ 4 ≤ b ∧ b ≤ 60 then zs S 85 a.toNat b else S
def yLoomA (S : zT) (a b c : Int) : Int := if (0 ≤ a ∧ a < S 37 2) ∧ S 91 a.toNat ≤ 0 ∧ 0 ≤ b ∧ 4 ≤ b / 100 ∧ b / 100 ≤ b % 100 ∧ b % 100 ≤ 60 ∧ 1 ≤ c ∧ c ≤ 40 then 1 else 0
def yLoom (S : zT) (a b c : Int) : zT := if (0 ≤ a ∧ a < S 37 2) ∧ S 91 a.toNat ≤ 0 ∧ 0 ≤ b ∧ 4 ≤ b / 100 ∧ b / 100 ≤ b % 100 ∧ b % 100 ≤ 60 ∧ 1 ≤ c ∧ c ≤ 40 then zs (zs (zs S 89 a.toNat (b / 100)) 90 a.toNat (b % 100)) 91 a.toNat c else S
def yGiftA (S : zT) (a b c : Int) : Int := if (1 ≤ a ∧ a ≤ 99) ∧ (0 ≤ b ∧ b < S 37 2) ∧ (0 ≤ c ∧ c ≤ 2) ∧ S 37 96 < 8 then S 37 96 else -1
def yGift (S : zT) (a b c : Int) : zT := if (1 ≤ a ∧ a ≤ 99) ∧ (0 ≤ b ∧ b < S 37 2) ∧ (0 ≤ c ∧ c ≤ 2) ∧ S 37 96 < 8 then zs (zs (zs (zs S 363 (S 37 96).toNat a) 364 (S 37 96).toNat b) 365 (S 37 96).toNat c) 37 96 (S 37 96 + 1) else S
def yForgA (S : zT) : Int := S 37 96
def yForg (S : zT) : zT := zs S 37 96 0
def yPayA (S : zT) (a b c : Int) : Int := if (0 ≤ a ∧ a < S 37 2) ∧ (0 ≤ b ∧ b < S 37 64) ∧ (1 ≤ c ∧ c ≤ S 175 b.toNat) then w32 (S 93 a.toNat - w32 (S 94 a.toNat + c)) else -2147483648
def yPay (S : zT) (a b c : Int) : zT := if (0 ≤ a ∧ a < S 37 2) ∧ (0 ≤ b ∧ b < S 37 64) ∧ (1 ≤ c ∧ c ≤ S 175 b.toNat) then (if S 170 b.toNat = a then zs (zs (zs S 175 b.toNat (w32 (S 175 b.toNat - c))) 94 a.toNat (w32 (S 94 a.toNat + c))) 37 69 (w32 (S 37 69 + c)) else zs (zs (zs (zs S 175 b.toNat (w32 (S 175 b.toNat - c))) 94 a.toNat (w32 (S 94 a.toNat + c))) 96 a.toNat (w32 (S 96 a.toNat + c))) 37 69 (w32 (S 37 69 + c))) else S
def yLotA (S : zT) (a b : Int) : Int := if 0 ≤ a ∧ a < S 37 64 then (if b = 0 then S 170 a.toNat else if b = 1 then S 171 a.toNat else if b = 2 then S 172 a.toNat else if b = 3 then S 173 a.toNat else if b = 4 then S 174 a.toNat else if b = 5 then S 175 a.toNat else -1) else -1
def yDueA (S : zT) (a b : Int) : Int := if 0 ≤ a ∧ a < S 37 2 then (if b = 0 then w32 (S 93 a.toNat - S 94 a.toNat) else if b = 1 then S 94 a.toNat else if b = 2 then S 95 a.toNat else if b = 3 then max (w32 (S 94 a.toNat - S 95 a.toNat)) 0 else if b = 4 then S 96 a.toNat else -2147483648) else -2147483648
def yClotA (S : zT) (a b : Int) : Int := if 0 ≤ a ∧ a < S 37 78 then (if b = 0 then S 180 a.toNat else if b = 1 then S 181 a.toNat else if b = 2 then S 182 a.toNat else if b = 3 then S 183 a.toNat else if b = 4 then S 185 a.toNat else if b = 5 then S 170 (S 180 a.toNat).toNat else if b = 6 then S 171 (S 180 a.toNat).toNat else if b = 7 then S 184 a.toNat else -1) else -1
def yIsA (S : zT) (a b : Int) : Int := if 0 ≤ a ∧ a < S 37 1 then (if b = 0 then S 66 a.toNat else if b = 1 then S 67 a.toNat else if b = 2 then S 68 a.toNat else if b = 3 then S 69 a.toNat else if b = 4 then S 70 a.toNat else if b = 5 then S 71 a.toNat else if b = 6 then S 72 a.toNat else if b = 7 then S 73 a.toNat else if b = 8 then S 74 a.toNat else if b = 9 then S 76 a.toNat else if b = 10 then S 77 a.toNat else -1) else -1
def yHasA (S : zT) (a b : Int) : Int := if 0 ≤ a ∧ a < S 37 2 then (if b = 0 then S 79 a.toNat else if b = 1 then S 80 a.toNat else if b = 2 then S 81 a.toNat else if b = 3 then S 82 a.toNat else if b = 4 then S 83 a.toNat else if b = 5 then S 84 a.toNat else if b = 6 then S 85 a.toNat else if b = 7 then S 86 a.toNat else if b = 8 then S 87 a.toNat else if b = 9 then S 88 a.toNat else if b = 10 then (if 0 < S 91 a.toNat then S 92 a.toNat else -1) else -2147483648) else -2147483648
def yCntA (S : zT) (b : Int) : Int := if b = 0 then S 37 0 else if b = 1 then S 37 1 else if b = 2 then S 37 2 else if b = 3 then S 37 64 else if b = 4 then S 37 52 else if b = 5 then S 37 78 else if b = 6 then S 37 41 else if b = 7 then S 37 86 else if b = 8 then S 37 96 else if b = 9 then S 37 38 else -1
def yFls (S : zT) (v : Nat) (m : Int) : Int := if m = 0 then max (w32 (S 74 v - S 75 v)) 0 else max (w32 (S 74 v - S 76 v)) 0
theorem yFls_1 {v : Nat} {m : Int} (h : m ≠ 0) : yFls S v m = yFls S v 1 := by unfold yFls; rw [if_neg h, if_neg (by decide)]
theorem yFls_0 {v : Nat} {m : Int} (h : m = 0) : yFls S v m = yFls S v 0 := by rw [h]
def yWrngA (S : zT) (a m : Int) : Int := if 0 ≤ a ∧ a < S 37 1 then yFls S a.toNat m else -1
def yGap (S : zT) (v : Nat) : Int := w32 (yFls S v 1 - yFls S v 0)
def yLk (S : zT) : Nat → Int × Int
  | 0 => (-1, 0)
  | k + 1 => if (yLk S k).2 < yGap S k then ((k : Int), yGap S k) else yLk S k
def yLookA (S : zT) : Int := (yLk S (S 37 1).toNat).1
def yToldA (S : zT) (a b : Int) : Int := if (0 ≤ a ∧ a < S 37 0) ∧ (0 ≤ b ∧ b ≤ 5) then S 206 (6 * a.toNat + b.toNat) else -1
def yTell (S : zT) (a b c : Int) : zT := zs (zs (zs (zs S 363 (S 37 96).toNat a) 364 (S 37 96).toNat b) 365 (S 37 96).toNat c) 37 96 (S 37 96 + 1)
def yNumA (S : zT) (a b : Int) : Int := if (0 ≤ a ∧ a < 156) ∧ (0 ≤ b ∧ b < 6) then S 206 (6 * a.toNat + b.toNat) else 0
theorem w32_sub {u v : Int} : w32 (w32 u - v) = w32 (u - v) := by
  unfold w32
  omega
def yOwin (S : zT) (a : Int) : Int := w32 (S 93 a.toNat - S 94 a.toNat)
def yHg (S : zT) (g : Int) : Nat → Int
  | 0 => 0
  | k + 1 => if S 84 k < S 83 k * g then i_or (yHg S g k) (i_shl 1 (k : Int)) else yHg S g k
def yHunA (S : zT) (g : Int) : Int := if 1 ≤ g ∧ g ≤ 99 then yHg S g (S 37 2).toNat else -1
theorem i_or_0 (h : -2147483648 ≤ x ∧ x ≤ 2147483647) : i_or x 0 = x := by
  unfold i_or z32
  rw [show ((0 : Int) % 4294967296).toNat = 0 from rfl, Nat.or_zero, show (((x % 4294967296).toNat : Nat) : Int) = x % 4294967296 by omega]
  unfold w32
  omega
theorem i_or_in {x y : Int} : -2147483648 ≤ i_or x y ∧ i_or x y ≤ 2147483647 := by
  unfold i_or w32
  omega
end YF
end
section
/-! the TEXT read: tokens and grammar, of the bytes alone -/
section PR
abbrev pT : Type := Nat → Int
abbrev pQ : Type := Nat × Nat × (Nat → Int)
abbrev pR : Type := Bool × pQ
variable {t : pT} {n p q k m f e i j : Nat} {x c : Int} {P : Int → Bool} {s s' : pQ}
def pLet (c : Int) : Bool := decide (97 ≤ c) && decide (c ≤ 122)
def pDig (c : Int) : Bool := decide (48 ≤ c) && decide (c ≤ 57)
def pBla (c : Int) : Bool := decide (c = 32) || decide (c = 10)
def pSig (c : Int) : Bool := decide (c = 43 ∨ c = 45 ∨ c = 42 ∨ c = 47 ∨ c = 40 ∨ c = 41 ∨ c = 91 ∨ c = 93 ∨ c = 60 ∨ c = 62 ∨ c = 61 ∨ c = 59)
theorem pLet_t : pLet c = true ↔ 97 ≤ c ∧ c ≤ 122 := by unfold pLet; rw [Bool.and_eq_true, decide_eq_true_eq, decide_eq_true_eq]
theorem pDig_t : pDig c = true ↔ 48 ≤ c ∧ c ≤ 57 := by unfold pDig; rw [Bool.and_eq_true, decide_eq_true_eq, decide_eq_true_eq]
theorem pBla_t : pBla c = true ↔ c = 32 ∨ c = 10 := by unfold pBla; rw [Bool.or_eq_true, decide_eq_true_eq, decide_eq_true_eq]
theorem pSig_t : pSig c = true ↔ (c = 43 ∨ c = 45 ∨ c = 42 ∨ c = 47 ∨ c = 40 ∨ c = 41 ∨ c = 91 ∨ c = 93 ∨ c = 60 ∨ c = 62 ∨ c = 61 ∨ c = 59) := by unfold pSig; rw [decide_eq_true_eq]
/-- the first place from p on where P doesn't hold, or n -/
def pRn (P : Int → Bool) (t : pT) (n : Nat) : Nat → Nat → Nat
  | 0, p => p
  | f + 1, p => if p < n ∧ P (t p) = true then pRn P t n f (p + 1) else p
def pRun (P : Int → Bool) (t : pT) (n p : Nat) : Nat := pRn P t n (n - p) p
theorem pRun_s (h : p < n) (hp : P (t p) = true) : pRun P t n p = pRun P t n (p + 1) := by
  unfold pRun
  rw [show n - p = (n - (p + 1)) + 1 by omega]
  show (if p < n ∧ P (t p) = true then pRn P t n (n - (p + 1)) (p + 1) else p) = _
  rw [if_pos ⟨h, hp⟩]
theorem pRun_e (h : ¬ (p < n ∧ P (t p) = true)) : pRun P t n p = p := by
  unfold pRun
  cases hk : n - p with
  | zero => rfl
  | succ f =>
    show (if p < n ∧ P (t p) = true then pRn P t n f (p + 1) else p) = _
    rw [if_neg h]
theorem pRun_b : ∀ (f p : Nat), f = n - p → p ≤ n → p ≤ pRun P t n p ∧ pRun P t n p ≤ n ∧ (∀ j, p ≤ j → j < pRun P t n p → P (t j) = true) ∧ ¬ (pRun P t n p < n ∧ P (t (pRun P t n p)) = true)
  | 0, p, hf, hp => by
    have e : ¬ (p < n ∧ P (t p) = true) := fun z => by omega
    rw [pRun_e e]
    exact ⟨Nat.le_refl _, hp, fun j h1 h2 => by omega, e⟩
  | f + 1, p, hf, hp => by
    by_cases h : p < n ∧ P (t p) = true
    · rw [pRun_s h.1 h.2]
      obtain ⟨a, b, d, g⟩ := pRun_b f (p + 1) (by omega) (by omega)
      refine ⟨by omega, b, fun j h1 h2 => ?_, g⟩
      by_cases hj : j = p
      · rw [hj]; exact h.2
      · exact d j (by omega) h2
    · rw [pRun_e h]
      exact ⟨Nat.le_refl _, hp, fun j h1 h2 => by omega, h⟩
theorem pRun_gt (h : p < n) (hp : P (t p) = true) : p < pRun P t n p := by
  rw [pRun_s h hp]
  have := (pRun_b (P := P) (t := t) (n := n) (n - (p + 1)) (p + 1) rfl (by omega)).1
  omega
/-- the end of the token at p, what it is, the token behind it -/
def pEn (t : pT) (n p : Nat) : Nat := if p < n then (if pLet (t p) = true then pRun pLet t n p else if pDig (t p) = true then pRun pDig t n p else p + 1) else p
def pSk (t : pT) (n p : Nat) : Nat := pRun pBla t n p
def pNx (t : pT) (n p : Nat) : Nat := pSk t n (pEn t n p)
def pK (t : pT) (n p : Nat) : Int := if p < n then (if pLet (t p) = true then 1 else if pDig (t p) = true then 2 else if pSig (t p) = true then t p else 3) else 0
def pWs : List (List Int) := [[119, 101, 101, 107], [115, 101, 97, 115, 111, 110], [104, 101, 97, 100, 115], [119, 104, 101, 101, 108, 115], [115, 107, 105, 108, 108], [99, 97, 115, 116, 101], [111, 116, 104, 101, 114], [99, 111, 117, 110, 116], [115, 116, 114, 101, 110, 103, 116, 104], [104, 97, 110, 107, 115], [105, 100, 108, 101], [102, 97, 114], [112, 114, 105, 99, 101], [111, 119, 101], [119, 97, 103, 101], [100, 117, 116, 121], [109, 97, 121], [115, 116, 97, 109, 112], [111, 114], [97, 110, 100], [110, 111, 116]]
def pEq (t : pT) : Nat → List Int → Bool
  | _, [] => true
  | p, w :: r => decide (t p = w) && pEq t (p + 1) r
def pFd (t : pT) (p l : Nat) : List (List Int) → Nat → Int
  | [], _ => -1
  | w :: r, j => if w.length = l ∧ pEq t p w = true then (j : Int) else pFd t p l r (j + 1)
def pWd (t : pT) (n p : Nat) : Int := pFd t p (pEn t n p - p) pWs 0
def pNu (t : pT) : Nat → Nat → Int → Int
  | 0, _, v => v
  | f + 1, p, v => pNu t f (p + 1) (min (v * 10 + t p - 48) 10000)
def pVl (t : pT) (n p : Nat) : Int := pNu t (pEn t n p - p) p 0
def pV (t : pT) (n p : Nat) : Int := if pLet (t p) = true then pWd t n p else pVl t n p
theorem pEn_b (h : p ≤ n) : p ≤ pEn t n p ∧ pEn t n p ≤ n ∧ (p < n → p < pEn t n p) := by
  unfold pEn
  by_cases h1 : p < n
  · rw [if_pos h1]
    by_cases h2 : pLet (t p) = true
    · rw [if_pos h2]
      have a := pRun_b (P := pLet) (t := t) (n := n) (n - p) p rfl h
      have b := pRun_gt (P := pLet) (t := t) h1 h2
      omega
    · rw [if_neg h2]
      by_cases h3 : pDig (t p) = true
      · rw [if_pos h3]
        have a := pRun_b (P := pDig) (t := t) (n := n) (n - p) p rfl h
        have b := pRun_gt (P := pDig) (t := t) h1 h3
        omega
      · rw [if_neg h3]
        omega
  · rw [if_neg h1]
    omega
theorem pNx_b (h : p ≤ n) : p ≤ pNx t n p ∧ pNx t n p ≤ n ∧ (p < n → p < pNx t n p) := by
  have a := pEn_b (t := t) h
  have b := pRun_b (P := pBla) (t := t) (n := n) (n - pEn t n p) (pEn t n p) rfl a.2.1
  unfold pNx pSk
  omega
theorem pK_0 : pK t n p = 0 ↔ n ≤ p := by
  unfold pK
  by_cases h1 : p < n
  · rw [if_pos h1]
    refine ⟨fun z => ?_, fun z => by omega⟩
    by_cases h2 : pLet (t p) = true
    · rw [if_pos h2] at z; omega
    · rw [if_neg h2] at z
      by_cases h3 : pDig (t p) = true
      · rw [if_pos h3] at z; omega
      · rw [if_neg h3] at z
        by_cases h4 : pSig (t p) = true
        · rw [if_pos h4] at z
          have := pSig_t.mp h4
          omega
        · rw [if_neg h4] at z; omega
  · rw [if_neg h1]
    exact ⟨fun _ => by omega, fun _ => rfl⟩
theorem pK_lt (h : pK t n p ≠ 0) : p < n := by
  by_cases q : p < n
  · exact q
  · exact absurd (pK_0.mpr (by omega)) h
/-! the grammar -/
def pW (x : Int) (s : pQ) : pQ := (s.1, s.2.1 + 1, zu s.2.2 s.2.1 x)
def pA (t : pT) (n : Nat) (s : pQ) : pQ := (pNx t n s.1, s.2)
def pFac (t : pT) (n : Nat) (o : Bool) (sub : pQ → pR) (s : pQ) : pR :=
  if pK t n s.1 = 2 ∧ pV t n s.1 ≤ 9999 then (true, pA t n (pW (pV t n s.1) s))
  else if pK t n s.1 = 1 ∧ 0 ≤ pV t n s.1 ∧ pV t n s.1 ≤ 12 then (true, pA t n (pW (-1 - pV t n s.1) s))
  else if o = true ∧ pK t n s.1 = 40 then
    (if (sub (pA t n s)).1 = true then (if pK t n (sub (pA t n s)).2.1 = 41 then (true, pA t n (sub (pA t n s)).2) else (false, (sub (pA t n s)).2)) else sub (pA t n s))
  else (false, s)
def pLp (t : pT) (n : Nat) (o1 o2 : Int) (f : pQ → pR) : Nat → pQ → pR
  | 0, s => (true, s)
  | m + 1, s => if pK t n s.1 = o1 ∨ pK t n s.1 = o2 then (if (f (pA t n s)).1 = true then pLp t n o1 o2 f m (pW (-(pK t n s.1)) (f (pA t n s)).2) else f (pA t n s)) else (true, s)
def pPro (t : pT) (n : Nat) (f : pQ → pR) (s : pQ) : pR := if (f s).1 = true then pLp t n 42 47 f 400 (f s).2 else f s
def pSm0 (t : pT) (n : Nat) (f : pQ → pR) (s : pQ) : pR := if (pPro t n f s).1 = true then pLp t n 43 45 (pPro t n f) 400 (pPro t n f s).2 else pPro t n f s
def pNo (s : pQ) : pR := (false, s)
/-- a factor, with so many deeper -/
def pFc (t : pT) (n : Nat) : Nat → pQ → pR
  | 0 => pFac t n false pNo
  | e + 1 => pFac t n true (pSm0 t n (pFc t n e))
def pSum (t : pT) (n e : Nat) : pQ → pR := pSm0 t n (pFc t n e)
def pLw (t : pT) (n : Nat) (w : Int) (f : pQ → pR) : Nat → pQ → pR
  | 0, s => (true, s)
  | m + 1, s => if pK t n s.1 = 1 ∧ pV t n s.1 = w then (if (f (pA t n s)).1 = true then pLw t n w f m (pW (-w) (f (pA t n s)).2) else f (pA t n s)) else (true, s)
def pHol (t : pT) (n : Nat) (o : Bool) (hol eit sum : pQ → pR) (s : pQ) : pR :=
  if pK t n s.1 = 1 ∧ pV t n s.1 = 20 then
    (if o = true then (if (hol (pA t n s)).1 = true then (true, pW (-20) (hol (pA t n s)).2) else hol (pA t n s)) else (false, s))
  else if pK t n s.1 = 91 then
    (if o = true then (if (eit (pA t n s)).1 = true then (if pK t n (eit (pA t n s)).2.1 = 93 then (true, pA t n (eit (pA t n s)).2) else (false, (eit (pA t n s)).2)) else eit (pA t n s)) else (false, s))
  else if (sum s).1 = true then
    (if pK t n (sum s).2.1 = 60 ∨ pK t n (sum s).2.1 = 62 ∨ pK t n (sum s).2.1 = 61 then
      (if (sum (pA t n (sum s).2)).1 = true then (true, pW (-(pK t n (sum s).2.1)) (sum (pA t n (sum s).2)).2) else sum (pA t n (sum s).2))
    else (false, (sum s).2))
  else sum s
def pBth (t : pT) (n : Nat) (hol : pQ → pR) (s : pQ) : pR := if (hol s).1 = true then pLw t n 19 hol 400 (hol s).2 else hol s
def pEi0 (t : pT) (n : Nat) (hol : pQ → pR) (s : pQ) : pR := if (pBth t n hol s).1 = true then pLw t n 18 (pBth t n hol) 400 (pBth t n hol s).2 else pBth t n hol s
def pHo (t : pT) (n : Nat) : Nat → pQ → pR
  | 0 => pHol t n false pNo pNo (pSum t n 0)
  | e + 1 => pHol t n true (pHo t n e) (pEi0 t n (pHo t n e)) (pSum t n (e + 1))
def pEi (t : pT) (n e : Nat) : pQ → pR := pEi0 t n (pHo t n e)
def pCb (t : pT) (n : Nat) (c : Int) (s : pQ) : pR := if c < 3 then pSum t n 8 s else pEi t n 8 s
def pCls (t : pT) (n : Nat) (s : pQ) (b : Nat → Int) : Bool × pQ × (Nat → Int) :=
  if pK t n s.1 = 1 ∧ 13 ≤ pV t n s.1 ∧ pV t n s.1 ≤ 17 ∧ b (pV t n s.1 - 13).toNat = -1 then
    (if (pCb t n (pV t n s.1 - 13) (pA t n s)).1 = true then
      (if pK t n (pCb t n (pV t n s.1 - 13) (pA t n s)).2.1 = 59 then (true, pW (-21) (pA t n (pCb t n (pV t n s.1 - 13) (pA t n s)).2), zu b (pV t n s.1 - 13).toNat s.2.1)
      else (false, (pCb t n (pV t n s.1 - 13) (pA t n s)).2, zu b (pV t n s.1 - 13).toNat s.2.1))
    else (false, (pCb t n (pV t n s.1 - 13) (pA t n s)).2, zu b (pV t n s.1 - 13).toNat s.2.1))
  else (false, s, b)
def pRd (t : pT) (n : Nat) : Nat → pQ → (Nat → Int) → Bool × pQ × (Nat → Int)
  | 0, s, b => (true, s, b)
  | m + 1, s, b => if pK t n s.1 = 0 then (true, s, b) else if (pCls t n s b).1 = true then pRd t n m (pCls t n s b).2.1 (pCls t n s b).2.2 else pCls t n s b
def pRead (t : pT) (n : Nat) (c : Nat → Int) : Bool × pQ × (Nat → Int) := pRd t n 400 (pSk t n 0, 0, c) (fun _ => -1)
/-- the FAULT -/
def pFa (t : pT) (n : Nat) (c : Nat → Int) : Int := if (pRead t n c).1 = true then -1 else (((pRead t n c).2.1.1 : Nat) : Int)
/-! how far a reading goes: within the text; no more is written than was read -/
def pG (n : Nat) (f : pQ → pR) : Prop := ∀ s : pQ, s.1 ≤ n → s.1 ≤ (f s).2.1 ∧ (f s).2.1 ≤ n ∧ s.2.1 ≤ (f s).2.2.1 ∧ (f s).2.2.1 + s.1 ≤ s.2.1 + (f s).2.1 ∧ ((f s).1 = true → s.1 < (f s).2.1 ∧ s.2.1 < (f s).2.2.1) ∧ ∀ i, i < s.2.1 → (f s).2.2.2 i = s.2.2 i
theorem pG_no : pG n pNo := fun s h => ⟨Nat.le_refl _, h, Nat.le_refl _, by show s.2.1 + s.1 ≤ s.2.1 + s.1; omega, fun z => (by cases z), fun _ _ => rfl⟩
theorem pG_w (h : s.1 < n) (x : Int) : s.1 ≤ (pA t n (pW x s)).1 ∧ (pA t n (pW x s)).1 ≤ n ∧ s.2.1 ≤ (pA t n (pW x s)).2.1 ∧ (pA t n (pW x s)).2.1 + s.1 ≤ s.2.1 + (pA t n (pW x s)).1 ∧ (s.1 < (pA t n (pW x s)).1 ∧ s.2.1 < (pA t n (pW x s)).2.1) ∧ ∀ i, i < s.2.1 → (pA t n (pW x s)).2.2 i = s.2.2 i := by
  have b := pNx_b (t := t) (n := n) (p := s.1) (by omega)
  show s.1 ≤ pNx t n s.1 ∧ pNx t n s.1 ≤ n ∧ s.2.1 ≤ s.2.1 + 1 ∧ s.2.1 + 1 + s.1 ≤ s.2.1 + pNx t n s.1 ∧ (s.1 < pNx t n s.1 ∧ s.2.1 < s.2.1 + 1) ∧ ∀ i, i < s.2.1 → zu s.2.2 s.2.1 x i = s.2.2 i
  exact ⟨by omega, by omega, by omega, by omega, (by first | omega | exact ⟨by omega, by omega⟩), fun i hi => zu_ne (by omega)⟩
theorem pG_fac {o : Bool} {sub : pQ → pR} (H : pG n sub) : pG n (pFac t n o sub) := by
  intro s h
  have b := pNx_b (t := t) (n := n) (p := s.1) h
  unfold pFac
  split
  · rename_i c
    have w := pG_w (t := t) (s := s) (pK_lt (t := t) (n := n) (p := s.1) (by omega)) (pV t n s.1)
    exact ⟨w.1, w.2.1, w.2.2.1, w.2.2.2.1, fun _ => w.2.2.2.2.1, w.2.2.2.2.2⟩
  · split
    · rename_i c
      have w := pG_w (t := t) (s := s) (pK_lt (t := t) (n := n) (p := s.1) (by omega)) (-1 - pV t n s.1)
      exact ⟨w.1, w.2.1, w.2.2.1, w.2.2.2.1, fun _ => w.2.2.2.2.1, w.2.2.2.2.2⟩
    · split
      · rename_i c
        have hp := pK_lt (t := t) (n := n) (p := s.1) (by omega)
        have g := H (pA t n s) (by show pNx t n s.1 ≤ n; omega)
        have g : pNx t n s.1 ≤ (sub (pA t n s)).2.1 ∧ (sub (pA t n s)).2.1 ≤ n ∧ s.2.1 ≤ (sub (pA t n s)).2.2.1 ∧ (sub (pA t n s)).2.2.1 + pNx t n s.1 ≤ s.2.1 + (sub (pA t n s)).2.1 ∧ ((sub (pA t n s)).1 = true → pNx t n s.1 < (sub (pA t n s)).2.1 ∧ s.2.1 < (sub (pA t n s)).2.2.1) ∧ ∀ i, i < s.2.1 → (sub (pA t n s)).2.2.2 i = s.2.2 i := g
        obtain ⟨g1, g2, g3, g4, g5, g6⟩ := g
        split
        · rename_i c1
          have g5 := g5 c1
          split
          · have b2 := pNx_b (t := t) (n := n) (p := (sub (pA t n s)).2.1) g2
            show s.1 ≤ pNx t n (sub (pA t n s)).2.1 ∧ pNx t n (sub (pA t n s)).2.1 ≤ n ∧ s.2.1 ≤ (sub (pA t n s)).2.2.1 ∧ (sub (pA t n s)).2.2.1 + s.1 ≤ s.2.1 + pNx t n (sub (pA t n s)).2.1 ∧ (true = true → s.1 < pNx t n (sub (pA t n s)).2.1 ∧ s.2.1 < (sub (pA t n s)).2.2.1) ∧ ∀ i, i < s.2.1 → (sub (pA t n s)).2.2.2 i = s.2.2 i
            exact ⟨by omega, by omega, by omega, by omega, fun _ => (by first | omega | exact ⟨by omega, by omega⟩), g6⟩
          · show s.1 ≤ (sub (pA t n s)).2.1 ∧ (sub (pA t n s)).2.1 ≤ n ∧ s.2.1 ≤ (sub (pA t n s)).2.2.1 ∧ (sub (pA t n s)).2.2.1 + s.1 ≤ s.2.1 + (sub (pA t n s)).2.1 ∧ (false = true → _) ∧ _
            exact ⟨by omega, g2, by omega, by omega, fun z => (by cases z), g6⟩
        · exact ⟨by omega, g2, by omega, by omega, fun z => absurd z ‹_›, g6⟩
      · exact ⟨Nat.le_refl _, h, Nat.le_refl _, by show s.2.1 + s.1 ≤ s.2.1 + s.1; omega, fun z => (by cases z), fun _ _ => rfl⟩
theorem pG_lp {o1 o2 : Int} {f : pQ → pR} (H : pG n f) (h1 : o1 ≠ 0) (h2 : o2 ≠ 0) : ∀ (m : Nat) (s : pQ), s.1 ≤ n → s.1 ≤ (pLp t n o1 o2 f m s).2.1 ∧ (pLp t n o1 o2 f m s).2.1 ≤ n ∧ s.2.1 ≤ (pLp t n o1 o2 f m s).2.2.1 ∧ (pLp t n o1 o2 f m s).2.2.1 + s.1 ≤ s.2.1 + (pLp t n o1 o2 f m s).2.1 ∧ ∀ i, i < s.2.1 → (pLp t n o1 o2 f m s).2.2.2 i = s.2.2 i
  | 0, s, h => ⟨Nat.le_refl _, h, Nat.le_refl _, by show s.2.1 + s.1 ≤ s.2.1 + s.1; omega, fun _ _ => rfl⟩
  | m + 1, s, h => by
    have b := pNx_b (t := t) (n := n) (p := s.1) h
    unfold pLp
    split
    · rename_i c
      have hp := pK_lt (t := t) (n := n) (p := s.1) (by omega)
      have g := H (pA t n s) (by show pNx t n s.1 ≤ n; omega)
      have g : pNx t n s.1 ≤ (f (pA t n s)).2.1 ∧ (f (pA t n s)).2.1 ≤ n ∧ s.2.1 ≤ (f (pA t n s)).2.2.1 ∧ (f (pA t n s)).2.2.1 + pNx t n s.1 ≤ s.2.1 + (f (pA t n s)).2.1 ∧ ((f (pA t n s)).1 = true → pNx t n s.1 < (f (pA t n s)).2.1 ∧ s.2.1 < (f (pA t n s)).2.2.1) ∧ ∀ i, i < s.2.1 → (f (pA t n s)).2.2.2 i = s.2.2 i := g
      obtain ⟨g1, g2, g3, g4, g5, g6⟩ := g
      split
      · rename_i c1
        have g5 := g5 c1
        have r := pG_lp H h1 h2 m (pW (-(pK t n s.1)) (f (pA t n s)).2) g2
        obtain ⟨r1, r2, r3, r4, r5⟩ := r
        have r1 : (f (pA t n s)).2.1 ≤ _ := r1
        have r3 : (f (pA t n s)).2.2.1 + 1 ≤ _ := r3
        have r4 : _ + (f (pA t n s)).2.1 ≤ (f (pA t n s)).2.2.1 + 1 + _ := r4
        refine ⟨by omega, r2, by omega, by omega, fun i hi => ?_⟩
        rw [r5 i (by show i < (f (pA t n s)).2.2.1 + 1; omega)]
        show zu _ _ _ i = _
        rw [zu_ne (by omega)]
        exact g6 i hi
      · exact ⟨by omega, g2, by omega, by omega, g6⟩
    · exact ⟨Nat.le_refl _, h, Nat.le_refl _, by show s.2.1 + s.1 ≤ s.2.1 + s.1; omega, fun _ _ => rfl⟩
theorem pG_pro {f : pQ → pR} (H : pG n f) : pG n (pPro t n f) := by
  intro s h
  obtain ⟨g1, g2, g3, g4, g5, g6⟩ := H s h
  unfold pPro
  split
  · rename_i c
    have g5 := g5 c
    obtain ⟨r1, r2, r3, r4, r5⟩ := pG_lp (t := t) (o1 := 42) (o2 := 47) H (by decide) (by decide) 400 (f s).2 g2
    exact ⟨by omega, r2, by omega, by omega, fun _ => (by first | omega | exact ⟨by omega, by omega⟩), fun i hi => (r5 i (by omega)).trans (g6 i hi)⟩
  · exact ⟨g1, g2, g3, g4, g5, g6⟩
theorem pG_sm0 {f : pQ → pR} (H : pG n f) : pG n (pSm0 t n f) := by
  intro s h
  obtain ⟨g1, g2, g3, g4, g5, g6⟩ := pG_pro (t := t) H s h
  unfold pSm0
  split
  · rename_i c
    have g5 := g5 c
    obtain ⟨r1, r2, r3, r4, r5⟩ := pG_lp (t := t) (o1 := 43) (o2 := 45) (pG_pro (t := t) H) (by decide) (by decide) 400 (pPro t n f s).2 g2
    exact ⟨by omega, r2, by omega, by omega, fun _ => (by first | omega | exact ⟨by omega, by omega⟩), fun i hi => (r5 i (by omega)).trans (g6 i hi)⟩
  · exact ⟨g1, g2, g3, g4, g5, g6⟩
theorem pG_fc : ∀ e : Nat, pG n (pFc t n e)
  | 0 => pG_fac pG_no
  | e + 1 => pG_fac (pG_sm0 (pG_fc e))
theorem pG_sum (e : Nat) : pG n (pSum t n e) := pG_sm0 (pG_fc e)
theorem pG_lw {w : Int} {f : pQ → pR} (H : pG n f) : ∀ (m : Nat) (s : pQ), s.1 ≤ n → s.1 ≤ (pLw t n w f m s).2.1 ∧ (pLw t n w f m s).2.1 ≤ n ∧ s.2.1 ≤ (pLw t n w f m s).2.2.1 ∧ (pLw t n w f m s).2.2.1 + s.1 ≤ s.2.1 + (pLw t n w f m s).2.1 ∧ ∀ i, i < s.2.1 → (pLw t n w f m s).2.2.2 i = s.2.2 i
  | 0, s, h => ⟨Nat.le_refl _, h, Nat.le_refl _, by show s.2.1 + s.1 ≤ s.2.1 + s.1; omega, fun _ _ => rfl⟩
  | m + 1, s, h => by
    have b := pNx_b (t := t) (n := n) (p := s.1) h
    unfold pLw
    split
    · rename_i c
      have hp := pK_lt (t := t) (n := n) (p := s.1) (by omega)
      have g := H (pA t n s) (by show pNx t n s.1 ≤ n; omega)
      have g : pNx t n s.1 ≤ (f (pA t n s)).2.1 ∧ (f (pA t n s)).2.1 ≤ n ∧ s.2.1 ≤ (f (pA t n s)).2.2.1 ∧ (f (pA t n s)).2.2.1 + pNx t n s.1 ≤ s.2.1 + (f (pA t n s)).2.1 ∧ ((f (pA t n s)).1 = true → pNx t n s.1 < (f (pA t n s)).2.1 ∧ s.2.1 < (f (pA t n s)).2.2.1) ∧ ∀ i, i < s.2.1 → (f (pA t n s)).2.2.2 i = s.2.2 i := g
      obtain ⟨g1, g2, g3, g4, g5, g6⟩ := g
      split
      · rename_i c1
        have g5 := g5 c1
        have r := pG_lw (w := w) H m (pW (-w) (f (pA t n s)).2) g2
        obtain ⟨r1, r2, r3, r4, r5⟩ := r
        have r1 : (f (pA t n s)).2.1 ≤ _ := r1
        have r3 : (f (pA t n s)).2.2.1 + 1 ≤ _ := r3
        have r4 : _ + (f (pA t n s)).2.1 ≤ (f (pA t n s)).2.2.1 + 1 + _ := r4
        refine ⟨by omega, r2, by omega, by omega, fun i hi => ?_⟩
        rw [r5 i (by show i < (f (pA t n s)).2.2.1 + 1; omega)]
        show zu _ _ _ i = _
        rw [zu_ne (by omega)]
        exact g6 i hi
      · exact ⟨by omega, g2, by omega, by omega, g6⟩
    · exact ⟨Nat.le_refl _, h, Nat.le_refl _, by show s.2.1 + s.1 ≤ s.2.1 + s.1; omega, fun _ _ => rfl⟩
theorem pG_hol {o : Bool} {hol eit sum : pQ → pR} (H1 : pG n hol) (H2 : pG n eit) (H3 : pG n sum) : pG n (pHol t n o hol eit sum) := by
  intro s h
  have b := pNx_b (t := t) (n := n) (p := s.1) h
  have triv : s.1 ≤ s.1 ∧ s.1 ≤ n ∧ s.2.1 ≤ s.2.1 ∧ s.2.1 + s.1 ≤ s.2.1 + s.1 ∧ (false = true → s.1 < s.1 ∧ s.2.1 < s.2.1) ∧ ∀ i, i < s.2.1 → s.2.2 i = s.2.2 i := ⟨Nat.le_refl _, h, Nat.le_refl _, Nat.le_refl _, fun z => (by cases z), fun _ _ => rfl⟩
  unfold pHol
  split
  · rename_i c
    have hp := pK_lt (t := t) (n := n) (p := s.1) (by omega)
    split
    · have g := H1 (pA t n s) (by show pNx t n s.1 ≤ n; omega)
      have g : pNx t n s.1 ≤ (hol (pA t n s)).2.1 ∧ (hol (pA t n s)).2.1 ≤ n ∧ s.2.1 ≤ (hol (pA t n s)).2.2.1 ∧ (hol (pA t n s)).2.2.1 + pNx t n s.1 ≤ s.2.1 + (hol (pA t n s)).2.1 ∧ ((hol (pA t n s)).1 = true → pNx t n s.1 < (hol (pA t n s)).2.1 ∧ s.2.1 < (hol (pA t n s)).2.2.1) ∧ ∀ i, i < s.2.1 → (hol (pA t n s)).2.2.2 i = s.2.2 i := g
      obtain ⟨g1, g2, g3, g4, g5, g6⟩ := g
      split
      · rename_i c1
        have g5 := g5 c1
        show s.1 ≤ (hol (pA t n s)).2.1 ∧ (hol (pA t n s)).2.1 ≤ n ∧ s.2.1 ≤ (hol (pA t n s)).2.2.1 + 1 ∧ (hol (pA t n s)).2.2.1 + 1 + s.1 ≤ s.2.1 + (hol (pA t n s)).2.1 ∧ (true = true → s.1 < (hol (pA t n s)).2.1 ∧ s.2.1 < (hol (pA t n s)).2.2.1 + 1) ∧ ∀ i, i < s.2.1 → zu _ _ _ i = s.2.2 i
        exact ⟨by omega, g2, by omega, by omega, fun _ => (by first | omega | exact ⟨by omega, by omega⟩), fun i hi => by rw [zu_ne (by omega)]; exact g6 i hi⟩
      · exact ⟨by omega, g2, by omega, by omega, fun z => absurd z ‹_›, g6⟩
    · exact triv
  · split
    · rename_i c
      have hp := pK_lt (t := t) (n := n) (p := s.1) (by omega)
      split
      · have g := H2 (pA t n s) (by show pNx t n s.1 ≤ n; omega)
        have g : pNx t n s.1 ≤ (eit (pA t n s)).2.1 ∧ (eit (pA t n s)).2.1 ≤ n ∧ s.2.1 ≤ (eit (pA t n s)).2.2.1 ∧ (eit (pA t n s)).2.2.1 + pNx t n s.1 ≤ s.2.1 + (eit (pA t n s)).2.1 ∧ ((eit (pA t n s)).1 = true → pNx t n s.1 < (eit (pA t n s)).2.1 ∧ s.2.1 < (eit (pA t n s)).2.2.1) ∧ ∀ i, i < s.2.1 → (eit (pA t n s)).2.2.2 i = s.2.2 i := g
        obtain ⟨g1, g2, g3, g4, g5, g6⟩ := g
        split
        · rename_i c1
          have g5 := g5 c1
          split
          · have b2 := pNx_b (t := t) (n := n) (p := (eit (pA t n s)).2.1) g2
            show s.1 ≤ pNx t n (eit (pA t n s)).2.1 ∧ pNx t n (eit (pA t n s)).2.1 ≤ n ∧ s.2.1 ≤ (eit (pA t n s)).2.2.1 ∧ (eit (pA t n s)).2.2.1 + s.1 ≤ s.2.1 + pNx t n (eit (pA t n s)).2.1 ∧ (true = true → s.1 < pNx t n (eit (pA t n s)).2.1 ∧ s.2.1 < (eit (pA t n s)).2.2.1) ∧ ∀ i, i < s.2.1 → (eit (pA t n s)).2.2.2 i = s.2.2 i
            exact ⟨by omega, by omega, by omega, by omega, fun _ => (by first | omega | exact ⟨by omega, by omega⟩), g6⟩
          · show s.1 ≤ (eit (pA t n s)).2.1 ∧ (eit (pA t n s)).2.1 ≤ n ∧ s.2.1 ≤ (eit (pA t n s)).2.2.1 ∧ (eit (pA t n s)).2.2.1 + s.1 ≤ s.2.1 + (eit (pA t n s)).2.1 ∧ (false = true → _) ∧ _
            exact ⟨by omega, g2, by omega, by omega, fun z => (by cases z), g6⟩
        · exact ⟨by omega, g2, by omega, by omega, fun z => absurd z ‹_›, g6⟩
      · exact triv
    · obtain ⟨g1, g2, g3, g4, g5, g6⟩ := H3 s h
      split
      · rename_i c1
        have g5 := g5 c1
        split
        · rename_i c2
          have b2 := pNx_b (t := t) (n := n) (p := (sum s).2.1) g2
          have hp := pK_lt (t := t) (n := n) (p := (sum s).2.1) (by omega)
          have r := H3 (pA t n (sum s).2) (by show pNx t n (sum s).2.1 ≤ n; omega)
          have r : pNx t n (sum s).2.1 ≤ (sum (pA t n (sum s).2)).2.1 ∧ (sum (pA t n (sum s).2)).2.1 ≤ n ∧ (sum s).2.2.1 ≤ (sum (pA t n (sum s).2)).2.2.1 ∧ (sum (pA t n (sum s).2)).2.2.1 + pNx t n (sum s).2.1 ≤ (sum s).2.2.1 + (sum (pA t n (sum s).2)).2.1 ∧ ((sum (pA t n (sum s).2)).1 = true → pNx t n (sum s).2.1 < (sum (pA t n (sum s).2)).2.1 ∧ (sum s).2.2.1 < (sum (pA t n (sum s).2)).2.2.1) ∧ ∀ i, i < (sum s).2.2.1 → (sum (pA t n (sum s).2)).2.2.2 i = (sum s).2.2.2 i := r
          obtain ⟨r1, r2, r3, r4, r5, r6⟩ := r
          split
          · rename_i c3
            have r5 := r5 c3
            show s.1 ≤ (sum (pA t n (sum s).2)).2.1 ∧ (sum (pA t n (sum s).2)).2.1 ≤ n ∧ s.2.1 ≤ (sum (pA t n (sum s).2)).2.2.1 + 1 ∧ (sum (pA t n (sum s).2)).2.2.1 + 1 + s.1 ≤ s.2.1 + (sum (pA t n (sum s).2)).2.1 ∧ (true = true → s.1 < (sum (pA t n (sum s).2)).2.1 ∧ s.2.1 < (sum (pA t n (sum s).2)).2.2.1 + 1) ∧ ∀ i, i < s.2.1 → zu _ _ _ i = s.2.2 i
            exact ⟨by omega, r2, by omega, by omega, fun _ => (by first | omega | exact ⟨by omega, by omega⟩), fun i hi => by rw [zu_ne (by omega), r6 i (by omega)]; exact g6 i hi⟩
          · exact ⟨by omega, r2, by omega, by omega, fun z => absurd z ‹_›, fun i hi => (r6 i (by omega)).trans (g6 i hi)⟩
        · exact ⟨g1, g2, g3, g4, fun z => (by cases z), g6⟩
      · exact ⟨g1, g2, g3, g4, fun z => absurd z ‹_›, g6⟩
theorem pG_bth {hol : pQ → pR} (H : pG n hol) : pG n (pBth t n hol) := by
  intro s h
  obtain ⟨g1, g2, g3, g4, g5, g6⟩ := H s h
  unfold pBth
  split
  · rename_i c
    have g5 := g5 c
    obtain ⟨r1, r2, r3, r4, r5⟩ := pG_lw (t := t) (w := 19) H 400 (hol s).2 g2
    exact ⟨by omega, r2, by omega, by omega, fun _ => (by first | omega | exact ⟨by omega, by omega⟩), fun i hi => (r5 i (by omega)).trans (g6 i hi)⟩
  · exact ⟨g1, g2, g3, g4, g5, g6⟩
theorem pG_ei0 {hol : pQ → pR} (H : pG n hol) : pG n (pEi0 t n hol) := by
  intro s h
  obtain ⟨g1, g2, g3, g4, g5, g6⟩ := pG_bth (t := t) H s h
  unfold pEi0
  split
  · rename_i c
    have g5 := g5 c
    obtain ⟨r1, r2, r3, r4, r5⟩ := pG_lw (t := t) (w := 18) (pG_bth (t := t) H) 400 (pBth t n hol s).2 g2
    exact ⟨by omega, r2, by omega, by omega, fun _ => (by first | omega | exact ⟨by omega, by omega⟩), fun i hi => (r5 i (by omega)).trans (g6 i hi)⟩
  · exact ⟨g1, g2, g3, g4, g5, g6⟩
theorem pG_ho : ∀ e : Nat, pG n (pHo t n e)
  | 0 => pG_hol pG_no pG_no (pG_sum 0)
  | e + 1 => pG_hol (pG_ho e) (pG_ei0 (pG_ho e)) (pG_sum (e + 1))
theorem pG_ei (e : Nat) : pG n (pEi t n e) := pG_ei0 (pG_ho e)
theorem pG_cb (c : Int) : pG n (pCb t n c) := by
  intro s h
  unfold pCb
  split
  · exact pG_sum 8 s h
  · exact pG_ei 8 s h
end PR
end
section
/-! codes of clauses: what they answer by names (steps as the class writes them) -/
section EV
abbrev eT : Type := (Nat → Int) × Nat
variable {N : Nat → Int} {c F G : Nat → Int} {p q : eT} {i j k m n h : Nat} {x y a b : Int}
def eBr (x : Int) : Int := max (-1000000) (min x 1000000)
/-- two values joined by a sign -/
def eJn (s a b : Int) : Int := if s = 43 then eBr (a + b) else if s = 45 then eBr (a - b) else if s = 42 then eBr (a * b) else if s = 47 then (if b = 0 then 0 else a.tdiv b) else if s = 60 then (if a < b then 1 else 0) else if s = 62 then (if b < a then 1 else 0) else if s = 61 then (if a = b then 1 else 0) else if s = 19 then i_and a b else i_or a b
def eSt (N : Nat → Int) (x : Int) (p : eT) : eT :=
  if 0 ≤ x then (zu p.1 p.2 x, p.2 + 1)
  else if -13 ≤ x then (zu p.1 p.2 (N (-1 - x).toNat), p.2 + 1)
  else if x = -20 then (zu p.1 (p.2 - 1) (1 - p.1 (p.2 - 1)), p.2)
  else (zu p.1 (p.2 - 2) (eJn (-x) (p.1 (p.2 - 2)) (p.1 (p.2 - 1))), p.2 - 1)
/-- m steps from place i on -/
def eRn (N c : Nat → Int) (i : Nat) : Nat → eT → eT
  | 0, p => p
  | m + 1, p => eSt N (c (i + m)) (eRn N c i m p)
def eNum (v : Int) : Prop := -1000000 ≤ v ∧ v ≤ 1000000
def eBit (v : Int) : Prop := v = 0 ∨ v = 1
/-- a step can be taken -/
def eOk (x : Int) (p : eT) : Prop := -13 ≤ x ∨ (x = -20 ∧ 1 ≤ p.2 ∧ eBit (p.1 (p.2 - 1))) ∨ ((x = -18 ∨ x = -19) ∧ 2 ≤ p.2 ∧ eBit (p.1 (p.2 - 2)) ∧ eBit (p.1 (p.2 - 1))) ∨ ((x = -43 ∨ x = -45 ∨ x = -42 ∨ x = -47 ∨ x = -60 ∨ x = -62 ∨ x = -61) ∧ 2 ≤ p.2 ∧ eNum (p.1 (p.2 - 2)) ∧ eNum (p.1 (p.2 - 1)))
/-- places i to j put one more on the stack, and never look below -/
def eSg (N c : Nat → Int) (P : Int → Prop) (i j : Nat) : Prop := i < j ∧ ∀ (T : Nat → Int) (h : Nat), (∀ m, m < j - i → eOk (c (i + m)) (eRn N c i m (T, h)) ∧ h ≤ (eRn N c i m (T, h)).2 ∧ (∀ r, r < h → (eRn N c i m (T, h)).1 r = T r)) ∧ (eRn N c i (j - i) (T, h)).2 = h + 1 ∧ P ((eRn N c i (j - i) (T, h)).1 h) ∧ ∀ r, r < h → (eRn N c i (j - i) (T, h)).1 r = T r
theorem eRn_add : ∀ (m2 : Nat) (p : eT), eRn N c i (m + m2) p = eRn N c (i + m) m2 (eRn N c i m p)
  | 0, _ => rfl
  | k + 1, p => by
    show eSt N (c (i + (m + k))) (eRn N c i (m + k) p) = eSt N (c (i + m + k)) (eRn N c (i + m) k (eRn N c i m p))
    rw [eRn_add k p, Nat.add_assoc]
theorem eRn_cg (H : ∀ r, i ≤ r → r < i + m → c r = F r) (p : eT) : ∀ k, k ≤ m → eRn N c i k p = eRn N F i k p
  | 0, _ => rfl
  | k + 1, hk => by
    show eSt N (c (i + k)) (eRn N c i k p) = eSt N (F (i + k)) (eRn N F i k p)
    rw [eRn_cg H p k (by omega), H (i + k) (by omega) (by omega)]
theorem eSg_cg {P : Int → Prop} (S : eSg N c P i j) (H : ∀ r, i ≤ r → r < j → c r = F r) : eSg N F P i j := by
  obtain ⟨h1, h2⟩ := S
  have H2 : ∀ r, i ≤ r → r < i + (j - i) → c r = F r := fun r p q => H r p (by omega)
  refine ⟨h1, fun T h => ?_⟩
  obtain ⟨a1, a2, a3, a4⟩ := h2 T h
  rw [eRn_cg H2 (T, h) (j - i) (Nat.le_refl _)] at a2 a3 a4
  refine ⟨fun m hm => ?_, a2, a3, a4⟩
  have := a1 m hm
  rw [eRn_cg H2 (T, h) m (by omega), H (i + m) (by omega) (by omega)] at this
  exact this
/-- the same codes elsewhere -/
theorem eRn_sh (H : ∀ r, r < m → c (i + r) = F (k + r)) (p : eT) : ∀ n, n ≤ m → eRn N c i n p = eRn N F k n p
  | 0, _ => rfl
  | n + 1, hn => by
    show eSt N (c (i + n)) (eRn N c i n p) = eSt N (F (k + n)) (eRn N F k n p)
    rw [eRn_sh H p n (by omega), H n (by omega)]
theorem eSg_sh {P : Int → Prop} (S : eSg N c P i (i + m)) (H : ∀ r, r < m → c (i + r) = F (k + r)) : eSg N F P k (k + m) := by
  obtain ⟨h1, h2⟩ := S
  refine ⟨by omega, fun T h => ?_⟩
  obtain ⟨a1, a2, a3, a4⟩ := h2 T h
  rw [Nat.add_sub_cancel_left] at a1 a2 a3 a4 ⊢
  rw [eRn_sh H (T, h) m (Nat.le_refl _)] at a2 a3 a4
  refine ⟨fun n hn => ?_, a2, a3, a4⟩
  have := a1 n hn
  rw [eRn_sh H (T, h) n (by omega), H n hn] at this
  exact this
theorem eSg_one {P : Int → Prop} (hx : -13 ≤ c i) (hp : ∀ v, v = (if 0 ≤ c i then c i else N (-1 - c i).toNat) → P v) : eSg N c P i (i + 1) := by
  refine ⟨by omega, fun T h => ?_⟩
  rw [Nat.add_sub_cancel_left]
  have e : eRn N c i 1 (T, h) = (zu T h (if 0 ≤ c i then c i else N (-1 - c i).toNat), h + 1) := by
    show eSt N (c (i + 0)) (T, h) = _
    unfold eSt
    rw [Nat.add_zero]
    by_cases q : 0 ≤ c i
    · rw [if_pos q, if_pos q]
    · rw [if_neg q, if_neg q, if_pos hx]
  rw [e]
  refine ⟨fun m hm => ?_, rfl, ?_, fun r hr => zu_ne (by omega)⟩
  · obtain rfl : m = 0 := by omega
    exact ⟨Or.inl hx, Nat.le_refl _, fun r _ => rfl⟩
  · show P (zu T h _ h)
    rw [zu_eq]
    exact hp _ rfl
theorem eSg_bin {P Q : Int → Prop} (S1 : eSg N c P i j) (S2 : eSg N c P j k) (hx : ∀ (T : Nat → Int) (h : Nat), P (T h) → P (T (h + 1)) → eOk (c k) (T, h + 2) ∧ ¬ (-13 ≤ c k) ∧ c k ≠ -20 ∧ Q (eJn (-(c k)) (T h) (T (h + 1)))) : eSg N c Q i (k + 1) := by
  obtain ⟨h1, s1⟩ := S1
  obtain ⟨h2, s2⟩ := S2
  refine ⟨by omega, fun T h => ?_⟩
  obtain ⟨a1, a2, a3, a4⟩ := s1 T h
  have eU : ∃ U u, eRn N c i (j - i) (T, h) = (U, u) := ⟨_, _, rfl⟩
  obtain ⟨U, u, eU⟩ := eU
  rw [eU] at a2 a3 a4
  have a2 : u = h + 1 := a2
  subst a2
  obtain ⟨b1, b2, b3, b4⟩ := s2 U (h + 1)
  have eV : ∃ V v, eRn N c j (k - j) (U, h + 1) = (V, v) := ⟨_, _, rfl⟩
  obtain ⟨V, v, eV⟩ := eV
  rw [eV] at b2 b3 b4
  have b2 : v = h + 1 + 1 := b2
  subst b2
  have eW : eRn N c i (k - i) (T, h) = (V, h + 2) := by
    have := eRn_add (N := N) (c := c) (i := i) (m := j - i) (k - j) (T, h)
    rw [show j - i + (k - j) = k - i by omega, eU, show i + (j - i) = j by omega, eV] at this
    exact this
  have vh : V h = U h := b4 h (by omega)
  have w := hx V h (by rw [vh]; exact a3) b3
  have eX : eRn N c i (k + 1 - i) (T, h) = (zu V h (eJn (-(c k)) (V h) (V (h + 1))), h + 1) := by
    rw [show k + 1 - i = (k - i) + 1 by omega]
    show eSt N (c (i + (k - i))) (eRn N c i (k - i) (T, h)) = _
    rw [eW, show i + (k - i) = k by omega]
    unfold eSt
    rw [if_neg (by omega), if_neg w.2.1, if_neg w.2.2.1]
    rfl
  rw [eX]
  refine ⟨fun m hm => ?_, rfl, ?_, fun r hr => ?_⟩
  · by_cases c1 : m < j - i
    · exact a1 m c1
    · by_cases c2 : m < k - i
      · obtain ⟨d1, d2, d3⟩ := b1 (m - (j - i)) (by omega)
        have e2 := eRn_add (N := N) (c := c) (i := i) (m := j - i) (m - (j - i)) (T, h)
        rw [show j - i + (m - (j - i)) = m by omega, eU, show i + (j - i) = j by omega] at e2
        rw [e2, show i + m = j + (m - (j - i)) by omega]
        exact ⟨d1, by omega, fun r hr => (d3 r (by omega)).trans (a4 r hr)⟩
      · obtain rfl : m = k - i := by omega
        rw [eW, show i + (k - i) = k by omega]
        exact ⟨w.1, by show h ≤ h + 2; omega, fun r hr => (b4 r (by omega)).trans (a4 r hr)⟩
  · show Q (zu V h _ h)
    rw [zu_eq]
    exact w.2.2.2
  · show zu V h _ r = T r
    rw [zu_ne (by omega)]
    exact (b4 r (by omega)).trans (a4 r hr)
theorem eSg_not (S1 : eSg N c eBit i k) (hx : c k = -20) : eSg N c eBit i (k + 1) := by
  obtain ⟨h1, s1⟩ := S1
  refine ⟨by omega, fun T h => ?_⟩
  obtain ⟨a1, a2, a3, a4⟩ := s1 T h
  have eU : ∃ U u, eRn N c i (k - i) (T, h) = (U, u) := ⟨_, _, rfl⟩
  obtain ⟨U, u, eU⟩ := eU
  rw [eU] at a2 a3 a4
  have a2 : u = h + 1 := a2
  subst a2
  have a3 : eBit (U h) := a3
  have eX : eRn N c i (k + 1 - i) (T, h) = (zu U h (1 - U h), h + 1) := by
    rw [show k + 1 - i = (k - i) + 1 by omega]
    show eSt N (c (i + (k - i))) (eRn N c i (k - i) (T, h)) = _
    rw [eU, show i + (k - i) = k by omega]
    unfold eSt
    rw [if_neg (by omega), if_neg (by omega), if_pos hx]
    rfl
  rw [eX]
  refine ⟨fun m hm => ?_, rfl, ?_, fun r hr => ?_⟩
  · by_cases c1 : m < k - i
    · exact a1 m c1
    · obtain rfl : m = k - i := by omega
      rw [eU, show i + (k - i) = k by omega]
      exact ⟨Or.inr (Or.inl ⟨hx, by show 1 ≤ h + 1; omega, a3⟩), by show h ≤ h + 1; omega, a4⟩
  · show eBit (zu U h _ h)
    rw [zu_eq]
    unfold eBit at a3 ⊢
    omega
  · show zu U h _ r = T r
    rw [zu_ne (by omega)]
    exact a4 r hr
theorem eBr_n (v : Int) : eNum (eBr v) := by
  unfold eNum eBr
  omega
theorem tdiv_n (ha : eNum a) : eNum (a.tdiv b) := by
  unfold eNum at ha ⊢
  have h1 := Int.natAbs_tdiv_le_natAbs a b
  omega
theorem eSg_num (S1 : eSg N c eNum i j) (S2 : eSg N c eNum j k) (hx : c k = -43 ∨ c k = -45 ∨ c k = -42 ∨ c k = -47) : eSg N c eNum i (k + 1) := by
  refine eSg_bin S1 S2 (fun T h p q => ⟨Or.inr (Or.inr (Or.inr ⟨by omega, by show 2 ≤ h + 2; omega, p, q⟩)), by omega, by omega, ?_⟩)
  unfold eJn
  rcases hx with z | z | z | z <;> rw [z]
  · rw [if_pos (by decide)]; exact eBr_n _
  · rw [if_neg (by decide), if_pos (by decide)]; exact eBr_n _
  · rw [if_neg (by decide), if_neg (by decide), if_pos (by decide)]; exact eBr_n _
  · rw [if_neg (by decide), if_neg (by decide), if_neg (by decide), if_pos (by decide)]
    split
    · unfold eNum; omega
    · exact tdiv_n p
theorem eBit_if {P : Prop} [Decidable P] : eBit (if P then 1 else 0) := by
  unfold eBit
  split
  · exact Or.inr rfl
  · exact Or.inl rfl
theorem eSg_cmp (S1 : eSg N c eNum i j) (S2 : eSg N c eNum j k) (hx : c k = -60 ∨ c k = -62 ∨ c k = -61) : eSg N c eBit i (k + 1) := by
  refine eSg_bin S1 S2 (fun T h p q => ⟨Or.inr (Or.inr (Or.inr ⟨by omega, by show 2 ≤ h + 2; omega, p, q⟩)), by omega, by omega, ?_⟩)
  unfold eJn
  rcases hx with z | z | z <;> rw [z]
  · rw [if_neg (by decide), if_neg (by decide), if_neg (by decide), if_neg (by decide), if_pos (by decide)]; exact eBit_if
  · rw [if_neg (by decide), if_neg (by decide), if_neg (by decide), if_neg (by decide), if_neg (by decide), if_pos (by decide)]; exact eBit_if
  · rw [if_neg (by decide), if_neg (by decide), if_neg (by decide), if_neg (by decide), if_neg (by decide), if_neg (by decide), if_pos (by decide)]; exact eBit_if
theorem eBit_and (ha : eBit a) (hb : eBit b) : eBit (i_and a b) := by
  unfold eBit at ha hb
  rcases ha with rfl | rfl <;> rcases hb with rfl | rfl <;> (unfold eBit; decide)
theorem eBit_or (ha : eBit a) (hb : eBit b) : eBit (i_or a b) := by
  unfold eBit at ha hb
  rcases ha with rfl | rfl <;> rcases hb with rfl | rfl <;> (unfold eBit; decide)
theorem eSg_bit (S1 : eSg N c eBit i j) (S2 : eSg N c eBit j k) (hx : c k = -19 ∨ c k = -18) : eSg N c eBit i (k + 1) := by
  refine eSg_bin S1 S2 (fun T h p q => ⟨Or.inr (Or.inr (Or.inl ⟨by omega, by show 2 ≤ h + 2; omega, p, q⟩)), by omega, by omega, ?_⟩)
  unfold eJn
  rcases hx with z | z <;> rw [z]
  · rw [if_neg (by decide), if_neg (by decide), if_neg (by decide), if_neg (by decide), if_neg (by decide), if_neg (by decide), if_neg (by decide), if_pos (by decide)]; exact eBit_and p q
  · rw [if_neg (by decide), if_neg (by decide), if_neg (by decide), if_neg (by decide), if_neg (by decide), if_neg (by decide), if_neg (by decide), if_neg (by decide)]; exact eBit_or p q
/-! what is read puts such codes -/
def eNs (N : Nat → Int) : Prop := ∀ j, j < 13 → eNum (N j)
def eG (n : Nat) (P : Int → Prop) (f : pQ → pR) : Prop := ∀ (N : Nat → Int), eNs N → ∀ s : pQ, s.1 ≤ n → (f s).1 = true → eSg N (f s).2.2.2 P s.2.1 (f s).2.2.1
variable {t : pT} {e : Nat} {f hol eit sum sub : pQ → pR} {o : Bool} {P : Int → Prop}
theorem eG_no : eG n P pNo := fun _ _ _ _ z => by cases z
theorem eG_lp {o1 o2 : Int} (H : eG n eNum f) (Hg : pG n f) (h1 : o1 ≠ 0) (h2 : o2 ≠ 0) (ho : ∀ z : Int, z = o1 ∨ z = o2 → -z = -43 ∨ -z = -45 ∨ -z = -42 ∨ -z = -47) {N : Nat → Int} (hN : eNs N) (i0 : Nat) : ∀ (m : Nat) (s : pQ), s.1 ≤ n → eSg N s.2.2 eNum i0 s.2.1 → (pLp t n o1 o2 f m s).1 = true → eSg N (pLp t n o1 o2 f m s).2.2.2 eNum i0 (pLp t n o1 o2 f m s).2.2.1
  | 0, s, _, S, _ => S
  | m + 1, s, h, S, z => by
    have b := pNx_b (t := t) (n := n) (p := s.1) h
    unfold pLp at z ⊢
    split
    · rename_i c1
      rw [if_pos c1] at z
      have hp := pK_lt (t := t) (n := n) (p := s.1) (by omega)
      have hle : (pA t n s).1 ≤ n := by show pNx t n s.1 ≤ n; omega
      have g := Hg (pA t n s) hle
      split
      · rename_i c2
        rw [if_pos c2] at z
        have S2 := H N hN (pA t n s) hle c2
        have S2 : eSg N (f (pA t n s)).2.2.2 eNum s.2.1 (f (pA t n s)).2.2.1 := S2
        have S1 : eSg N (f (pA t n s)).2.2.2 eNum i0 s.2.1 := eSg_cg S (fun r _ hr => (g.2.2.2.2.2 r hr).symm)
        refine eG_lp H Hg h1 h2 ho hN i0 m _ g.2.1 ?_ z
        show eSg N (zu (f (pA t n s)).2.2.2 (f (pA t n s)).2.2.1 (-(pK t n s.1))) eNum i0 ((f (pA t n s)).2.2.1 + 1)
        refine eSg_num (j := s.2.1) (eSg_cg S1 (fun r _ hr => (zu_ne ?_).symm)) (eSg_cg S2 (fun r _ hr => (zu_ne ?_).symm)) (by rw [zu_eq]; exact ho _ c1)
        · have := S2.1; omega
        · omega
      · rename_i c2
        rw [if_neg c2] at z
        exact absurd z c2
    · rename_i c1
      exact S
theorem eG_pro (H : eG n eNum f) (Hg : pG n f) : eG n eNum (pPro t n f) := by
  intro N hN s h
  unfold pPro
  split
  · rename_i c1
    intro z
    exact eG_lp H Hg (by decide) (by decide) (fun z hz => by omega) hN s.2.1 400 _ (Hg s h).2.1 (H N hN s h c1) z
  · intro z; exact absurd z ‹_›
theorem eG_sm0 (H : eG n eNum f) (Hg : pG n f) : eG n eNum (pSm0 t n f) := by
  intro N hN s h
  have Hp := eG_pro (t := t) H Hg
  have Gp := pG_pro (t := t) Hg
  unfold pSm0
  split
  · rename_i c1
    intro z
    exact eG_lp Hp Gp (by decide) (by decide) (fun z hz => by omega) hN s.2.1 400 _ (Gp s h).2.1 (Hp N hN s h c1) z
  · intro z; exact absurd z ‹_›
theorem eG_lw {w : Int} (H : eG n eBit f) (Hg : pG n f) (hw : w = 19 ∨ w = 18) {N : Nat → Int} (hN : eNs N) (i0 : Nat) : ∀ (m : Nat) (s : pQ), s.1 ≤ n → eSg N s.2.2 eBit i0 s.2.1 → (pLw t n w f m s).1 = true → eSg N (pLw t n w f m s).2.2.2 eBit i0 (pLw t n w f m s).2.2.1
  | 0, s, _, S, _ => S
  | m + 1, s, h, S, z => by
    have b := pNx_b (t := t) (n := n) (p := s.1) h
    unfold pLw at z ⊢
    split
    · rename_i c1
      rw [if_pos c1] at z
      have hp := pK_lt (t := t) (n := n) (p := s.1) (by omega)
      have hle : (pA t n s).1 ≤ n := by show pNx t n s.1 ≤ n; omega
      have g := Hg (pA t n s) hle
      split
      · rename_i c2
        rw [if_pos c2] at z
        have S2 := H N hN (pA t n s) hle c2
        have S2 : eSg N (f (pA t n s)).2.2.2 eBit s.2.1 (f (pA t n s)).2.2.1 := S2
        have S1 : eSg N (f (pA t n s)).2.2.2 eBit i0 s.2.1 := eSg_cg S (fun r _ hr => (g.2.2.2.2.2 r hr).symm)
        refine eG_lw H Hg hw hN i0 m _ g.2.1 ?_ z
        show eSg N (zu (f (pA t n s)).2.2.2 (f (pA t n s)).2.2.1 (-w)) eBit i0 ((f (pA t n s)).2.2.1 + 1)
        refine eSg_bit (j := s.2.1) (eSg_cg S1 (fun r _ hr => (zu_ne ?_).symm)) (eSg_cg S2 (fun r _ hr => (zu_ne ?_).symm)) (by rw [zu_eq]; omega)
        · have := S2.1; omega
        · omega
      · rename_i c2
        rw [if_neg c2] at z
        exact absurd z c2
    · exact S
theorem eG_hol (H1 : eG n eBit hol) (G1 : pG n hol) (H2 : eG n eBit eit) (H3 : eG n eNum sum) (G3 : pG n sum) : eG n eBit (pHol t n o hol eit sum) := by
  intro N hN s h
  have b := pNx_b (t := t) (n := n) (p := s.1) h
  unfold pHol
  split
  · rename_i c1
    have hp := pK_lt (t := t) (n := n) (p := s.1) (by omega)
    have hle : (pA t n s).1 ≤ n := by show pNx t n s.1 ≤ n; omega
    split
    · split
      · rename_i c2
        intro _
        have S := H1 N hN (pA t n s) hle c2
        show eSg N (zu (hol (pA t n s)).2.2.2 (hol (pA t n s)).2.2.1 (-20)) eBit s.2.1 ((hol (pA t n s)).2.2.1 + 1)
        exact eSg_not (eSg_cg S (fun r _ hr => (zu_ne (by omega)).symm)) zu_eq
      · intro z; exact absurd z ‹_›
    · intro z; cases z
  · split
    · rename_i c1
      have hp := pK_lt (t := t) (n := n) (p := s.1) (by omega)
      have hle : (pA t n s).1 ≤ n := by show pNx t n s.1 ≤ n; omega
      split
      · split
        · rename_i c2
          have S := H2 N hN (pA t n s) hle c2
          split
          · intro _; exact S
          · intro z; cases z
        · intro z; exact absurd z ‹_›
      · intro z; cases z
    · split
      · rename_i c1
        have S1 := H3 N hN s h c1
        have g1 := G3 s h
        split
        · rename_i c2
          have b2 := pNx_b (t := t) (n := n) (p := (sum s).2.1) g1.2.1
          have hle : (pA t n (sum s).2).1 ≤ n := by show pNx t n (sum s).2.1 ≤ n; omega
          split
          · rename_i c3
            intro _
            have S2 := H3 N hN (pA t n (sum s).2) hle c3
            have S2 : eSg N (sum (pA t n (sum s).2)).2.2.2 eNum (sum s).2.2.1 (sum (pA t n (sum s).2)).2.2.1 := S2
            have g2 := G3 (pA t n (sum s).2) hle
            have q : ∀ r, r < (sum s).2.2.1 → (sum (pA t n (sum s).2)).2.2.2 r = (sum s).2.2.2 r := g2.2.2.2.2.2
            show eSg N (zu (sum (pA t n (sum s).2)).2.2.2 (sum (pA t n (sum s).2)).2.2.1 (-(pK t n (sum s).2.1))) eBit s.2.1 ((sum (pA t n (sum s).2)).2.2.1 + 1)
            refine eSg_cmp (j := (sum s).2.2.1) (eSg_cg S1 (fun r _ hr => ?_)) (eSg_cg S2 (fun r _ hr => (zu_ne (by omega)).symm)) (by rw [zu_eq]; omega)
            rw [zu_ne (by have := S2.1; omega)]
            exact (q r hr).symm
          · intro z; exact absurd z ‹_›
        · intro z; cases z
      · intro z; exact absurd z ‹_›
theorem eG_bth (H : eG n eBit hol) (Hg : pG n hol) : eG n eBit (pBth t n hol) := by
  intro N hN s h
  unfold pBth
  split
  · rename_i c1
    intro z
    exact eG_lw H Hg (Or.inl rfl) hN s.2.1 400 _ (Hg s h).2.1 (H N hN s h c1) z
  · intro z; exact absurd z ‹_›
theorem eG_ei0 (H : eG n eBit hol) (Hg : pG n hol) : eG n eBit (pEi0 t n hol) := by
  intro N hN s h
  have Hp := eG_bth (t := t) H Hg
  have Gp := pG_bth (t := t) Hg
  unfold pEi0
  split
  · rename_i c1
    intro z
    exact eG_lw Hp Gp (Or.inr rfl) hN s.2.1 400 _ (Gp s h).2.1 (Hp N hN s h c1) z
  · intro z; exact absurd z ‹_›
end EV
end
section
/-! sheets of the tables: which counts, and what it answers -/
section XE
variable {S T : zT} {N N' : Nat → Int} {s c i k m n : Nat} {x y a b w : Int}
/-- a step of the model's codes as the class writes it -/
def eEn (op v : Int) : Int := if op = 110 then v else if op = 118 then -1 - v else if op = 33 then -20 else if op = 38 then -19 else if op = 124 then -18 else -op
theorem eSt_N (H : ∀ j, j < 13 → N j = N' j) (x : Int) (p : eT) : eSt N x p = eSt N' x p := by
  unfold eSt
  by_cases h1 : 0 ≤ x
  · rw [if_pos h1, if_pos h1]
  · rw [if_neg h1, if_neg h1]
    by_cases h2 : -13 ≤ x
    · rw [if_pos h2, if_pos h2, H _ (by omega)]
    · rw [if_neg h2, if_neg h2]
theorem eRn_N {F : Nat → Int} (H : ∀ j, j < 13 → N j = N' j) (p : eT) : ∀ m, eRn N F i m p = eRn N' F i m p
  | 0 => rfl
  | m + 1 => by
    show eSt N (F (i + m)) (eRn N F i m p) = eSt N' (F (i + m)) (eRn N' F i m p)
    rw [eRn_N H p m, eSt_N H]
/-! names -/
/-! what the class's long arithmetic comes to -/
theorem w64_mul (ha : eNum a) (hb : eNum b) : w64 (a * b) = a * b ∧ -1000000000000 ≤ a * b ∧ a * b ≤ 1000000000000 := by
  unfold eNum at ha hb
  have h1 : (a * b).natAbs ≤ 1000000 * 1000000 := by
    rw [Int.natAbs_mul]
    exact Nat.mul_le_mul (by omega) (by omega)
  have h2 : -1000000000000 ≤ a * b ∧ a * b ≤ 1000000000000 := by omega
  refine ⟨?_, h2⟩
  unfold w64
  omega
theorem l_bit (ha : eBit a) (hb : eBit b) : l_and a b = i_and a b ∧ l_or a b = i_or a b ∧ eBit (i_and a b) ∧ eBit (i_or a b) := by
  unfold eBit at ha hb
  rcases ha with rfl | rfl <;> rcases hb with rfl | rfl <;> (unfold eBit; decide)
end XE
end
