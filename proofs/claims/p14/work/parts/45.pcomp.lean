/-! the model's parser: parts put together -/
section ZQ
variable {h h1 h2 h3 h4 g : Hp}
/-- nothing but the place and what isn't read here has changed; the place isn't less -/
def zNu (h h' : Hp) : Prop := fld h' 37 45 = fld h 37 45 ∧ fld h' 37 44 = fld h 37 44 ∧ fld h' 37 47 = fld h 37 47 ∧ fld h 37 42 ≤ fld h' 37 42 ∧ fld h' (149 + fld h 37 47) = fld h (149 + fld h 37 47) ∧ ∀ r : Int, 149 ≤ r → r ≤ 153 → fld h' r = fld h r
theorem zNu.rf (h : Hp) : zNu h h := ⟨rfl, rfl, rfl, Int.le_refl _, rfl, fun _ _ _ => rfl⟩
theorem zNu.tr (a : zNu h h1) (b : zNu h1 h2) : zNu h h2 := by
  obtain ⟨a1, a2, a3, a4, a5, a6⟩ := a
  obtain ⟨b1, b2, b3, b4, b5, b6⟩ := b
  rw [a3] at b5
  exact ⟨b1.trans a1, b2.trans a2, b3.trans a3, Int.le_trans a4 b4, b5.trans a5, fun r k1 k2 => (b6 r k1 k2).trans (a6 r k1 k2)⟩
theorem zNu.mr {ms : Zms} (I : zI h) (hc : 0 ≤ fld h 37 47) (R : zMR ms h h1) (e : (zqN ms 37 37 45 46 && (zqN ms 37 37 47 48 && ms.all (fun q => Nat.blt q.2.1 149 || Nat.blt 153 q.1))) = true) (hf : fld h1 37 44 = fld h 37 44) (ha : fld h 37 42 ≤ fld h1 37 42) : zNu h h1 := by
  simp only [Bool.and_eq_true] at e
  obtain ⟨e1, e2, e3⟩ := e
  have hb := I.b (a1 := 37) (a2 := 37) (j1 := 47) (j2 := 48) (lo := -1) (hi := 4) (by decide +kernel) (r := 37) (j := 47) (by decide) (by decide) (by decide) (by decide)
  have q : ∀ r : Int, 149 ≤ r → r ≤ 153 → fld h1 r = fld h r := by
   intro r k1 k2
   refine funext (fun j => R.2.2.2 _ j (fun f hf hz => ?_))
   have e := List.all_eq_true.mp e3 f hf
   rw [Bool.or_eq_true] at e
   rcases e with e | e
   · have := Nat.le_of_ble_eq_true e
     omega
   · have := Nat.le_of_ble_eq_true e
     omega
  exact ⟨R.f1 45 e1, hf, R.f1 47 e2, ha, q _ (by omega) (by omega), q⟩
theorem zPS.pre (N : zNu h h1) (S : zPS h1 h2) : zPS h h2 := by
  obtain ⟨a1, a2, a3, a4, a5, a6⟩ := N
  obtain ⟨b1, b2, b3, b4, b5, b6⟩ := S
  rw [a3, a1] at b4 b5
  rw [a5] at b5
  rw [a3] at b6
  exact ⟨by omega, by omega, by omega, b4, b5, fun r k1 k2 k3 => (b6 r k1 k2 k3).trans (a6 r k1 k2)⟩
theorem zPS.post (hc : fld h1 37 47 = fld h 37 47) (S : zPS h h1) (N : zNu h1 h2) : zPS h h2 := by
  obtain ⟨a1, a2, a3, a4, a5, a6⟩ := N
  obtain ⟨b1, b2, b3, b4, b5, b6⟩ := S
  rw [hc] at a5
  refine ⟨by omega, by omega, by omega, ?_, fun j hj => ?_, fun r k1 k2 k3 => (a6 r k1 k2).trans (b6 r k1 k2 k3)⟩
  · rw [a5, a1]
    exact b4
  · rw [a5]
    exact b5 j hj
/-- the codes behind one more -/
def zPu (h h' : Hp) (a b : Int) : Prop := fld h' 37 45 = fld h 37 45 + 1 ∧ (∀ j : Nat, fld h' (149 + fld h 37 47) j = if j = 2 * (fld h 37 45).toNat + 1 then b else if j = 2 * (fld h 37 45).toNat then a else fld h (149 + fld h 37 47) j) ∧ fld h' 37 42 = fld h 37 42 ∧ fld h' 37 44 = fld h 37 44 ∧ ∀ r : Int, 149 ≤ r → r ≤ 153 → r ≠ 149 + fld h 37 47 → fld h' r = fld h r
theorem zPu.of {a b : Int} (R : zMR ms270 h h1) (f1 : fld h1 37 45 = fld h 37 45 + 1) (f2 : ∀ j : Nat, fld h1 (149 + fld h 37 47) j = if j = 2 * (fld h 37 45).toNat + 1 then b else if j = 2 * (fld h 37 45).toNat then a else fld h (149 + fld h 37 47) j) (f3 : ∀ r : Int, 149 ≤ r → r ≤ 153 → r ≠ 149 + fld h 37 47 → fld h1 r = fld h r) : zPu h h1 a b := ⟨f1, f2, R.f1 42 (by decide +kernel), R.f1 44 (by decide +kernel), f3⟩
theorem zPS_push {a b : Int} (hk : 0 ≤ fld h 37 45) (N : zNu h h1) (hl : fld h 37 42 < fld h1 37 42) (P : zPu h1 h2 a b) (ha : a = 110 ∨ (a = 118 ∧ 0 ≤ b ∧ b ≤ 12)) : zPS h h2 := by
  obtain ⟨a1, a2, a3, a4, a5, a6⟩ := N
  obtain ⟨b1, b2, b3, b4, b5⟩ := P
  rw [a3, a1] at b2
  rw [a3] at b5
  refine ⟨by omega, by omega, by omega, ?_, fun j hj => ?_, fun r k1 k2 k3 => (b5 r k1 k2 k3).trans (a6 r k1 k2)⟩
  · rw [b1, a1, show (fld h 37 45 + 1).toNat = (fld h 37 45).toNat + 1 by omega]
    refine zsg_push ?_ (fun _ => ?_)
    · rw [b2, if_neg (by omega), if_pos rfl]
      omega
    · rename_i hz
      rw [b2, if_neg (by omega), if_pos rfl] at hz
      rw [b2, if_pos rfl]
      omega
  · rw [b2, if_neg (by omega), if_neg (by omega), a5]
theorem zPS_bin {a b : Int} (hk : 0 ≤ fld h 37 45) (hc : fld h1 37 47 = fld h 37 47) (S : zPS h h1) (N : zNu h1 h2) (hl : fld h1 37 42 < fld h2 37 42) (S2 : zPS h2 h3) (hc3 : fld h3 37 47 = fld h2 37 47) (P : zPu h3 h4 a b) (ha : a ≠ 110 ∧ a ≠ 118 ∧ a ≠ 33) : zPS h h4 := by
  obtain ⟨a1, a2, a3, a4, a5, a6⟩ := N
  obtain ⟨b1, b2, b3, b4, b5, b6⟩ := S
  obtain ⟨c1, c2, c3, c4, c5, c6⟩ := S2
  obtain ⟨d1, d2, d3, d4, d5⟩ := P
  rw [hc3, a3, hc] at d5
  rw [a3, hc] at c6
  rw [hc] at a5
  rw [a3, hc] at c4 c5
  rw [a1] at c4 c5
  rw [a5] at c5
  rw [hc3, a3, hc] at d2
  have hkk := b4.1
  have hkk2 := c4.1
  refine ⟨by omega, by omega, by omega, ?_, fun j hj => ?_, fun r k1 k2 k3 => (d5 r k1 k2 k3).trans ((c6 r k1 k2 k3).trans ((a6 r k1 k2).trans (b6 r k1 k2 k3)))⟩
  · rw [d1, show (fld h3 37 45 + 1).toNat = (fld h3 37 45).toNat + 1 by omega]
    have q1 : ∀ j, j < 2 * (fld h3 37 45).toNat → fld h3 (149 + fld h 37 47) j = fld h4 (149 + fld h 37 47) j := fun j hj => by rw [d2, if_neg (by omega), if_neg (by omega)]
    refine zsg_bin (m := (fld h1 37 45).toNat) (zsg_c b4 (fun j hj => ?_)) (zsg_c c4 q1) ?_
    · rw [← q1 j (by omega)]
      exact (c5 j hj).symm
    · rw [d2, if_neg (by omega), if_pos rfl]
      exact ha
  · rw [d2, if_neg (by omega), if_neg (by omega), c5 j (by omega), b5 j hj]
theorem zPS_not {b : Int} (hk : 0 ≤ fld h 37 45) (N : zNu h h1) (hl : fld h 37 42 < fld h1 37 42) (S2 : zPS h1 h2) (hc3 : fld h2 37 47 = fld h1 37 47) (P : zPu h2 h3 33 b) : zPS h h3 := by
  obtain ⟨a1, a2, a3, a4, a5, a6⟩ := N
  obtain ⟨c1, c2, c3, c4, c5, c6⟩ := S2
  obtain ⟨d1, d2, d3, d4, d5⟩ := P
  rw [hc3, a3] at d5
  rw [a3] at c6
  rw [a3] at c4 c5
  rw [a1] at c4 c5
  rw [a5] at c5
  rw [hc3, a3] at d2
  have hkk2 := c4.1
  refine ⟨by omega, by omega, by omega, ?_, fun j hj => ?_, fun r k1 k2 k3 => (d5 r k1 k2 k3).trans ((c6 r k1 k2 k3).trans (a6 r k1 k2))⟩
  · rw [d1, show (fld h2 37 45 + 1).toNat = (fld h2 37 45).toNat + 1 by omega]
    refine zsg_not (zsg_c c4 (fun j hj => ?_)) ?_
    · rw [d2, if_neg (by omega), if_neg (by omega)]
    · rw [d2, if_neg (by omega), if_pos rfl]
  · rw [d2, if_neg (by omega), if_neg (by omega), c5 j hj]
/-- what a part that stood keeps -/
theorem zPS.k (S : zPS h g) (R : zMR msP h g) : fld h 37 42 < fld g 37 42 ∧ fld g 37 45 - fld h 37 45 ≤ fld g 37 42 - fld h 37 42 ∧ fld g 37 44 = fld h 37 44 ∧ fld g 37 47 = fld h 37 47 ∧ fld g 37 41 = fld h 37 41 := ⟨S.1, S.2.1, S.2.2.1, R.f1 47 (by decide +kernel), R.f1 41 (by decide +kernel)⟩
theorem zMR.kp {ms : Zms} (R : zMR ms h g) (e : (zqN ms 37 37 41 42 && (zqN ms 37 37 45 46 && zqN ms 37 37 47 48)) = true) : fld g 37 41 = fld h 37 41 ∧ fld g 37 45 = fld h 37 45 ∧ fld g 37 47 = fld h 37 47 := by
  simp only [Bool.and_eq_true] at e
  exact ⟨R.f1 41 e.1, R.f1 45 e.2.1, R.f1 47 e.2.2⟩
end ZQ
