/-! the model's road: both ways are written -/
theorem zDw {h h1 h2 : Hp} {a b c : Int} (e1 : h1 = wr h (48 + a) b.toNat c) (e2 : h2 = wr h1 (48 + b) a.toNat c) (s1 : sh h (48 + a) = some (20, 8)) (s2 : sh h1 (48 + b) = some (20, 8)) (ha : 0 ≤ a ∧ a < 8) (hb : 0 ≤ b ∧ b < 8) (hne : a ≠ b) : ∀ p q : Nat, p < 8 → q < 8 → fld h2 (48 + (p : Int)) q = if (p = a.toNat ∧ q = b.toNat) ∨ (p = b.toNat ∧ q = a.toNat) then c else fld h (48 + (p : Int)) q := by
  intro p q hp hq
  by_cases z2 : p = b.toNat ∧ q = a.toNat
  · rw [if_pos (Or.inr z2), z2.2, show (48 + (p : Int)) = 48 + b by omega, e2]
    exact fld_wr_eq s2 (by omega)
  · rw [e2, fld_wr (by omega)]
    by_cases z1 : p = a.toNat ∧ q = b.toNat
    · rw [if_pos (Or.inl z1), z1.2, show (48 + (p : Int)) = 48 + a by omega, e1]
      exact fld_wr_eq s1 (by omega)
    · rw [e1, fld_wr (by omega), if_neg (by omega)]
