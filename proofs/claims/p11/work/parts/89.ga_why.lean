/-! which of the sheets in force counts -/
section WY
variable {fs ff : Nat → Int} {Lc : Int → Int} {w z K : Int} {k n : Nat}
/-- the place in the row of those in force, after so many of them -/
def pBw (fs ff : Nat → Int) (Lc : Int → Int) (w : Int) : Nat → Int
  | 0 => -1
  | k + 1 => if ff k ≤ w ∧ 0 < Lc (fs k) ∧ (pBw fs ff Lc w k = -1 ∨ ff (pBw fs ff Lc w k).toNat ≤ ff k) then (k : Int) else pBw fs ff Lc w k
def pWhy (fs ff : Nat → Int) (Lc : Int → Int) (w : Int) (n : Nat) : Int := if pBw fs ff Lc w n = -1 then -1 else fs (pBw fs ff Lc w n).toNat
theorem pBw_t (hz : z = pBw fs ff Lc w k) (hk : K = (k : Int)) (c1 : ff k ≤ w) (c2 : 0 < Lc (fs k)) (c3 : z = -1 ∨ ff z.toNat ≤ ff k) : K = pBw fs ff Lc w (k + 1) := by
  subst hz
  exact hk.trans (if_pos ⟨c1, c2, c3⟩).symm
theorem pBw_f (hz : z = pBw fs ff Lc w k) (c : ¬ (ff k ≤ w ∧ 0 < Lc (fs k) ∧ (z = -1 ∨ ff z.toNat ≤ ff k))) : z = pBw fs ff Lc w (k + 1) := by
  subst hz
  exact (if_neg c).symm
theorem pBw_b : ∀ n : Nat, -1 ≤ pBw fs ff Lc w n ∧ pBw fs ff Lc w n < n
  | 0 => ⟨Int.le_refl _, by show (-1 : Int) < ((0 : Nat) : Int); omega⟩
  | n + 1 => by
    have q := pBw_b n
    show -1 ≤ (if _ then _ else _) ∧ (if _ then _ else _) < _
    split <;> omega
theorem pWhy_n (hz : z = pBw fs ff Lc w n) (c : z = -1) : -1 = pWhy fs ff Lc w n := by
  unfold pWhy
  rw [← hz, if_pos c]
theorem pWhy_y (hz : z = pBw fs ff Lc w n) (c : z ≠ -1) : fs z.toNat = pWhy fs ff Lc w n := by
  unfold pWhy
  rw [← hz, if_neg c]
/-- the same of other rows that agree -/
theorem pBw_cg {fs2 ff2 : Nat → Int} {Lc2 : Int → Int} : ∀ n : Nat, (∀ k, k < n → ff k = ff2 k ∧ (0 < Lc (fs k) ↔ 0 < Lc2 (fs2 k))) → pBw fs ff Lc w n = pBw fs2 ff2 Lc2 w n
  | 0, _ => rfl
  | n + 1, H => by
    have q := pBw_cg n (fun k hk => H k (by omega))
    have b := pBw_b (fs := fs2) (ff := ff2) (Lc := Lc2) (w := w) n
    obtain ⟨h1, h2⟩ := H n (by omega)
    show (if _ then _ else _) = (if _ then _ else _)
    rw [q, h1]
    by_cases z : pBw fs2 ff2 Lc2 w n = -1
    · simp only [z, true_or, and_true, h2]
    · rw [(H (pBw fs2 ff2 Lc2 w n).toNat (by omega)).1]
      simp only [h2]
end WY
