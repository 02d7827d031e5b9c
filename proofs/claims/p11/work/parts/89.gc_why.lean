/-! which of the sheets in force counts: the class's search -/
section WY
variable {h : Hp} {a b r w : Int} {k : Nat}
/-- what is in force, in the class as in the model -/
def zFrc (h : Hp) (a : Int) : Prop := ∀ k : Nat, (k : Int) < fld h 13 1 → 365 < fld h 15 k ∧ fld h 16 k = fld h 165 k ∧ 0 ≤ fld h 165 k ∧ (fld h (fld h (fld h 15 k) 2) a.toNat ≠ -1 ↔ 0 < fld h (155 + fld h 164 k) a.toNat)
def zBw (h : Hp) (a b : Int) (n : Nat) : Int := pBw (fld h 164) (fld h 165) (fun s => fld h (155 + s) a.toNat) b n
def zFi (h : Hp) (a b r w : Int) (n : Nat) : Prop := (zBw h a b n = -1 ∧ r = 0 ∧ w = 0) ∨ (0 ≤ zBw h a b n ∧ r = fld h 15 (zBw h a b n).toNat ∧ w = fld h 165 (zBw h a b n).toNat ∧ 365 < r)
theorem zFi_0 : zFi h a b 0 0 0 := Or.inl ⟨rfl, rfl, rfl⟩
theorem zFi_t (F : zFrc h a) (H : zFi h a b r w k) (hk : (k : Int) < fld h 13 1) (c1 : fld h 16 k ≤ b) (c2 : w ≤ fld h 16 k) (c3 : fld h (fld h (fld h 15 k) 2) a.toNat ≠ -1) : zFi h a b (fld h 15 k) (fld h 16 k) (k + 1) := by
  obtain ⟨f1, f2, f3, f4⟩ := F k hk
  have e : zBw h a b (k + 1) = (k : Int) := (pBw_t (z := zBw h a b k) rfl rfl (by omega) (f4.mp c3) (by
    rcases H with ⟨z1, z2, z3⟩ | ⟨z1, z2, z3, z4⟩
    · exact Or.inl z1
    · exact Or.inr (by omega))).symm
  refine Or.inr ⟨by omega, ?_, ?_, f1⟩
  · rw [e, Int.toNat_natCast]
  · rw [e, Int.toNat_natCast, f2]
theorem zFi_f (F : zFrc h a) (H : zFi h a b r w k) (hk : (k : Int) < fld h 13 1) (c : b < fld h 16 k ∨ fld h 16 k < w ∨ fld h (fld h (fld h 15 k) 2) a.toNat = -1) : zFi h a b r w (k + 1) := by
  obtain ⟨f1, f2, f3, f4⟩ := F k hk
  have e : zBw h a b (k + 1) = zBw h a b k := (pBw_f (z := zBw h a b k) rfl (by
    rintro ⟨c1, c2, c3⟩
    rcases c with c | c | c
    · omega
    · rcases H with ⟨z1, z2, z3⟩ | ⟨z1, z2, z3, z4⟩
      · omega
      · have c3 : zBw h a b k = -1 ∨ fld h 165 (zBw h a b k).toNat ≤ fld h 165 k := c3
        omega
    · exact f4.mpr c2 c)).symm
  unfold zFi
  rw [e]
  exact H
end WY
