/-! both contracts of a call as one; the fed bytes -/
theorem uTx.feed {h h1 g : Hp} {n m : Nat} {a b c d e : Int} (P : uTx h) (x3 : fld h1 10 = fB5x (fld h 10) n a b c d e) (m3 : fld g 98 = fB5m (fld h1 98) m a b c d e) (q1 : fld h1 98 = fld h 98) (q2 : fld g 10 = fld h1 10) (hn : m = n) : uTx g := by
  subst hn
  have R : fRel (fld h 10) (fld h 98) := fun i hi => P i hi
  have R5 := R.st5 m a b c d e
  intro i hi
  have w := R5 i hi
  rw [q2, x3, m3, q1]
  exact w
theorem m30_u {sc : List Int} (h : Hp) (I : zI h) (t : pT) (n : Nat) (cc : Nat → Int) (hW : zCW h) (B : vB t n h) : zwC sc (max 233 233) 30 [(2, 37)] h (zwRt 0 (fun x g => zI g ∧ zMR ms30 h g ∧ (-2147483648 ≤ x ∧ x ≤ 2147483647) ∧ (zCW g) ∧ ((x = fld h 37 52 ∧ fld g 37 52 = fld h 37 52 + 1 ∧ fld g 37 41 = 0 ∧ pFa t n cc = -1 ∧ fld h 37 52 < 8) ∨ (x = -1 ∧ fld g 37 52 = fld h 37 52 ∧ fld g 37 41 = fld h 37 41 ∧ (8 ≤ fld h 37 52 ∨ pFa t n cc ≠ -1))) ∧ (zMs (pRead t n cc) (pFa t n cc) h g))) := by
  refine zwC_to (zwC_an2 (m30 h I hW) (m30_w h I t n cc B)) ?_
  rintro r g ⟨x, e, ⟨Ia, Ra, a0, a1⟩, ⟨_, _, _, b1, b2⟩⟩
  exact ⟨x, e, Ia, Ra, a0, a1, b1, b2⟩
theorem m32_u {sc : List Int} (h : Hp) (I : zI h) (a b : Int) (hW : zCW h) : zwC sc (max 2 2) 32 [(2, 37), (0, a), (0, b)] h (zwRt 0 (fun x g => zI g ∧ zMR ms32 h g ∧ (-2147483648 ≤ x ∧ x ≤ 2147483647) ∧ (zCW g) ∧ (((x = fld h 37 53 + 1) ∧ (fld g 37 53 = fld h 37 53 + 1) ∧ (0 ≤ a) ∧ (a < fld h 37 52) ∧ (fld h 37 0 ≤ b) ∧ (b ≤ 155) ∧ (fld h 37 53 < 12) ∧ (fld g 164 = zu (fld h 164) (fld h 37 53).toNat a) ∧ (fld g 165 = zu (fld h 165) (fld h 37 53).toNat b)) ∨ ((x = -1) ∧ (g = h) ∧ (a < 0 ∨ fld h 37 52 ≤ a ∨ b < fld h 37 0 ∨ 155 < b ∨ 12 ≤ fld h 37 53))))) := by
  refine zwC_to (zwC_an2 (m32 h I a b hW) (m32_w h I a b)) ?_
  rintro r g ⟨x, e, ⟨Ia, Ra, a0, a1⟩, ⟨_, _, _, b1⟩⟩
  exact ⟨x, e, Ia, Ra, a0, a1, b1⟩
theorem x19_c {sc : List Int} (h : Hp) (C : CI h) (a : Int) (S : zT) (q_a : -2147483648 ≤ a ∧ a ≤ 2147483647) (X0 : zX h S) (B0 : zBs S) (hl : h.length ≤ 999910000) : zwC sc (max 9 9) 19 [(2, 1), (0, a)] h (zwRt 0 (fun x g => CI g ∧ zXR msx19_s (0) (0) h g ∧ (-2147483648 ≤ x ∧ x ≤ 2147483647) ∧ (zKw h g) ∧ ((0 ≤ a ∧ a ≤ 26 ∧ x = min 156 (fld h 1 0 + a) ∧ fld g 1 0 = x ∧ zX g (yGo S a.toNat) ∧ zPf h g) ∨ (x = -1 ∧ g = h ∧ (a < 0 ∨ 26 < a))))) := by
  refine zwC_to (zwC_an2 (x19_s h C a S q_a X0 B0 hl) (x19_v h C a q_a hl)) ?_
  rintro r g ⟨x, e, ⟨Ca, Ra, a0, a1⟩, ⟨_, _, _, b1⟩⟩
  exact ⟨x, e, Ca, Ra, a0, b1, a1⟩
