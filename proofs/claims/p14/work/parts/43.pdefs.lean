/-! the model's parser: what a part of the grammar leaves in the codes -/
section ZP
variable {sc : List Int} {D y pc nx : Nat} {ls st : List Vl} {h h' g : Hp} {Q : Option Vl → Hp → Prop}
/-- from step k to step m the codes put one more on the stack, and never look below -/
def zsg (F : Nat → Int) (k m : Nat) : Prop := k < m ∧ zdp F m = zdp F k + 1 ∧ ∀ i : Nat, k ≤ i → i < m → (F (2 * i) = 118 → 0 ≤ F (2 * i + 1) ∧ F (2 * i + 1) ≤ 12) ∧ (F (2 * i) = 110 ∨ F (2 * i) = 118 ∨ (F (2 * i) = 33 ∧ zdp F k + 1 ≤ zdp F i) ∨ (F (2 * i) ≠ 33 ∧ zdp F k + 2 ≤ zdp F i))
theorem zsg_c {F G : Nat → Int} {k m : Nat} (H : zsg F k m) (hfg : ∀ j, j < 2 * m → F j = G j) : zsg G k m := by
  obtain ⟨h1, h2, h3⟩ := H
  refine ⟨h1, by rw [← zdp_c m hfg, ← zdp_c k (fun j hj => hfg j (by omega))]; exact h2, fun i hi1 hi2 => ?_⟩
  have := h3 i hi1 hi2
  rw [← hfg (2 * i) (by omega), ← hfg (2 * i + 1) (by omega), ← zdp_c k (fun j hj => hfg j (by omega)), ← zdp_c i (fun j hj => hfg j (by omega))]
  exact this
theorem zdp_s (F : Nat → Int) (k : Nat) : zdp F (k + 1) = if F (2 * k) = 110 ∨ F (2 * k) = 118 then zdp F k + 1 else if F (2 * k) = 33 then zdp F k else zdp F k - 1 := rfl
theorem zsg_push {F : Nat → Int} {k : Nat} (h1 : F (2 * k) = 110 ∨ F (2 * k) = 118) (h2 : F (2 * k) = 118 → 0 ≤ F (2 * k + 1) ∧ F (2 * k + 1) ≤ 12) : zsg F k (k + 1) := by
  refine ⟨by omega, by rw [zdp_s, if_pos h1], fun i hi1 hi2 => ?_⟩
  obtain rfl : i = k := by omega
  exact ⟨h2, by omega⟩
theorem zsg_bin {F : Nat → Int} {k m n : Nat} (H1 : zsg F k m) (H2 : zsg F m n) (h1 : F (2 * n) ≠ 110 ∧ F (2 * n) ≠ 118 ∧ F (2 * n) ≠ 33) : zsg F k (n + 1) := by
  obtain ⟨a1, a2, a3⟩ := H1
  obtain ⟨b1, b2, b3⟩ := H2
  refine ⟨by omega, ?_, fun i hi1 hi2 => ?_⟩
  · rw [zdp_s, if_neg (by omega), if_neg (by omega)]
    omega
  · by_cases c1 : i < m
    · exact a3 i hi1 c1
    · by_cases c2 : i < n
      · have := b3 i (by omega) c2
        refine ⟨this.1, ?_⟩
        have := this.2
        omega
      · obtain rfl : i = n := by omega
        exact ⟨fun z => absurd z h1.2.1, by omega⟩
theorem zsg_not {F : Nat → Int} {k m : Nat} (H1 : zsg F k m) (h1 : F (2 * m) = 33) : zsg F k (m + 1) := by
  obtain ⟨a1, a2, a3⟩ := H1
  refine ⟨by omega, ?_, fun i hi1 hi2 => ?_⟩
  · rw [zdp_s, if_neg (by omega), if_pos h1]
    omega
  · by_cases c1 : i < m
    · exact a3 i hi1 c1
    · obtain rfl : i = m := by omega
      exact ⟨fun z => by omega, by omega⟩
theorem zsg_ok {F : Nat → Int} {m : Nat} (H : zsg F 0 m) : zok F m := by
  obtain ⟨a1, a2, a3⟩ := H
  refine ⟨a2, fun k hk => ?_⟩
  have := a3 k (Nat.zero_le _) hk
  have z : zdp F 0 = 0 := rfl
  rw [z] at this
  exact ⟨this.1, by have := this.2; omega⟩
/-- at ≤ end0 ≤ textMany, and a token isn't empty -/
def zP0 (h : Hp) : Prop := fld h 37 42 ≤ fld h 37 43 ∧ fld h 37 43 ≤ fld h 37 41 ∧ (fld h 37 42 < fld h 37 41 → fld h 37 42 < fld h 37 43)
def msP : Zms := [(37, 37, 42, 47), (149, 153, 0, 840)]
/-- what stands behind a part of the grammar that stood -/
def zPS (h g : Hp) : Prop := fld h 37 42 < fld g 37 42 ∧ fld g 37 45 - fld h 37 45 ≤ fld g 37 42 - fld h 37 42 ∧ fld g 37 44 = fld h 37 44 ∧ zsg (fld g (149 + fld h 37 47)) (fld h 37 45).toNat (fld g 37 45).toNat ∧ (∀ j : Nat, j < 2 * (fld h 37 45).toNat → fld g (149 + fld h 37 47) j = fld h (149 + fld h 37 47) j) ∧ ∀ r : Int, 149 ≤ r → r ≤ 153 → r ≠ 149 + fld h 37 47 → fld g r = fld h r
def zPQ (h : Hp) (x : Int) (g : Hp) : Prop := zI g ∧ zMR msP h g ∧ zP0 g ∧ ((x = 1 ∧ zPS h g) ∨ (x = 0 ∧ 0 ≤ fld g 37 44))
def zPX (sc : List Int) (D y : Nat) (a : Int) : Prop := ∀ h : Hp, zI h → zP0 h → 0 ≤ fld h 37 47 → fld h 37 45 ≤ fld h 37 42 → zwC sc D y [(2, 37), (0, a)] h (zwRt 0 (zPQ h))
theorem zMR.f1 {ms : Zms} (R : zMR ms h g) (j : Nat) (e : zqN ms 37 37 j (j + 1) = true) : fld g 37 j = fld h 37 j := R.f e ⟨by decide, by decide⟩ ⟨Nat.le_refl _, Nat.lt_succ_self _⟩
theorem zP0.mr {ms : Zms} (H : zP0 h) (R : zMR ms h g) (e : zqN ms 37 37 41 44 = true) : zP0 g := by
  unfold zP0 at H ⊢
  rw [R.f e (r := 37) (j := 41) ⟨by decide, by decide⟩ ⟨by decide, by decide⟩, R.f e (r := 37) (j := 42) ⟨by decide, by decide⟩ ⟨by decide, by decide⟩, R.f e (r := 37) (j := 43) ⟨by decide, by decide⟩ ⟨by decide, by decide⟩]
  exact H
theorem puts_fact {h1 h2 h3 : Hp} {C a b z : Int} {k : Nat} (e1 : h1 = wr h C (2 * k) a) (e2 : h2 = wr h1 C (2 * k + 1) b) (e3 : h3 = wr h2 37 45 z) (hC : C ≠ 37) (s : sh h C = some (20, 840)) (hk : 2 * k + 1 < 840) (j : Nat) : fld h3 C j = if j = 2 * k + 1 then b else if j = 2 * k then a else fld h C j := by
  rw [e3, fld_wr (Or.inl hC), e2]
  by_cases q1 : j = 2 * k + 1
  · rw [if_pos q1, q1]
    exact fld_wr_eq (by rw [e1, sh_wr]; exact s) hk
  · rw [if_neg q1, fld_wr (Or.inr q1), e1]
    by_cases q2 : j = 2 * k
    · rw [if_pos q2, q2]
      exact fld_wr_eq s (by omega)
    · rw [if_neg q2, fld_wr (Or.inr q2)]
theorem puts_oth {h1 h2 h3 : Hp} {C a b z : Int} {i k : Nat} (e1 : h1 = wr h C i a) (e2 : h2 = wr h1 C k b) (e3 : h3 = wr h2 37 45 z) (r : Int) (k1 : 149 ≤ r) (hr : r ≠ C) : fld h3 r = fld h r := by
  funext j
  rw [e3, fld_wr (Or.inl (by omega)), e2, fld_wr (Or.inl hr), e1, fld_wr (Or.inl hr)]
end ZP
