/-! the week is told; what the price rows hold there comes after -/
section YNW
variable {h g : Hp} {S T : zT} {k n i j m a : Nat} {x y : Int}
def p57 (m n : Nat) (a i : Nat) : Prop := a = 57 ∧ i % 157 = m ∧ i / 157 < n
theorem yC_nowz {kd n : Nat} (C : CI h) (s' : sh h 1 = some (kd, n)) (hn : 0 < n) (e' : g = wr h 1 0 x) (hx : x = fld h 1 0 + 1) : zOf (p57 x.toNat (fld h 2 2).toNat) (yC g) (zs (yC h) 37 0 x) := fun b i np => by
  have key : ∀ (p : Int) (k : Nat), (p ≠ 1 ∨ k ≠ 0) → fld g p k = fld h p k := fun p k hn => by rw [e']; exact fld_wr hn
  have k1 : fld g 1 0 = x := by rw [e']; exact fld_wr_eq s' hn
  have hl := zv_wf C (r := 1) ⟨by decide, by decide⟩ (fun A hA => by
    unfold zLis at hA
    simp only [List.mem_cons, List.not_mem_nil, or_false] at hA
    omega) e'
  rw [zs_if]
  by_cases hb : b = 37 ∧ i = 0
  · rw [if_pos hb, hb.1, hb.2]
    exact k1
  · rw [if_neg hb]
    by_cases h57 : b = 57
    · subst h57
      show (if i < 1256 ∧ ((i / 157 : Nat) : Int) < fld g 2 2 ∧ ((i % 157 : Nat) : Int) ≤ fld g 1 0 then fld g (fld g (zv g 2 (i / 157)) 16) (i % 157) else 0) = (if i < 1256 ∧ ((i / 157 : Nat) : Int) < fld h 2 2 ∧ ((i % 157 : Nat) : Int) ≤ fld h 1 0 then fld h (fld h (zv h 2 (i / 157)) 16) (i % 157) else 0)
      obtain ⟨q2, q3⟩ := hl 2 (by omega)
      have q2 : fld g 2 2 = fld h 2 2 := q2
      rw [q2, k1]
      by_cases q : i < 1256 ∧ ((i / 157 : Nat) : Int) < fld h 2 2
      · obtain ⟨a1, a2, a3, a4⟩ := zV_g C q.2
        have e1 : fld g (fld g (zv g 2 (i / 157)) 16) (i % 157) = fld h (fld h (zv h 2 (i / 157)) 16) (i % 157) := by
          rw [q3 _ q.2, key (zv h 2 (i / 157)) 16 (Or.inl (by omega)), key (fld h (zv h 2 (i / 157)) 16) (i % 157) (Or.inl (by omega))]
        rw [e1]
        by_cases t : ((i % 157 : Nat) : Int) ≤ fld h 1 0
        · rw [if_pos ⟨q.1, q.2, by omega⟩, if_pos ⟨q.1, q.2, t⟩]
        · rw [if_neg (fun z : _ ∧ _ ∧ ((i % 157 : Nat) : Int) ≤ x => np ⟨rfl, by omega, by omega⟩), if_neg (fun z : _ ∧ _ ∧ ((i % 157 : Nat) : Int) ≤ fld h 1 0 => t z.2.2)]
      · rw [if_neg (fun z => q ⟨z.1, z.2.1⟩), if_neg (fun z => q ⟨z.1, z.2.1⟩)]
    · refine yC_pt (fun z1 z2 => key _ _ ?_) hl (fun _ => key _ _ (Or.inl (by omega))) (fun _ => key _ _ (Or.inl (by omega))) (fun z => absurd z h57) (fun _ => ⟨key _ _ (Or.inl (by omega)), fun _ => key _ _ (Or.inl (by omega))⟩) (fun z => key _ _ ?_) C (fun p k hp => key _ _ (Or.inl (by omega))) ?_
      · have hiq : i ≠ 0 := fun z => hb ⟨z1, z⟩
        rcases ySc_of z2 with w | rfl | rfl | rfl | rfl | rfl | w | rfl | rfl | rfl
        · have w : i = 1 ∨ i = 2 := by omega
          rcases w with rfl | rfl <;> decide
        · decide
        · decide
        · decide
        · decide
        · decide
        · have w : i = 69 ∨ i = 70 ∨ i = 71 := by omega
          rcases w with rfl | rfl | rfl <;> decide
        · decide
        · decide
        · decide
      · left
        rcases yK_9 z with rfl | rfl | rfl | rfl | rfl <;> decide
      · exact yM_st (fun k _ => key _ _ (Or.inl (by omega))) (fun k _ => key _ _ (Or.inl (by omega))) (fun b k hk => key _ _ (Or.inl (by have := yM_wh hk; omega)))
theorem yBg1_o (H : zOf (p57 m n) S T) : ∀ k : Nat, k ≤ n → zOf (fun a i => p57 m n a i ∧ k ≤ i / 157) (yBg1 S m k) (yBg1 T m k)
  | 0, _ => fun a i e => H a i (fun z => e ⟨z, Nat.zero_le _⟩)
  | k + 1, hk => fun a i e => by
    have ih := yBg1_o H k (by omega)
    have e7 : yBg1 S m k 71 k = yBg1 T m k 71 k := ih 71 k (fun z => absurd z.1.1 (by decide))
    rw [yBg1_s, yBg1_s, zs_if, zs_if, e7]
    by_cases c : a = 57 ∧ i = 157 * k + m
    · rw [if_pos c, if_pos c]
    · rw [if_neg c, if_neg c]
      exact ih a i (fun z => e ⟨z.1, by have := z.1.1; have := z.1.2.1; have := z.2; omega⟩)
theorem yBgA_o (H : zOf (p57 m n) S T) (hm : m = (T 37 0).toNat) (hn : n = (T 37 1).toNat) : yBgA S = yBgA T := by
  have n37 : ∀ i, ¬p57 m n 37 i := fun i z => absurd z.1 (by decide)
  have q : yBg1 S m n = yBg1 T m n := funext fun a => funext fun i => yBg1_o H n (Nat.le_refl _) a i (fun z => by have := z.1.2.2; have := z.2; omega)
  unfold yBgA
  rw [H 37 0 (n37 0), H 37 1 (n37 1), H 37 2 (n37 2), ← hm, ← hn, q]
end YNW
