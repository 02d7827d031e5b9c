/-! gifts that can be given: kept by every call -/
section YGF
variable {h g : Hp} {S T : zT} {a b c d s : Int} {ms : Zms}
theorem yGf.of (F : yGf S) (t96 : T 37 96 = S 37 96) (t2 : S 37 2 ≤ T 37 2) (t : ∀ a i : Nat, (a = 363 ∨ a = 364 ∨ a = 365) → (i : Int) < S 37 96 → T a i = S a i) : yGf T := by
  unfold yGf
  rw [t96]
  refine ⟨F.1, fun k hk => ?_⟩
  rw [t 363 k (Or.inl rfl) hk, t 364 k (Or.inr (Or.inl rfl)) hk, t 365 k (Or.inr (Or.inr rfl)) hk]
  have w := F.2 k hk
  omega
theorem yGf.fr (F : yGf (yM h)) (R : zXR ms c s h g) (e : (zqN ms 37 37 96 97 && (zqN ms 37 37 2 3 && zqN ms 363 365 0 8)) = true) : yGf (yM g) := by
  simp only [Bool.and_eq_true] at e
  obtain ⟨e1, e2, e3⟩ := e
  have f := F.1
  refine F.of ?_ ?_ ?_
  · exact R.f e1 (r := 37) (by first | decide | exact ⟨by decide, by decide⟩) (by first | decide | exact ⟨by decide, by decide⟩) (by first | decide | exact ⟨by decide, by decide⟩)
  · have w : fld g 37 2 = fld h 37 2 := R.f e2 (r := 37) (by first | decide | exact ⟨by decide, by decide⟩) (by first | decide | exact ⟨by decide, by decide⟩) (by first | decide | exact ⟨by decide, by decide⟩)
    show fld h 37 2 ≤ fld g 37 2
    omega
  · intro a i ha hi
    have hi8 : i < 8 := by omega
    have w : fld g (a : Int) i = fld h (a : Int) i := R.f e3 (by first | omega | exact ⟨by omega, by omega⟩) ⟨Nat.zero_le _, hi8⟩ (by first | omega | exact ⟨by omega, by omega⟩)
    rcases ha with rfl | rfl | rfl
    · rw [yM_p (a := 363) (n := 8) rfl hi8, yM_p (a := 363) (n := 8) rfl hi8]
      exact w
    · rw [yM_p (a := 364) (n := 8) rfl hi8, yM_p (a := 364) (n := 8) rfl hi8]
      exact w
    · rw [yM_p (a := 365) (n := 8) rfl hi8, yM_p (a := 365) (n := 8) rfl hi8]
      exact w
theorem yGf.gift (F : yGf S) : yGf (yGift S a b c) := by
  unfold yGift
  split
  · rename_i z
    have f := F.1
    refine ⟨by rw [zs_eq]; omega, fun k hk => ?_⟩
    rw [zs_eq] at hk
    by_cases z1 : k = (S 37 96).toNat
    · subst z1
      simp [zs_if]
      omega
    · have w := F.2 k (by omega)
      simp [zs_if, z1]
      omega
  · exact F
theorem yGf.forg : yGf (yForg S) := by
  unfold yForg
  refine ⟨by rw [zs_eq]; omega, fun k hk => ?_⟩
  rw [zs_eq] at hk
  omega
theorem yGf.hou (F : yGf S) : yGf (yHouF S a b) := by
  unfold yHouF
  split
  · rename_i z
    have z2 : S 37 2 < 20 := z.2.1
    unfold yHou
    refine F.of ?_ ?_ ?_
    · simp [zs_if]
    · simp [zs_if]
      omega
    · intro a i ha hi
      rcases ha with rfl | rfl | rfl <;> simp [zs_if]
  · exact F
theorem yGf_start (e : wkD h = true) : yGf (yM h) := by
  unfold wkD at e
  simp only [Bool.and_eq_true, List.all_eq_true] at e
  obtain ⟨e1, e2, e3, e4, e5⟩ := e
  have w : fld h 37 96 = 0 := of_decide_eq_true (e3 96 (by decide)).1
  have q : yM h 37 96 = 0 := w
  exact ⟨by omega, fun k hk => by omega⟩
end YGF
