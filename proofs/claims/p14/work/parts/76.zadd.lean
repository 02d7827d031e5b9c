/-! what changes in the tables: a field, an array's place, a new entry -/
section ZAD
variable {h h' h1 h2 g : Hp} {ms ms' : Zms} {c s c' s' : Int}
theorem zQS.nil : zQS [] h := fun e he => by cases he
theorem zQS.cons {a1 j1 a2 j2 : Nat} {L : List (Nat × Nat × Nat × Nat)} (p : fld h a1 j1 = fld h a2 j2) (q : zQS L h) : zQS ((a1, j1, a2, j2) :: L) h := by
  intro e he
  rcases List.mem_cons.mp he with rfl | he
  · exact p
  · exact q e he
theorem zNM.nil : zNM [] h := fun e he => by cases he
theorem zNM.cons {A : Nat} {L : List Nat} (p : ∀ i : Nat, (i : Int) < fld h A 2 → fld h (zv h A i) 0 = i) (q : zNM L h) : zNM (A :: L) h := by
  intro e he
  rcases List.mem_cons.mp he with rfl | he
  · exact p
  · exact q e he
theorem zFL.nil : zFL [] h := fun e he => by cases he
theorem zFL.cons {A j a : Nat} {L : List (Nat × Nat × Nat)} (p : zF1 A j a h) (q : zFL L h) : zFL ((A, j, a) :: L) h := by
  intro e he
  rcases List.mem_cons.mp he with rfl | he
  · exact p
  · exact q e he
theorem zZL.nil : zZL [] h := fun e he => by cases he
theorem zZL.cons {A a : Nat} {L : List (Nat × Nat)} (p : zZ1 A a h) (q : zZL L h) : zZL ((A, a) :: L) h := by
  intro e he
  rcases List.mem_cons.mp he with rfl | he
  · exact p
  · exact q e he
theorem zRL.nil : zRL [] h := fun e he => by cases he
theorem zRL.cons {A j B a : Nat} {L : List (Nat × Nat × Nat × Nat)} (p : zR1 A j B a h) (q : zRL L h) : zRL ((A, j, B, a) :: L) h := by
  intro e he
  rcases List.mem_cons.mp he with rfl | he
  · exact p
  · exact q e he
theorem zFL.at {L : List (Nat × Nat × Nat)} (P : zFL L h) {A j a : Nat} (e : L.contains (A, j, a) = true) : zF1 A j a h := by
  rw [List.contains_iff_mem] at e
  exact P _ e
theorem zZL.at {L : List (Nat × Nat)} (P : zZL L h) {A a : Nat} (e : L.contains (A, a) = true) : zZ1 A a h := by
  rw [List.contains_iff_mem] at e
  exact P _ e
theorem zRL.at {L : List (Nat × Nat × Nat × Nat)} (P : zRL L h) {A j B a : Nat} (e : L.contains (A, j, B, a) = true) : zR1 A j B a h := by
  rw [List.contains_iff_mem] at e
  exact P _ e
theorem zNM.at {L : List Nat} (P : zNM L h) {A : Nat} (e : L.contains A = true) : ∀ i : Nat, (i : Int) < fld h A 2 → fld h (zv h A i) 0 = i := by
  rw [List.contains_iff_mem] at e
  exact P _ e
theorem zQS.at {L : List (Nat × Nat × Nat × Nat)} (P : zQS L h) {a1 j1 a2 j2 : Nat} (e : L.contains (a1, j1, a2, j2) = true) : fld h a1 j1 = fld h a2 j2 := by
  rw [List.contains_iff_mem] at e
  exact P _ e
/-- zeros behind a list's end: a place before it is written -/
theorem zZ1.up {A a k : Nat} {x : Int} (R : zXR ms c s h h1) (S : zXR ms' c' s' h1 g) (P : zZ1 A a h) (e1 : (zl7 A && (zka a && (zun ms A && zua ms a (zmN A)))) = true) (e2 : zun ms' A = true) (hk : (k : Int) < fld h A 2) (m : ∀ i : Nat, fld g a i = if i = k then x else fld h1 a i) : zZ1 A a g := by
  simp only [Bool.and_eq_true] at e1
  obtain ⟨k1, k0, k2, k4⟩ := e1
  have hA := zl7_of k1
  intro i hi hm
  rw [S.vz hA e2, R.vz hA k2] at hi
  rw [m i, if_neg (by omega), R.a k4 (zka_of k0) (show i < zmN A by unfold zmN; omega)]
  exact P i hi hm
/-- a list has one entry more -/
def zAd (A : Nat) (h h1 : Hp) (r : Int) : Prop := fld h1 A 2 = fld h A 2 + 1 ∧ (365 < r ∧ zG A h1 r) ∧ (∀ i : Nat, (i : Int) < fld h A 2 → zv h1 A i = zv h A i) ∧ zv h1 A (fld h A 2).toNat = r
/-- an entry of the grown list is an old one or the new one -/
theorem zAd.cs {A : Nat} {r : Int} (D : zAd A h h1 r) (C : CI h) (hA : A ∈ zLis) {i : Nat} (hi : (i : Int) < fld h1 A 2) : ((i : Int) < fld h A 2 ∧ zv h1 A i = zv h A i) ∨ ((i : Int) = fld h A 2 ∧ zv h1 A i = r) := by
  have hb := zLis_b C hA
  rw [D.1] at hi
  by_cases z : (i : Int) < fld h A 2
  · exact Or.inl ⟨z, D.2.2.1 i z⟩
  · refine Or.inr ⟨by omega, ?_⟩
    rw [← D.2.2.2]
    congr 1
    omega
theorem zNM.ad {A : Nat} {r : Int} (C : CI h) (C1 : CI h1) (R : zXR ms c s h h1) (S : zXR ms' c' s' h1 g) (D : zAd A h h1 r) (P : ∀ i : Nat, (i : Int) < fld h A 2 → fld h (zv h A i) 0 = i) (e1 : (zl7 A && zqN ms (1000 + zkd A) (1000 + zkd A) 0 1) = true) (e2 : (zun ms' A && zqN ms' (1000 + zkd A) (1000 + zkd A) 0 1) = true) (f : fld h1 r 0 = fld h A 2) : ∀ i : Nat, (i : Int) < fld g A 2 → fld g (zv g A i) 0 = i := by
  simp only [Bool.and_eq_true] at e1 e2
  obtain ⟨k1, k3⟩ := e1
  obtain ⟨k5, k6⟩ := e2
  have hA := zl7_of k1
  intro i hi
  rw [S.vz hA k5] at hi
  rw [S.v C1 hA k5 hi, S.vf C1 hA k6 hi]
  rcases D.cs C hA hi with ⟨z, e⟩ | ⟨z, e⟩
  · rw [e, R.vf C hA k3 z]
    exact P i z
  · rw [e, f, z]
theorem zF1.ad {A j a k : Nat} {r x x' : Int} (C : CI h) (C1 : CI h1) (R : zXR ms c s h h1) (S : zXR ms' c' s' h1 g) (D : zAd A h h1 r) (P : zF1 A j a h) (e1 : (zl7 A && (zka a && (zqN ms (1000 + zkd A) (1000 + zkd A) j (j + 1) && zua ms a (zmN A)))) = true) (e2 : (zun ms' A && zqN ms' (1000 + zkd A) (1000 + zkd A) j (j + 1)) = true) (f : fld h1 r j = x) (m : ∀ i : Nat, fld g a i = if i = k then x' else fld h1 a i) (hk : (k : Int) = fld h A 2) (hx : x = x') : zF1 A j a g := by
  simp only [Bool.and_eq_true] at e1 e2
  obtain ⟨k1, k0, k3, k4⟩ := e1
  obtain ⟨k5, k6⟩ := e2
  have hA := zl7_of k1
  intro i hi
  rw [S.vz hA k5] at hi
  rw [S.v C1 hA k5 hi, S.vf C1 hA k6 hi, m i]
  rcases D.cs C hA hi with ⟨z, e⟩ | ⟨z, e⟩
  · rw [e, R.vf C hA k3 z, if_neg (by omega), R.a k4 (zka_of k0) (zmN_of C hA z)]
    exact P i z
  · rw [e, f, if_pos (by omega), hx]
/-- the model's array was 0 there -/
theorem zF1.ad0 {A j a : Nat} {r : Int} (C : CI h) (C1 : CI h1) (R : zXR ms c s h h1) (S : zXR ms' c' s' h1 g) (D : zAd A h h1 r) (P : zF1 A j a h) (Z : zZ1 A a h) (e1 : (zl7 A && (zka a && (zqN ms (1000 + zkd A) (1000 + zkd A) j (j + 1) && zua ms a (zmN A)))) = true) (e2 : (zun ms' A && (zua ms' a (zmN A) && zqN ms' (1000 + zkd A) (1000 + zkd A) j (j + 1))) = true) (f : fld h1 r j = 0) : zF1 A j a g := by
  simp only [Bool.and_eq_true] at e1 e2
  obtain ⟨k1, k0, k3, k4⟩ := e1
  obtain ⟨k5, k7, k6⟩ := e2
  have hA := zl7_of k1
  have hb := zLis_b C1 hA
  have hd := D.1
  intro i hi
  rw [S.vz hA k5] at hi
  have hm : i < zmN A := by unfold zmN; omega
  rw [S.v C1 hA k5 hi, S.vf C1 hA k6 hi, S.a k7 (zka_of k0) hm, R.a k4 (zka_of k0) hm]
  rcases D.cs C hA hi with ⟨z, e⟩ | ⟨z, e⟩
  · rw [e, R.vf C hA k3 z]
    exact P i z
  · rw [e, f]
    exact (Z i (by omega) (by omega)).symm
theorem zZ1.ad {A a : Nat} {r : Int} (C : CI h) (R : zXR ms c s h h1) (S : zXR ms' c' s' h1 g) (D : zAd A h h1 r) (Z : zZ1 A a h) (e1 : (zl7 A && (zka a && zua ms a (zmN A))) = true) (e2 : (zun ms' A && zua ms' a (zmN A)) = true) : zZ1 A a g := by
  simp only [Bool.and_eq_true] at e1 e2
  obtain ⟨k1, k0, k4⟩ := e1
  obtain ⟨k5, k7⟩ := e2
  have hA := zl7_of k1
  have hd := D.1
  intro i hi hm
  rw [S.vz hA k5] at hi
  have hm2 : i < zmN A := by unfold zmN; omega
  rw [S.a k7 (zka_of k0) hm2, R.a k4 (zka_of k0) hm2]
  exact Z i (by omega) hm
/-- entries of A tell entries of B: A has one more -/
theorem zR1.ad {A j B a k : Nat} {r : Int} {x : Nat} (C : CI h) (C1 : CI h1) (R : zXR ms c s h h1) (S : zXR ms' c' s' h1 g) (D : zAd A h h1 r) (P : zR1 A j B a h) (e1 : (zl7 A && (zl7 B && (zka a && (zqN ms (1000 + zkd A) (1000 + zkd A) j (j + 1) && (zua ms a (zmN A) && zun ms B))))) = true) (e2 : (zun ms' A && (zun ms' B && zqN ms' (1000 + zkd A) (1000 + zkd A) j (j + 1))) = true) (hx : (x : Int) < fld h B 2) (f : fld h1 r j = zv h B x) (m : ∀ i : Nat, fld g a i = if i = k then (x : Int) else fld h1 a i) (hk : (k : Int) = fld h A 2) : zR1 A j B a g := by
  simp only [Bool.and_eq_true] at e1 e2
  obtain ⟨k1, k8, k0, k3, k4, k9⟩ := e1
  obtain ⟨k5, k7, k6⟩ := e2
  have hA := zl7_of k1
  have hB := zl7_of k8
  have sB : fld g B 2 = fld h B 2 := (S.vz hB k7).trans (R.vz hB k9)
  have vB : ∀ i : Nat, (i : Int) < fld h B 2 → zv g B i = zv h B i := fun i hi => (S.v C1 hB k7 (by rw [R.vz hB k9]; exact hi)).trans (R.v C hB k9 hi)
  intro i hi
  rw [S.vz hA k5] at hi
  rw [S.v C1 hA k5 hi, S.vf C1 hA k6 hi, m i, sB]
  rcases D.cs C hA hi with ⟨z, e⟩ | ⟨z, e⟩
  · rw [e, R.vf C hA k3 z, if_neg (by omega), R.a k4 (zka_of k0) (zmN_of C hA z)]
    have p := P i z
    exact ⟨p.1, p.2.1, p.2.2.trans (vB _ (by omega)).symm⟩
  · rw [e, f, if_pos (by omega), vB _ (by omega)]
    exact ⟨by omega, hx, rfl⟩
/-- B has one more -/
theorem zR1.adB {A j B a : Nat} {r : Int} (C : CI h) (C1 : CI h1) (R : zXR ms c s h h1) (S : zXR ms' c' s' h1 g) (D : zAd B h h1 r) (P : zR1 A j B a h) (e1 : (zl7 A && (zl7 B && (zka a && (zqN ms (1000 + zkd A) (1000 + zkd A) j (j + 1) && (zua ms a (zmN A) && zun ms A))))) = true) (e2 : (zun ms' A && (zun ms' B && (zua ms' a (zmN A) && zqN ms' (1000 + zkd A) (1000 + zkd A) j (j + 1)))) = true) : zR1 A j B a g := by
  simp only [Bool.and_eq_true] at e1 e2
  obtain ⟨k1, k8, k0, k3, k4, k9⟩ := e1
  obtain ⟨k5, k7, k10, k6⟩ := e2
  have hA := zl7_of k1
  have hB := zl7_of k8
  have hd := D.1
  intro i hi
  rw [S.vz hA k5] at hi
  rw [S.v C1 hA k5 hi, S.vf C1 hA k6 hi]
  rw [R.vz hA k9] at hi
  have hm := zmN_of C hA hi
  have p := P i hi
  rw [R.v C hA k9 hi, R.vf C hA k3 hi, S.a k10 (zka_of k0) hm, R.a k4 (zka_of k0) hm, S.vz hB k7]
  have hx : ((fld h a i).toNat : Int) < fld h B 2 := by omega
  refine ⟨p.1, by omega, p.2.2.trans ?_⟩
  rw [S.v C1 hB k7 (by omega)]
  exact (D.2.2.1 _ hx).symm
end ZAD
