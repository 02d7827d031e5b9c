/-! a list gets an entry more: the tables -/
section YA
variable {h h1 g : Hp} {A B a i k n m : Nat} {x r : Int} {l : List Int} {S : zT}
theorem yK_1 (e : yK a = 1) : a = 37 := by
  cases c1 : Nat.beq a 37 with
  | true => exact Nat.eq_of_beq_eq_true c1
  | false =>
    exfalso
    unfold yK at e
    rw [c1] at e
    revert e
    cases Nat.beq a 39 <;> cases Nat.beq a 48 <;> cases Nat.beq a 57 <;> cases Nat.beq a 98 <;> cases Nat.beq a 164 <;> cases Nat.beq a 186 <;> cases (Nat.beq a 8 || (Nat.beq a 101 || Nat.beq a 155)) <;> cases Nat.beq (yFx a) 0 <;> cases Nat.beq (yRA a).1 0 <;> cases Nat.beq (yFA a) 0 <;> decide
theorem yK_2 (e : yK a = 2) : a = 39 := by
  cases c1 : Nat.beq a 39 with
  | true => exact Nat.eq_of_beq_eq_true c1
  | false =>
    exfalso
    unfold yK at e
    rw [c1] at e
    revert e
    cases Nat.beq a 37 <;> cases Nat.beq a 48 <;> cases Nat.beq a 57 <;> cases Nat.beq a 98 <;> cases Nat.beq a 164 <;> cases Nat.beq a 186 <;> cases (Nat.beq a 8 || (Nat.beq a 101 || Nat.beq a 155)) <;> cases Nat.beq (yFx a) 0 <;> cases Nat.beq (yRA a).1 0 <;> cases Nat.beq (yFA a) 0 <;> decide
theorem yK_4 (e : yK a = 4) : a = 57 := by
  cases c1 : Nat.beq a 57 with
  | true => exact Nat.eq_of_beq_eq_true c1
  | false =>
    exfalso
    unfold yK at e
    rw [c1] at e
    revert e
    cases Nat.beq a 37 <;> cases Nat.beq a 39 <;> cases Nat.beq a 48 <;> cases Nat.beq a 98 <;> cases Nat.beq a 164 <;> cases Nat.beq a 186 <;> cases (Nat.beq a 8 || (Nat.beq a 101 || Nat.beq a 155)) <;> cases Nat.beq (yFx a) 0 <;> cases Nat.beq (yRA a).1 0 <;> cases Nat.beq (yFA a) 0 <;> decide
theorem yFA_c : (yFA a = 2 ∧ 65 ≤ a ∧ a ≤ 78) ∨ (yFA a = 3 ∧ 80 ≤ a ∧ a ≤ 96) ∨ (yFA a = 4 ∧ 171 ≤ a ∧ a ≤ 175) ∨ (yFA a = 5 ∧ 182 ≤ a ∧ a ≤ 185) ∨ yFA a = 0 := by
  unfold yFA
  cases c1 : (Nat.ble 65 a && Nat.ble a 78) with
  | true => rw [Bool.and_eq_true] at c1; exact Or.inl ⟨rfl, Nat.le_of_ble_eq_true c1.1, Nat.le_of_ble_eq_true c1.2⟩
  | false =>
  cases c2 : (Nat.ble 80 a && Nat.ble a 96) with
  | true => rw [Bool.and_eq_true] at c2; exact Or.inr (Or.inl ⟨rfl, Nat.le_of_ble_eq_true c2.1, Nat.le_of_ble_eq_true c2.2⟩)
  | false =>
  cases c3 : (Nat.ble 171 a && Nat.ble a 175) with
  | true => rw [Bool.and_eq_true] at c3; exact Or.inr (Or.inr (Or.inl ⟨rfl, Nat.le_of_ble_eq_true c3.1, Nat.le_of_ble_eq_true c3.2⟩))
  | false =>
  cases c4 : (Nat.ble 182 a && Nat.ble a 185) with
  | true => rw [Bool.and_eq_true] at c4; exact Or.inr (Or.inr (Or.inr (Or.inl ⟨rfl, Nat.le_of_ble_eq_true c4.1, Nat.le_of_ble_eq_true c4.2⟩)))
  | false => exact Or.inr (Or.inr (Or.inr (Or.inr rfl)))
theorem yRA_c : (yRA a = (3, 1, 2) ∧ a = 79) ∨ (yRA a = (4, 1, 3) ∧ a = 170) ∨ (yRA a = (5, 0, 4) ∧ a = 180) ∨ (yRA a = (5, 1, 3) ∧ a = 181) ∨ yRA a = (0, 0, 0) := by
  cases c1 : Nat.beq a 79 with
  | true => obtain rfl := Nat.eq_of_beq_eq_true c1; exact Or.inl ⟨rfl, rfl⟩
  | false =>
  cases c2 : Nat.beq a 170 with
  | true => obtain rfl := Nat.eq_of_beq_eq_true c2; exact Or.inr (Or.inl ⟨rfl, rfl⟩)
  | false =>
  cases c3 : Nat.beq a 180 with
  | true => obtain rfl := Nat.eq_of_beq_eq_true c3; exact Or.inr (Or.inr (Or.inl ⟨rfl, rfl⟩))
  | false =>
  cases c4 : Nat.beq a 181 with
  | true => obtain rfl := Nat.eq_of_beq_eq_true c4; exact Or.inr (Or.inr (Or.inr (Or.inl ⟨rfl, rfl⟩)))
  | false =>
    refine Or.inr (Or.inr (Or.inr (Or.inr ?_)))
    unfold yRA
    rw [c1, c2, c3, c4]
    rfl
theorem ySr_c : (ySr i = (2, 2) ∧ i = 1) ∨ (ySr i = (3, 2) ∧ i = 2) ∨ (ySr i = (4, 2) ∧ i = 64) ∨ (ySr i = (5, 2) ∧ i = 78) ∨ (0 < (ySr i).1 ∧ (ySr i).1 ≤ 365 ∧ (ySr i).1 ≠ 2 ∧ (ySr i).1 ≠ 3 ∧ (ySr i).1 ≠ 4 ∧ (ySr i).1 ≠ 5) := by
  cases c1 : Nat.beq i 1 with
  | true => obtain rfl := Nat.eq_of_beq_eq_true c1; exact Or.inl ⟨rfl, rfl⟩
  | false =>
  cases c2 : Nat.beq i 2 with
  | true => obtain rfl := Nat.eq_of_beq_eq_true c2; exact Or.inr (Or.inl ⟨rfl, rfl⟩)
  | false =>
  cases c3 : Nat.beq i 64 with
  | true => obtain rfl := Nat.eq_of_beq_eq_true c3; exact Or.inr (Or.inr (Or.inl ⟨rfl, rfl⟩))
  | false =>
  cases c4 : Nat.beq i 78 with
  | true => obtain rfl := Nat.eq_of_beq_eq_true c4; exact Or.inr (Or.inr (Or.inr (Or.inl ⟨rfl, rfl⟩)))
  | false =>
    refine Or.inr (Or.inr (Or.inr (Or.inr ?_)))
    have w : ∀ (b : Bool) (u v : Nat × Nat), (0 < u.1 ∧ u.1 ≤ 365 ∧ u.1 ≠ 2 ∧ u.1 ≠ 3 ∧ u.1 ≠ 4 ∧ u.1 ≠ 5) → (0 < v.1 ∧ v.1 ≤ 365 ∧ v.1 ≠ 2 ∧ v.1 ≠ 3 ∧ v.1 ≠ 4 ∧ v.1 ≠ 5) → (0 < (cond b u v).1 ∧ (cond b u v).1 ≤ 365 ∧ (cond b u v).1 ≠ 2 ∧ (cond b u v).1 ≠ 3 ∧ (cond b u v).1 ≠ 4 ∧ (cond b u v).1 ≠ 5) := fun b u v p q => by
      cases b
      · exact q
      · exact p
    unfold ySr
    rw [c1, c2, c3, c4]
    simp only [cond_false]
    exact w _ _ _ (by decide) (w _ _ _ (by decide) (w _ _ _ (by decide) (w _ _ _ (by decide) (w _ _ _ (by decide) (w _ _ _ (by decide) (w _ _ _ (by decide) (w _ _ _ (by decide) (w _ _ _ (by decide) (by decide)))))))))
/-- what an entry more in list A touches -/
def yTch (A a i n : Nat) : Prop := (yK a = 1 ∧ (ySr i).1 = A) ∨ (yK a = 11 ∧ yFA a = A ∧ i = n) ∨ (yK a = 10 ∧ (yRA a).1 = A ∧ i = n) ∨ (A = 2 ∧ ((yK a = 2 ∧ i / 4 = n) ∨ (yK a = 4 ∧ i / 157 = n)))
/-- what stands in the lists, behind an entry more -/
theorem zAdded.fp (C : CI h) (hA : A = 2 ∨ A = 3 ∨ A = 4 ∨ A = 5) (D : zAdded h A r g) {q : Nat} (q1 : 0 < q ∧ q ≤ 365) (q2 : q ≠ A) : fld g (q : Int) = fld h (q : Int) := by
  have mA : A ∈ zLis := by unfold zLis; rcases hA with rfl | rfl | rfl | rfl <;> decide
  have l := C.len
  refine D.2.2.2.2.2 q (by omega) (by omega) (fun z => ?_)
  rcases C.2.2.1 A mA with ⟨-, w⟩ | ⟨w, -⟩ <;> omega
theorem zAdded.lc (C : CI h) (hA : A = 2 ∨ A = 3 ∨ A = 4 ∨ A = 5) (D : zAdded h A r g) (hn : (n : Int) = fld h A 2) (hB : B ∈ zLis) (hm : ¬ (B = A ∧ m = n)) : ((m : Int) < fld g B 2 ↔ (m : Int) < fld h B 2) ∧ ((m : Int) < fld h B 2 → zv g B m = zv h B m) := by
  by_cases z : B = A
  · subst z
    have l := D.2.2.1
    exact ⟨⟨fun w => by omega, fun w => by omega⟩, fun w => D.v w⟩
  · have e0 : ∀ B : Nat, B ∈ zLis → B ≠ A → zun [(A, A, 0, 3)] B = true := by
      unfold zLis
      rcases hA with rfl | rfl | rfl | rfl <;> decide
    have e := e0 B hB z
    have w := D.2.1.vz hB e
    exact ⟨by rw [w], fun u => D.2.1.v C hB e u⟩
theorem zAdded.ov (C : CI h) (hA : A = 2 ∨ A = 3 ∨ A = 4 ∨ A = 5) (D : zAdded h A r g) (hB : B ∈ zLis) (hm : (m : Int) < fld h B 2) : fld g (zv h B m) = fld h (zv h B m) := by
  have mA : A ∈ zLis := by unfold zLis; rcases hA with rfl | rfl | rfl | rfl <;> decide
  obtain ⟨u, n', w⟩ := zv_s C hB hm
  exact zAdded.o C mA D w (zkd25 B) u
theorem yC_adn (C : CI h) (hA : A = 2 ∨ A = 3 ∨ A = 4 ∨ A = 5) (D : zAdded h A r g) (hn : (n : Int) = fld h A 2) (ht : ¬ yTch A a i n) : yC g a i = yC h a i := by
  have mA : A ∈ zLis := by unfold zLis; rcases hA with rfl | rfl | rfl | rfl <;> decide
  have ob : ∀ (q : Int) (k m : Nat), 365 < q → sh h q = some (k, m) → k ≠ 25 → fld g q = fld h q := fun q k m u w e => zAdded.o C mA D w e u
  have m2 : (2 : Nat) ∈ zLis := by decide
  have m20 : (20 : Nat) ∈ zLis := by decide
  have f1 : fld g 1 = fld h 1 := D.fp C hA (q := 1) (by decide) (by omega)
  have f7 : fld g 7 = fld h 7 := D.fp C hA (q := 7) (by decide) (by omega)
  have f10 : fld g 10 = fld h 10 := D.fp C hA (q := 10) (by decide) (by omega)
  have f13 : fld g 13 = fld h 13 := D.fp C hA (q := 13) (by decide) (by omega)
  have f15 : fld g 15 = fld h 15 := D.fp C hA (q := 15) (by decide) (by omega)
  have hM : yM g = yM h := yM_xr D.2.1 (by rcases hA with rfl | rfl | rfl | rfl <;> decide) (C.1.b (a1 := 37) (a2 := 37) (j1 := 86) (j2 := 87) (lo := 0) (hi := 6) (by decide +kernel) (r := 37) (j := 86) (by decide) (by decide) (by decide) (by decide)).2
  unfold yC
  split
  · rename_i hK
    cases c2 : ySc i with
    | false => rfl
    | true =>
      have q : fld g ((ySr i).1 : Nat) = fld h ((ySr i).1 : Nat) := by
        have ne : (ySr i).1 ≠ A := fun z => ht (Or.inl ⟨hK, z⟩)
        refine D.fp C hA ?_ ne
        rcases ySr_c (i := i) with ⟨w, -⟩ | ⟨w, -⟩ | ⟨w, -⟩ | ⟨w, -⟩ | ⟨w1, w2, -⟩
        · rw [w]; decide
        · rw [w]; decide
        · rw [w]; decide
        · rw [w]; decide
        · exact ⟨w1, w2⟩
      exact congrFun q _
  · rename_i hK
    obtain ⟨p1, p2⟩ := D.lc C hA hn m2 (m := i / 4) (fun z => ht (Or.inr (Or.inr (Or.inr ⟨z.1.symm, Or.inl ⟨hK, z.2⟩⟩))))
    by_cases q : i < 32 ∧ ((i / 4 : Nat) : Int) < fld h 2 2
    · rw [if_pos q, if_pos ⟨q.1, p1.mpr q.2⟩, p2 q.2, D.ov C hA m2 q.2]
    · rw [if_neg q, if_neg (fun z => q ⟨z.1, p1.mp z.2⟩)]
  · rw [f7]
  · rename_i hK
    obtain ⟨p1, p2⟩ := D.lc C hA hn m2 (m := i / 157) (fun z => ht (Or.inr (Or.inr (Or.inr ⟨z.1.symm, Or.inr ⟨hK, z.2⟩⟩))))
    rw [f1]
    by_cases q : i < 1256 ∧ ((i / 157 : Nat) : Int) < fld h 2 2 ∧ ((i % 157 : Nat) : Int) ≤ fld h 1 0
    · have gv : gV h (zv h 2 (i / 157)) := (zv_g C (A := 2) m2 q.2.1).2
      rw [if_pos q, if_pos ⟨q.1, p1.mpr q.2.1, q.2.2⟩, p2 q.2.1, D.ov C hA m2 q.2.1, ob _ _ _ gv.2.2.1 gv.2.2.2 (by decide)]
    · rw [if_neg q, if_neg (fun z => q ⟨z.1, p1.mp z.2.1, z.2.2⟩)]
  · rw [f10]
  · rw [f13, f15]
    by_cases q : (i : Int) < fld h 13 1
    · have hb := C.1.b (a1 := 13) (a2 := 13) (j1 := 1) (j2 := 2) (lo := 0) (hi := 12) (by decide +kernel) (r := 13) (j := 1) (by decide) (by decide) (by decide) (by decide)
      rw [if_pos q, if_pos q]
      rcases C.2.2.2.2 i (by omega) with z | z
      · rw [z]
        unfold fld
        rw [cel_0, cel_0]
      · rw [ob _ _ _ z.1 z.2.1 (by decide)]
    · rw [if_neg q, if_neg q]
  · obtain ⟨p1, p2⟩ := D.lc C hA hn m20 (m := i) (fun z => by omega)
    by_cases q : (i : Int) < fld h 20 2
    · have q' : (i : Int) < fld g 20 2 := p1.mpr q
      rw [if_pos q, if_pos q', p2 q, D.ov C hA m20 q]
    · have q' : ¬ (i : Int) < fld g 20 2 := fun z => q (p1.mp z)
      rw [if_neg q, if_neg q']
  · rw [hM]
  · rename_i hK
    have w : fld g ((yFx a : Nat) : Int) = fld h ((yFx a : Nat) : Int) := D.fp C hA (by rcases yK_9 hK with z | z | z | z | z <;> rw [z] <;> decide) (by rcases yK_9 hK with z | z | z | z | z <;> rw [z] <;> rcases hA with rfl | rfl | rfl | rfl <;> decide)
    rw [w]
  · rename_i hK
    have w := yK_10 hK
    have lA : (yRA a).1 ∈ zLis := by
      unfold zLis
      rcases w with ⟨z, -⟩ | ⟨z, -⟩ | ⟨z, -⟩ | ⟨z, -⟩ <;> rw [z] <;> decide
    obtain ⟨p1, p2⟩ := D.lc C hA hn lA (m := i) (fun z => ht (Or.inr (Or.inr (Or.inl ⟨hK, z.1, z.2⟩))))
    by_cases q : (i : Int) < fld h ((yRA a).1 : Nat) 2
    · rw [if_pos q, if_pos (p1.mpr q), p2 q, D.ov C hA lA q]
      have G := (zv_g C lA q).2
      unfold zG at G
      rcases w with ⟨z1, z2⟩ | ⟨z1, z2⟩ | ⟨z1, z2⟩ | ⟨z1, z2⟩
      · rw [z1] at G ⊢; rw [z2]; rw [ob _ _ _ G.2.2.1 G.2.2.2.1 (by decide)]
      · rw [z1] at G ⊢; rw [z2]; rw [ob _ _ _ G.2.2.1 G.2.2.2.1 (by decide)]
      · rw [z1] at G ⊢; rw [z2]; rw [ob _ _ _ G.2.2.1.1 G.2.2.1.2.1 (by decide)]
      · rw [z1] at G ⊢; rw [z2]; rw [ob _ _ _ G.2.2.2.1 G.2.2.2.2.1 (by decide)]
    · rw [if_neg q, if_neg (fun z => q (p1.mp z))]
  · rename_i hK
    obtain ⟨u1, u2, u3⟩ := yF_of hK
    have lA : yFA a ∈ zLis := by
      unfold zLis
      rcases u3 with z | z | z | z <;> rw [z] <;> decide
    obtain ⟨p1, p2⟩ := D.lc C hA hn lA (m := i) (fun z => ht (Or.inr (Or.inl ⟨hK, z.1, z.2⟩)))
    by_cases q : (i : Int) < fld h ((yFA a : Nat) : Int) 2
    · rw [if_pos q, if_pos (p1.mpr q), p2 q, D.ov C hA lA q]
    · rw [if_neg q, if_neg (fun z => q (p1.mp z))]
  · rfl
/-- numbers and references behind an entry more -/
theorem yR_add (C : CI h) (J : yR h) (hA : A = 2 ∨ A = 3 ∨ A = 4 ∨ A = 5) (D : zAdded h A r g) (G : zG A h r) (hn : (n : Int) = fld h A 2) (w0 : A ≠ 5 → fld h r 0 = n) (w1 : ∀ j B : Nat, (A = 3 ∧ j = 1 ∧ B = 2) ∨ (A = 4 ∧ j = 1 ∧ B = 3) ∨ (A = 5 ∧ j = 0 ∧ B = 4) ∨ (A = 5 ∧ j = 1 ∧ B = 3) → ∃ v : Nat, (v : Int) < fld h B 2 ∧ fld h r j = zv h B v) (w2 : A = 2 → 0 ≤ fld h r 1) (w3 : A = 5 → ∀ i : Nat, (i : Int) < fld h 5 2 → zv h 5 i ≠ r) : yR g := by
  have mA : A ∈ zLis := by unfold zLis; rcases hA with rfl | rfl | rfl | rfl <;> decide
  have kr := zG_k mA G
  have fr : fld g r = fld h r := by
    obtain ⟨u, n', w⟩ := kr
    exact zAdded.o C mA D w (zkd25 A) u
  have en : (fld h A 2).toNat = n := by omega
  have zn : zv g A n = r := by rw [← en]; exact D.2.2.2.2.1
  have lA := D.2.2.1
  have mem : ∀ B : Nat, B = 2 ∨ B = 3 ∨ B = 4 ∨ B = 5 ∨ B = 14 ∨ B = 20 → B ∈ zLis := by
    intro B hB
    unfold zLis
    rcases hB with rfl | rfl | rfl | rfl | rfl | rfl <;> decide
  -- an entry of a list behind
  have cs : ∀ B : Nat, B ∈ zLis → ∀ m : Nat, (m : Int) < fld g B 2 → (B = A ∧ m = n ∧ zv g B m = r) ∨ ((m : Int) < fld h B 2 ∧ zv g B m = zv h B m) := by
    intro B hB m hm
    by_cases z : B = A ∧ m = n
    · obtain ⟨z1, z2⟩ := z
      subst z1 z2
      exact Or.inl ⟨rfl, rfl, zn⟩
    · obtain ⟨p1, p2⟩ := D.lc C hA hn hB z
      exact Or.inr ⟨p1.mp hm, p2 (p1.mp hm)⟩
  have up : ∀ B : Nat, B ∈ zLis → ∀ v : Nat, (v : Int) < fld h B 2 → (v : Int) < fld g B 2 ∧ zv g B v = zv h B v := by
    intro B hB v hv
    obtain ⟨p1, p2⟩ := D.lc C hA hn hB (m := v) (fun z => by obtain ⟨z1, z2⟩ := z; subst z1 z2; omega)
    exact ⟨p1.mpr hv, p2 hv⟩
  obtain ⟨j1, j2, j3, j4, j5, j6⟩ := J
  refine ⟨fun B hB i hi => ?_, fun B j E hB i hi => ?_, fun i hi => ?_, fun i hi => ?_, fun i hi => ?_, fun i k hi hk e => ?_⟩
  · rcases cs B (mem B (by omega)) i hi with ⟨z1, z2, z3⟩ | ⟨z1, z2⟩
    · rw [z3, fr, w0 (by omega), z2]
    · rw [z2, D.ov C hA (mem B (by omega)) z1]
      exact j1 B hB i z1
  · have fE : E ∈ zLis := mem E (by omega)
    rcases cs B (mem B (by omega)) i hi with ⟨z1, z2, z3⟩ | ⟨z1, z2⟩
    · obtain ⟨v, v1, v2⟩ := w1 j E (by rw [← z1]; exact hB)
      obtain ⟨u1, u2⟩ := up E fE v v1
      exact ⟨v, u1, by rw [z3, fr, u2]; exact v2⟩
    · obtain ⟨v, v1, v2⟩ := j2 B j E hB i z1
      obtain ⟨u1, u2⟩ := up E fE v v1
      exact ⟨v, u1, by rw [z2, D.ov C hA (mem B (by omega)) z1, u2]; exact v2⟩
  · rcases cs 20 (by decide) i hi with ⟨z1, -, -⟩ | ⟨z1, z2⟩
    · omega
    · obtain ⟨v, v1, v2⟩ := j3 i z1
      obtain ⟨u1, u2⟩ := up 4 (by decide) v v1
      exact ⟨v, u1, by rw [z2, u2]; exact v2⟩
  · have f13 : fld g 13 = fld h 13 := D.fp C hA (q := 13) (by decide) (by omega)
    have f15 : fld g 15 = fld h 15 := D.fp C hA (q := 15) (by decide) (by omega)
    rw [f13] at hi
    obtain ⟨v, v1, v2⟩ := j4 i hi
    obtain ⟨u1, u2⟩ := up 14 (by decide) v v1
    exact ⟨v, u1, by rw [f15, u2]; exact v2⟩
  · rcases cs 2 (by decide) i hi with ⟨z1, z2, z3⟩ | ⟨z1, z2⟩
    · rw [z3, fr]
      exact w2 z1.symm
    · rw [z2, D.ov C hA (by decide) z1]
      exact j5 i z1
  · rcases cs 5 (by decide) i hi with ⟨z1, z2, z3⟩ | ⟨z1, z2⟩
    · rcases cs 5 (by decide) k hk with ⟨y1, y2, y3⟩ | ⟨y1, y2⟩
      · omega
      · rw [z3, y2] at e
        exact absurd e.symm (w3 z1.symm k y1)
    · rcases cs 5 (by decide) k hk with ⟨y1, y2, y3⟩ | ⟨y1, y2⟩
      · rw [z2, y3] at e
        exact absurd e (w3 y1.symm i z1)
      · rw [z2, y2] at e
        exact j6 i k z1 y1 e
/-- a lot more -/
theorem yC_lot (C : CI h) (J : yR h) (D : zAdded h 4 r g) (G : gL h r) (F : cel h r = some (6, l)) (hn : (n : Int) = fld h 4 2) (h0 : l.getD 0 0 = n) (h1 : l.getD 1 0 = zv h 3 k) (hk : (k : Int) < fld h 3 2) : yC g = zs (zs (zs (zs (zs (zs (zs (yC h) 170 n k) 171 n (l.getD 2 0)) 172 n (l.getD 3 0)) 173 n (l.getD 4 0)) 174 n (l.getD 5 0)) 175 n (l.getD 6 0)) 37 64 (n + 1) := by
  have hA : (4 : Nat) = 2 ∨ (4 : Nat) = 3 ∨ (4 : Nat) = 4 ∨ (4 : Nat) = 5 := by decide
  have en : (fld h ((4 : Nat) : Int) 2).toNat = n := by show (fld h 4 2).toNat = n; omega
  have zn : zv g 4 n = r := by rw [← en]; exact D.2.2.2.2.1
  have ln : fld g 4 2 = fld h 4 2 + 1 := D.2.2.1
  have hi : (n : Int) < fld g 4 2 := by omega
  have fr : ∀ j, fld g (zv g 4 n) j = l.getD j 0 := fun j => by rw [zn, zAdded.o C (by decide) D (sh_of F) (by decide) G.1, fld_of F]
  funext a i
  rw [zs_if]
  by_cases e1 : a = 37 ∧ i = 64
  · rw [if_pos e1, e1.1, e1.2]
    show fld g 4 2 = _
    omega
  rw [if_neg e1, zs_if]
  by_cases e2 : a = 175 ∧ i = n
  · rw [if_pos e2, e2.1, e2.2, yC_f (A := 4) (j := 6) rfl hi, fr]
  rw [if_neg e2, zs_if]
  by_cases e3 : a = 174 ∧ i = n
  · rw [if_pos e3, e3.1, e3.2, yC_f (A := 4) (j := 5) rfl hi, fr]
  rw [if_neg e3, zs_if]
  by_cases e4 : a = 173 ∧ i = n
  · rw [if_pos e4, e4.1, e4.2, yC_f (A := 4) (j := 4) rfl hi, fr]
  rw [if_neg e4, zs_if]
  by_cases e5 : a = 172 ∧ i = n
  · rw [if_pos e5, e5.1, e5.2, yC_f (A := 4) (j := 3) rfl hi, fr]
  rw [if_neg e5, zs_if]
  by_cases e6 : a = 171 ∧ i = n
  · rw [if_pos e6, e6.1, e6.2, yC_f (A := 4) (j := 2) rfl hi, fr]
  rw [if_neg e6, zs_if]
  by_cases e7 : a = 170 ∧ i = n
  · rw [if_pos e7, e7.1, e7.2, yC_r (A := 4) (j := 1) (B := 3) rfl hi, fr, h1, D.ov C hA (by decide) hk]
    exact J.1 3 (by decide) k hk
  rw [if_neg e7]
  refine yC_adn C hA D (show (n : Int) = fld h ((4 : Nat) : Int) 2 from hn) ?_
  rintro (⟨t1, t2⟩ | ⟨t1, t2, t3⟩ | ⟨t1, t2, t3⟩ | ⟨t1, -⟩)
  · have q := yK_1 t1
    rcases ySr_c (i := i) with ⟨w, -⟩ | ⟨w, -⟩ | ⟨w, y⟩ | ⟨w, -⟩ | ⟨-, -, -, -, w, -⟩
    · rw [w] at t2; revert t2; decide
    · rw [w] at t2; revert t2; decide
    · exact e1 ⟨q, y⟩
    · rw [w] at t2; revert t2; decide
    · exact w t2
  · rcases yFA_c (a := a) with ⟨w, -⟩ | ⟨w, -⟩ | ⟨-, w1, w2⟩ | ⟨w, -⟩ | w <;> omega
  · rcases yRA_c (a := a) with ⟨w, -⟩ | ⟨-, w⟩ | ⟨w, -⟩ | ⟨w, -⟩ | w
    · rw [w] at t2; revert t2; decide
    · exact e7 ⟨w, t3⟩
    · rw [w] at t2; revert t2; decide
    · rw [w] at t2; revert t2; decide
    · rw [w] at t2; revert t2; decide
  · omega
/-- the class tells the numbers that spinning needs -/
theorem zX_yC (C : CI h) (J : yR h) : zX h (yC h) := by
  have b2 := zLb_2 C
  refine ⟨⟨rfl, rfl, rfl, rfl⟩, fun v hv => ?_, fun k hk => ?_, fun i hi => ?_⟩
  · have hv : (v : Int) < fld h 2 2 := hv
    exact ⟨J.1 2 (by decide) v hv, (yC_f (a := 66) (A := 2) (j := 3) rfl hv).symm, J.2.2.2.2.1 v hv, fun s hs => (yC_39 hv hs b2.2).symm⟩
  · have hk : (k : Int) < fld h 3 2 := hk
    exact ⟨(yC_f (a := 80) (A := 3) (j := 2) rfl hk).symm, (yC_f (a := 81) (A := 3) (j := 3) rfl hk).symm, (yC_f (a := 85) (A := 3) (j := 7) rfl hk).symm, (J.r (a := 79) (A := 3) (j := 1) (B := 2) rfl hk).2.2⟩
  · exact J.1 4 (by decide) i hi
end YA
