/-! class and model side by side: what stands in the class's lists and fixed places is what stands in the model's arrays -/
section ZY
variable {h h' h1 h2 g : Hp}
/-- the i-th entry of a list -/
def zv (h : Hp) (A : Nat) (i : Nat) : Int := fld h (fld h A 1) i
/-- the class of a list's entries -/
def zkd (A : Nat) : Nat := if A = 2 then 11 else if A = 3 ∨ A = 21 then 4 else if A = 4 ∨ A = 20 then 6 else if A = 5 then 1 else 10
theorem zkd25 (A : Nat) : zkd A ≠ 25 := by
  unfold zkd
  repeat' split
  all_goals decide
theorem zv_g (C : CI h) {A : Nat} (hA : A ∈ zLis) {i : Nat} (hi : (i : Int) < fld h A 2) : 365 < fld h A 1 ∧ zG A h (zv h A i) := by
  rcases C.2.2.1 A hA with ⟨a, b⟩ | ⟨a, n, b, c', c0, d, e⟩
  · omega
  · exact ⟨a, e i hi⟩
theorem zG_k {A : Nat} {r : Int} (hA : A ∈ zLis) (G : zG A h r) : 365 < r ∧ ∃ n, sh h r = some (zkd A, n) := by
  unfold zLis at hA
  simp only [List.mem_cons, List.not_mem_nil, or_false] at hA
  rcases hA with rfl | rfl | rfl | rfl | rfl | rfl | rfl
  · exact ⟨G.1, _, G.2.1⟩
  · exact ⟨G.1, _, G.2.1⟩
  · exact ⟨G.1, _, G.2.1⟩
  · exact ⟨G.1, _, G.2.1⟩
  · exact ⟨G.1, _, G.2.1⟩
  · exact ⟨G.1, _, G.2.1⟩
  · exact ⟨G.1, _, G.2.1⟩
theorem zv_s (C : CI h) {A : Nat} (hA : A ∈ zLis) {i : Nat} (hi : (i : Int) < fld h A 2) : 365 < zv h A i ∧ ∃ n, sh h (zv h A i) = some (zkd A, n) := zG_k hA (zv_g C hA hi).2
def zun (ms : Zms) (A : Nat) : Bool := ms.all (fun f => Nat.blt f.2.1 A || Nat.blt A f.1)
theorem zXR.vz {ms : Zms} {c s : Int} (R : zXR ms c s h g) {A : Nat} (hA : A ∈ zLis) (e : zun ms A = true) : fld g A 2 = fld h A 2 := (R.li hA e).1 2
theorem zXR.v {ms : Zms} {c s : Int} (R : zXR ms c s h g) (C : CI h) {A : Nat} (hA : A ∈ zLis) (e : zun ms A = true) {i : Nat} (hi : (i : Int) < fld h A 2) : zv g A i = zv h A i := by
  unfold zv
  rw [(R.li hA e).1 1]
  exact (R.li hA e).2 (zv_g C hA hi).1 i
/-- a field of a list's entries stays -/
theorem zXR.vf {ms : Zms} {c s : Int} (R : zXR ms c s h g) (C : CI h) {A j : Nat} (hA : A ∈ zLis) (e : zqN ms (1000 + zkd A) (1000 + zkd A) j (j + 1) = true) {i : Nat} (hi : (i : Int) < fld h A 2) : fld g (zv h A i) j = fld h (zv h A i) j := by
  obtain ⟨hr, n, s'⟩ := zv_s C hA hi
  exact R.dy e hr s' (zkd25 A) ⟨Nat.le_refl _, Nat.lt_succ_self _⟩
theorem zXR.mono {ms ms' : Zms} {c s : Int} (R : zXR ms c s h g) (e : zqI ms ms' = true) : zXR ms' c s h g := (zXR.rf ms' h).tr R e (by omega) (by omega)
/-- no place of the model's array a is touched -/
def zua (ms : Zms) (a n : Nat) : Bool := zqN ms a a 0 n
theorem zXR.a {ms : Zms} {c s : Int} (R : zXR ms c s h g) {a n i : Nat} (e : zua ms a n = true) (ha : 0 < a ∧ a ≤ 365) (hi : i < n) : fld g a i = fld h a i := R.f e ⟨Int.le_refl _, Int.le_refl _⟩ ⟨Nat.zero_le _, hi⟩ ⟨by omega, by omega⟩
/-! tables -/
/-- two places that are alike -/
def zQS (L : List (Nat × Nat × Nat × Nat)) (h : Hp) : Prop := ∀ e ∈ L, fld h e.1 e.2.1 = fld h e.2.2.1 e.2.2.2
/-- an entry's number is its place -/
def zNM (L : List Nat) (h : Hp) : Prop := ∀ A ∈ L, ∀ i : Nat, (i : Int) < fld h A 2 → fld h (zv h A i) 0 = i
/-- (A, j, a): field j of list A's entries is the model's array a -/
def zF1 (A j a : Nat) (h : Hp) : Prop := ∀ i : Nat, (i : Int) < fld h A 2 → fld h (zv h A i) j = fld h a i
def zFL (L : List (Nat × Nat × Nat)) (h : Hp) : Prop := ∀ e ∈ L, zF1 e.1 e.2.1 e.2.2 h
/-- (A, a): the model's array a is 0 behind list A's entries -/
def zZ1 (A a : Nat) (h : Hp) : Prop := ∀ i : Nat, fld h A 2 ≤ i → (i : Int) < zmx A → fld h a i = 0
def zZL (L : List (Nat × Nat)) (h : Hp) : Prop := ∀ e ∈ L, zZ1 e.1 e.2 h
/-- (A, j, B, a): field j of list A's entries is the entry of B that the model's array a tells -/
def zR1 (A j B a : Nat) (h : Hp) : Prop := ∀ i : Nat, (i : Int) < fld h A 2 → 0 ≤ fld h a i ∧ fld h a i < fld h B 2 ∧ fld h (zv h A i) j = zv h B (fld h a i).toNat
def zRL (L : List (Nat × Nat × Nat × Nat)) (h : Hp) : Prop := ∀ e ∈ L, zR1 e.1 e.2.1 e.2.2.1 e.2.2.2 h
/-! they stay where nothing is touched -/
def zl7 (A : Nat) : Bool := zLis.contains A
theorem zl7_of {A : Nat} (e : zl7 A = true) : A ∈ zLis := by
  unfold zl7 at e
  rwa [List.contains_iff_mem] at e
def zkSC (ms : Zms) (e : Nat × Nat × Nat × Nat) : Bool := zqN ms e.1 e.1 e.2.1 (e.2.1 + 1) && (zqN ms e.2.2.1 e.2.2.1 e.2.2.2 (e.2.2.2 + 1) && ((Nat.blt 0 e.1 && Nat.ble e.1 365) && (Nat.blt 0 e.2.2.1 && Nat.ble e.2.2.1 365)))
theorem zQS.kp {ms : Zms} {c s : Int} {e : Nat × Nat × Nat × Nat} (R : zXR ms c s h g) (P : fld h e.1 e.2.1 = fld h e.2.2.1 e.2.2.2) (k : zkSC ms e = true) : fld g e.1 e.2.1 = fld g e.2.2.1 e.2.2.2 := by
  unfold zkSC at k
  simp only [Bool.and_eq_true] at k
  obtain ⟨k1, k2, ⟨k3, k4⟩, k5, k6⟩ := k
  have k3 := Nat.le_of_ble_eq_true k3
  have k4 := Nat.le_of_ble_eq_true k4
  have k5 := Nat.le_of_ble_eq_true k5
  have k6 := Nat.le_of_ble_eq_true k6
  rw [R.f k1 ⟨Int.le_refl _, Int.le_refl _⟩ ⟨Nat.le_refl _, Nat.lt_succ_self _⟩ ⟨by omega, by omega⟩, R.f k2 ⟨Int.le_refl _, Int.le_refl _⟩ ⟨Nat.le_refl _, Nat.lt_succ_self _⟩ ⟨by omega, by omega⟩]
  exact P
theorem zQS.st {ms : Zms} {c s : Int} {L T : List (Nat × Nat × Nat × Nat)} (R : zXR ms c s h g) (P : zQS L h) (k : L.all (fun e => zkSC ms e || T.contains e) = true) (t : zQS T g) : zQS L g := by
  intro e he
  have k := List.all_eq_true.mp k e he
  rw [Bool.or_eq_true] at k
  rcases k with k | k
  · exact zQS.kp R (P e he) k
  · rw [List.contains_iff_mem] at k
    exact t e k
def zkNM (ms : Zms) (A : Nat) : Bool := zl7 A && (zun ms A && zqN ms (1000 + zkd A) (1000 + zkd A) 0 1)
theorem zNM.st {ms : Zms} {c s : Int} {L T : List Nat} (R : zXR ms c s h g) (C : CI h) (P : zNM L h) (k : L.all (fun e => zkNM ms e || T.contains e) = true) (t : zNM T g) : zNM L g := by
  intro A he
  have k := List.all_eq_true.mp k A he
  rw [Bool.or_eq_true] at k
  rcases k with k | k
  · unfold zkNM at k
    simp only [Bool.and_eq_true] at k
    obtain ⟨k1, k2, k3⟩ := k
    have hA := zl7_of k1
    intro i hi
    rw [R.vz hA k2] at hi
    rw [R.v C hA k2 hi, R.vf C hA k3 hi]
    exact P A he i hi
  · rw [List.contains_iff_mem] at k
    exact t A k
def zmN (A : Nat) : Nat := (zmx A).toNat
theorem zmN_of (C : CI h) {A : Nat} (hA : A ∈ zLis) {i : Nat} (hi : (i : Int) < fld h A 2) : i < zmN A := by
  have := zLis_b C hA
  unfold zmN
  omega
def zka (a : Nat) : Bool := Nat.blt 0 a && Nat.ble a 365
theorem zka_of {a : Nat} (e : zka a = true) : 0 < a ∧ a ≤ 365 := by
  unfold zka at e
  rw [Bool.and_eq_true] at e
  exact ⟨Nat.le_of_ble_eq_true e.1, Nat.le_of_ble_eq_true e.2⟩
def zkF (ms : Zms) (e : Nat × Nat × Nat) : Bool := zl7 e.1 && (zka e.2.2 && (zun ms e.1 && (zqN ms (1000 + zkd e.1) (1000 + zkd e.1) e.2.1 (e.2.1 + 1) && zua ms e.2.2 (zmN e.1))))
theorem zFL.st {ms : Zms} {c s : Int} {L T : List (Nat × Nat × Nat)} (R : zXR ms c s h g) (C : CI h) (P : zFL L h) (k : L.all (fun e => zkF ms e || T.contains e) = true) (t : zFL T g) : zFL L g := by
  intro e he
  have k := List.all_eq_true.mp k e he
  rw [Bool.or_eq_true] at k
  rcases k with k | k
  · unfold zkF at k
    simp only [Bool.and_eq_true] at k
    obtain ⟨k1, k0, k2, k3, k4⟩ := k
    have hA := zl7_of k1
    intro i hi
    rw [R.vz hA k2] at hi
    rw [R.v C hA k2 hi, R.vf C hA k3 hi, R.a k4 (zka_of k0) (zmN_of C hA hi)]
    exact P e he i hi
  · rw [List.contains_iff_mem] at k
    exact t e k
def zkZ (ms : Zms) (e : Nat × Nat) : Bool := zl7 e.1 && (zka e.2 && (zun ms e.1 && zua ms e.2 (zmN e.1)))
theorem zZL.st {ms : Zms} {c s : Int} {L T : List (Nat × Nat)} (R : zXR ms c s h g) (P : zZL L h) (k : L.all (fun e => zkZ ms e || T.contains e) = true) (t : zZL T g) : zZL L g := by
  intro e he
  have k := List.all_eq_true.mp k e he
  rw [Bool.or_eq_true] at k
  rcases k with k | k
  · unfold zkZ at k
    simp only [Bool.and_eq_true] at k
    obtain ⟨k1, k0, k2, k4⟩ := k
    have hA := zl7_of k1
    intro i hi hm
    rw [R.vz hA k2] at hi
    rw [R.a k4 (zka_of k0) (show i < zmN e.1 by unfold zmN; omega)]
    exact P e he i hi hm
  · rw [List.contains_iff_mem] at k
    exact t e k
def zkQR (ms : Zms) (e : Nat × Nat × Nat × Nat) : Bool := zl7 e.1 && (zl7 e.2.2.1 && (zka e.2.2.2 && (zun ms e.1 && (zun ms e.2.2.1 && (zqN ms (1000 + zkd e.1) (1000 + zkd e.1) e.2.1 (e.2.1 + 1) && zua ms e.2.2.2 (zmN e.1))))))
theorem zRL.st {ms : Zms} {c s : Int} {L T : List (Nat × Nat × Nat × Nat)} (R : zXR ms c s h g) (C : CI h) (P : zRL L h) (k : L.all (fun e => zkQR ms e || T.contains e) = true) (t : zRL T g) : zRL L g := by
  intro e he
  have k := List.all_eq_true.mp k e he
  rw [Bool.or_eq_true] at k
  rcases k with k | k
  · unfold zkQR at k
    simp only [Bool.and_eq_true] at k
    obtain ⟨k1, k5, k0, k2, k6, k3, k4⟩ := k
    have hA := zl7_of k1
    have hB := zl7_of k5
    intro i hi
    rw [R.vz hA k2] at hi
    have p := P e he i hi
    rw [R.v C hA k2 hi, R.vf C hA k3 hi, R.a k4 (zka_of k0) (zmN_of C hA hi), R.vz hB k6]
    exact ⟨p.1, p.2.1, p.2.2.trans (R.v C hB k6 (by omega)).symm⟩
  · rw [List.contains_iff_mem] at k
    exact t e k
/-- entries of a list with numbers are each another -/
theorem zNM.inj {L : List Nat} {A : Nat} (P : zNM L h) (hL : A ∈ L) {i j : Nat} (hi : (i : Int) < fld h A 2) (hj : (j : Int) < fld h A 2) (e : zv h A i = zv h A j) : i = j := by
  have a := P A hL i hi
  have b := P A hL j hj
  rw [e] at a
  omega
/-- one field of one entry, and the model's place of it -/
theorem zF1.up {ms ms' : Zms} {c s c' s' : Int} {L : List Nat} {A j a k : Nat} {x x' : Int} (C : CI h) (C1 : CI h1) (R : zXR ms c s h h1) (S : zXR ms' c' s' h1 g) (P : zF1 A j a h) (N : zNM L h) (hL : L.contains A = true) (e1 : (zl7 A && (zka a && (zun ms A && zua ms a (zmN A)))) = true) (e2 : (zun ms' A && zqN ms' (1000 + zkd A) (1000 + zkd A) j (j + 1)) = true)
    (hk : (k : Int) < fld h A 2) (f : ∀ (r : Int) (n : Nat), 365 < r → sh h r = some (zkd A, n) → fld h1 r j = if r = zv h A k then x else fld h r j) (m : ∀ i : Nat, fld g a i = if i = k then x' else fld h1 a i) (hx : x = x') : zF1 A j a g := by
  simp only [Bool.and_eq_true] at e1 e2
  obtain ⟨k1, k0, k2, k4⟩ := e1
  obtain ⟨k5, k6⟩ := e2
  have hA := zl7_of k1
  rw [List.contains_iff_mem] at hL
  intro i hi
  rw [S.vz hA k5] at hi
  rw [S.v C1 hA k5 hi, S.vf C1 hA k6 hi, m i]
  rw [R.vz hA k2] at hi
  rw [R.v C hA k2 hi]
  obtain ⟨s1, n, s2⟩ := zv_s C hA hi
  rw [f _ n s1 s2]
  by_cases hq : i = k
  · rw [if_pos hq, hq, if_pos rfl, hx]
  · rw [if_neg hq, if_neg (fun z => hq (N.inj hL hi hk z)), R.a k4 (zka_of k0) (zmN_of C hA hi)]
    exact P i hi
/-- behind an add: old entries, the new one -/
theorem zAdded.v {A : Nat} {r : Int} (D : zAdded h A r g) {i : Nat} (hi : (i : Int) < fld h A 2) : zv g A i = zv h A i := D.2.2.2.1 i hi
/-- what stood before an add stands behind it -/
theorem zAdded.o {A : Nat} {r q : Int} (C : CI h) (hA : A ∈ zLis) (D : zAdded h A r g) {k n : Nat} (s : sh h q = some (k, n)) (h25 : k ≠ 25) (hq : 365 < q) : fld g q = fld h q := by
  refine D.2.2.2.2.2 q (sh_pos s).2 (by have := zLis_36 hA; omega) (fun hz => ?_)
  exact C.ne25 s h25 A hA (by omega) hz.symm
end ZY
section ZY2
variable {h h' h1 h2 g : Hp}
/-- a new entry of a list: what was there stays, what is new stands behind it -/
theorem zNew {A k : Nat} {c s r : Int} {l : List Int} (C : CI h) (C1 : CI h1) (Q : zXR [] c s h h1) (D : zAdded h1 A r g) (hA : A ∈ zLis) (G : zG A h1 r) (F : cel h1 r = some (k, l)) (h25 : k ≠ 25) (hu : zun [] A = true) : ∃ rr : Int, (365 < rr ∧ zG A g rr) ∧ (∀ i : Nat, (i : Int) < fld h A 2 → fld g (fld g A 1) i = fld h (fld h A 1) i) ∧ fld g (fld g A 1) (fld h A 2).toNat = rr ∧ ∀ j : Nat, fld g rr j = l.getD j 0 := by
  have hr := (zG_k hA G).1
  have e2 := Q.vz hA hu
  refine ⟨r, ⟨hr, G.x D.2.1⟩, fun i hi => ?_, ?_, fun j => ?_⟩
  · exact (D.2.2.2.1 i (by rw [e2]; exact hi)).trans (Q.v C hA hu hi)
  · rw [← e2]
    exact D.2.2.2.2.1
  · rw [zAdded.o C1 hA D (sh_of F) h25 hr, fld_of F]
/-- a new village's prices -/
theorem zNewP {r q : Int} {l : List Int} (C1 : CI h1) (D : zAdded h1 2 r g) (N : gV h1 r) (F : cel h1 r = some (11, l)) (hq : l.getD 16 0 = q) (F1 : ∀ j : Nat, j < 157 → fld h1 q j = 10) : 365 < q ∧ sh g q = some (20, 157) ∧ ∀ j : Nat, j < 157 → fld g q j = 10 := by
  obtain ⟨-, -, n1, n2⟩ := N
  rw [fld_of F, hq] at n1 n2
  refine ⟨n1, D.2.1.1 _ _ n2, fun j hj => ?_⟩
  rw [zAdded.o C1 (by decide) D n2 (by decide) n1]
  exact F1 j hj
end ZY2
