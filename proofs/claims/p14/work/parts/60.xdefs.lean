/-! the class: its objects, lists, what a run keeps -/
section ZX
variable {sc : List Int} {D D' y pc nx : Nat} {ls st st' : List Vl} {h h' h1 h2 g : Hp} {Q : Option Vl → Hp → Prop}
/-- fields that are written once -/
def zfin (k j : Nat) : Bool := (Nat.beq k 11 && (Nat.ble j 2 || Nat.beq j 16)) || ((Nat.beq k 4 && Nat.blt j 6) || ((Nat.beq k 6 && Nat.blt j 6) || ((Nat.beq k 1 && Nat.blt j 5) || Nat.beq k 10)))
/-- the lists' places -/
def zLis : List Nat := [2, 3, 4, 5, 14, 20, 21]
/-- objects' fields but ms (a class k stands as 1000 + k) and lists' entries but ms's lists stay -/
def zXD (ms : Zms) (h h' : Hp) : Prop :=
  (∀ (r : Int) (k n j : Nat), 365 < r → sh h r = some (k, n) → k ≠ 25 → (∀ e ∈ ms, ¬ (e.1 ≤ 1000 + k ∧ 1000 + k ≤ e.2.1 ∧ e.2.2.1 ≤ j ∧ j < e.2.2.2)) → fld h' r j = fld h r j) ∧
  (∀ A ∈ zLis, (∀ e ∈ ms, ¬ (e.1 ≤ A ∧ A ≤ e.2.1)) → 365 < fld h A 1 → ∀ i : Nat, fld h' (fld h A 1) i = fld h (fld h A 1) i)
/-- from h to h': shapes stay, fixed places but ms, fields that are written once; how many cells and slots are new, but for lots and looms -/
def zXR (ms : Zms) (c s : Int) (h h' : Hp) : Prop :=
  (∀ r q, sh h r = some q → sh h' r = some q) ∧
  (∀ (r : Int) (j : Nat), 0 < r → r ≤ 365 → (∀ e ∈ ms, ¬ ((e.1 : Int) ≤ r ∧ r ≤ (e.2.1 : Int) ∧ e.2.2.1 ≤ j ∧ j < e.2.2.2)) → fld h' r j = fld h r j) ∧
  (∀ (r : Int) (k n j : Nat), 365 < r → sh h r = some (k, n) → zfin k j = true → fld h' r j = fld h r j) ∧
  h.length ≤ h'.length ∧
  (h'.length : Int) - (2 * fld h' 4 2 + fld h' 21 2) ≤ h.length - (2 * fld h 4 2 + fld h 21 2) + c ∧
  (sz h' : Int) - (1007 * fld h' 4 2 + 1000 * fld h' 21 2) ≤ sz h - (1007 * fld h 4 2 + 1000 * fld h 21 2) + s ∧ zXD ms h h'
theorem zXR.rf (ms : Zms) (h : Hp) : zXR ms 0 0 h h := ⟨fun _ _ z => z, fun _ _ _ _ _ => rfl, fun _ _ _ _ _ _ _ => rfl, Nat.le_refl _, by omega, by omega, fun _ _ _ _ _ _ _ _ => rfl, fun _ _ _ _ _ => rfl⟩
theorem zqI_of {ms ms' : Zms} (e : zqI ms' ms = true) {f : Nat × Nat × Nat × Nat} (hf : f ∈ ms') : ∃ g ∈ ms, g.1 ≤ f.1 ∧ f.2.1 ≤ g.2.1 ∧ g.2.2.1 ≤ f.2.2.1 ∧ f.2.2.2 ≤ g.2.2.2 := by
  have e := List.all_eq_true.mp e f hf
  obtain ⟨g, hg, e⟩ := List.any_eq_true.mp e
  simp only [Bool.and_eq_true] at e
  obtain ⟨e1, e2, e3, e4⟩ := e
  exact ⟨g, hg, Nat.le_of_ble_eq_true e1, Nat.le_of_ble_eq_true e2, Nat.le_of_ble_eq_true e3, Nat.le_of_ble_eq_true e4⟩
theorem zXR.tr {ms ms' : Zms} {c s c' s' c2 s2 : Int} (R : zXR ms c s h h1) (S : zXR ms' c' s' h1 h2) (e : zqI ms' ms = true) (hc : c + c' ≤ c2) (hs : s + s' ≤ s2) : zXR ms c2 s2 h h2 := by
  obtain ⟨r1, r2, r3, r4, r5, r6, r7, r8⟩ := R
  obtain ⟨s1, s2', s3, s4, s5, s6, s7, s8⟩ := S
  refine ⟨fun r q z => s1 r q (r1 r q z), fun r j k1 k2 hn => (s2' r j k1 k2 (fun f hf hz => ?_)).trans (r2 r j k1 k2 hn), fun r k n j k1 k2 k3 => (s3 r k n j k1 (r1 _ _ k2) k3).trans (r3 r k n j k1 k2 k3), by omega, by omega, by omega, fun r k n j k1 k2 k3 hn => ?_, fun A hA hn ha i => ?_⟩
  rotate_left
  · refine (s7 r k n j k1 (r1 _ _ k2) k3 (fun f hf hz => ?_)).trans (r7 r k n j k1 k2 k3 hn)
    obtain ⟨g, hg, e1, e2, e3, e4⟩ := zqI_of e hf
    exact hn g hg (by omega)
  · have hA2 : 0 < (A : Int) ∧ (A : Int) ≤ 365 := by
      unfold zLis at hA
      simp only [List.mem_cons, List.not_mem_nil, or_false] at hA
      omega
    have f1 : fld h1 A 1 = fld h A 1 := r2 A 1 hA2.1 hA2.2 (fun e he hz => hn e he (by omega))
    have w := s8 A hA (fun f hf hz => by
      obtain ⟨g, hg, e1, e2, e3, e4⟩ := zqI_of e hf
      exact hn g hg (by omega)) (by rw [f1]; exact ha) i
    rw [f1] at w
    exact w.trans (r8 A hA hn ha i)
  have e := List.all_eq_true.mp e f hf
  obtain ⟨g, hg, e⟩ := List.any_eq_true.mp e
  simp only [Bool.and_eq_true] at e
  obtain ⟨e1, e2, e3, e4⟩ := e
  have e1 := Nat.le_of_ble_eq_true e1
  have e2 := Nat.le_of_ble_eq_true e2
  have e3 := Nat.le_of_ble_eq_true e3
  have e4 := Nat.le_of_ble_eq_true e4
  exact hn g hg (by omega)
theorem zXR.le {ms : Zms} {c s c2 s2 : Int} (R : zXR ms c s h h1) (hc : c ≤ c2) (hs : s ≤ s2) : zXR ms c2 s2 h h1 := ⟨R.1, R.2.1, R.2.2.1, R.2.2.2.1, by have := R.2.2.2.2.1; omega, by have := R.2.2.2.2.2.1; omega, R.2.2.2.2.2.2⟩
theorem zXR.f {ms : Zms} {c s : Int} (R : zXR ms c s h h') {a1 a2 j1 j2 : Nat} (e : zqN ms a1 a2 j1 j2 = true) {r : Int} {j : Nat} (k1 : (a1 : Int) ≤ r ∧ r ≤ (a2 : Int)) (k2 : j1 ≤ j ∧ j < j2) (k3 : 0 < r ∧ r ≤ 365) : fld h' r j = fld h r j := by
  refine R.2.1 r j k3.1 k3.2 (fun f hf hz => ?_)
  have e := List.all_eq_true.mp e f hf
  simp only [Bool.or_eq_true] at e
  rcases e with e | e | e | e
  · have := Nat.le_of_ble_eq_true e
    omega
  · have := Nat.le_of_ble_eq_true e
    omega
  · have := Nat.le_of_ble_eq_true e
    omega
  · have := Nat.le_of_ble_eq_true e
    omega
theorem zXR.wc {r x : Int} {j a1 j1 j2 : Nat} (e : h' = wr h r j x) (hr : r = (a1 : Int)) (h0 : 0 < r ∧ r ≤ 365 ∧ ((r ≠ 4 ∧ r ≠ 21) ∨ j ≠ 2)) (hj : j1 ≤ j ∧ j < j2) : zXR [(a1, a1, j1, j2)] 0 0 h h' := by
  subst e
  have f1 : fld (wr h r j x) 4 2 = fld h 4 2 := fld_wr (by omega)
  have f2 : fld (wr h r j x) 21 2 = fld h 21 2 := fld_wr (by omega)
  refine ⟨fun q s z => by rw [sh_wr]; exact z, fun q i k1 k2 hn => fld_wr ?_, fun q k n i k1 k2 k3 => fld_wr (Or.inl (by omega)), by rw [len_wr]; exact Nat.le_refl _, by rw [len_wr, f1, f2]; omega, by rw [sz_wr, f1, f2]; omega, fun q k n i k1 k2 k3 hn => fld_wr (Or.inl (by omega)), fun A hA hn ha i => fld_wr (Or.inl (by omega))⟩
  have := hn _ List.mem_cons_self
  dsimp only at this
  omega
theorem zXR.wd {r x : Int} {j k n a j1 j2 : Nat} (e : h' = wr h r j x) (hr : 365 < r) (s : sh h r = some (k, n)) (hf : zfin k j = false) (ha : a = 1000 + k) (hj : j1 ≤ j ∧ j < j2) (hL : ∀ A ∈ zLis, 365 < fld h A 1 → fld h A 1 ≠ r) : zXR [(a, a, j1, j2)] 0 0 h h' := by
  subst e
  have f1 : fld (wr h r j x) 4 2 = fld h 4 2 := fld_wr (by omega)
  have f2 : fld (wr h r j x) 21 2 = fld h 21 2 := fld_wr (by omega)
  refine ⟨fun q s z => by rw [sh_wr]; exact z, fun q i k1 k2 hn => fld_wr (Or.inl (by omega)), fun q k' n' i k1 k2 k3 => fld_wr ?_, by rw [len_wr]; exact Nat.le_refl _, by rw [len_wr, f1, f2]; omega, by rw [sz_wr, f1, f2]; omega, fun q k' n' i k1 k2 k3 hn => fld_wr ?_, fun A hA hn ha i => fld_wr (Or.inl (hL A hA ha))⟩
  rotate_left
  · by_cases hq : q = r
    · subst hq
      rw [s] at k2
      cases k2
      right
      have := hn _ List.mem_cons_self
      dsimp only at this
      omega
    · exact Or.inl hq
  by_cases hq : q = r
  · right
    intro hi
    subst hq hi
    rw [s] at k2
    cases k2
    rw [hf] at k3
    cases k3
  · exact Or.inl hq
/-! good objects: villages, houses, lots, cloths, sheets -/
def gV (h : Hp) (r : Int) : Prop := 365 < r ∧ sh h r = some (11, 17) ∧ 365 < fld h r 16 ∧ sh h (fld h r 16) = some (20, 157)
def gH (h : Hp) (r : Int) : Prop := 365 < r ∧ sh h r = some (4, 19) ∧ gV h (fld h r 1)
def gL (h : Hp) (r : Int) : Prop := 365 < r ∧ sh h r = some (6, 7) ∧ gH h (fld h r 1)
def gC (h : Hp) (r : Int) : Prop := 365 < r ∧ sh h r = some (1, 6) ∧ gL h (fld h r 0) ∧ gH h (fld h r 1)
def gS (h : Hp) (r : Int) : Prop := 365 < r ∧ sh h r = some (10, 3) ∧ (365 < fld h r 1 ∧ ∃ n, sh h (fld h r 1) = some (20, n)) ∧ (365 < fld h r 2 ∧ sh h (fld h r 2) = some (20, 5))
theorem gV.x {ms : Zms} {c s r : Int} (G : gV h r) (R : zXR ms c s h h') : gV h' r := by
  obtain ⟨a, b, c', d⟩ := G
  have f := R.2.2.1 r 11 17 16 a b rfl
  exact ⟨a, R.1 _ _ b, by rw [f]; exact c', by rw [f]; exact R.1 _ _ d⟩
theorem gH.x {ms : Zms} {c s r : Int} (G : gH h r) (R : zXR ms c s h h') : gH h' r := by
  obtain ⟨a, b, c'⟩ := G
  exact ⟨a, R.1 _ _ b, by rw [R.2.2.1 r 4 19 1 a b rfl]; exact c'.x R⟩
theorem gL.x {ms : Zms} {c s r : Int} (G : gL h r) (R : zXR ms c s h h') : gL h' r := by
  obtain ⟨a, b, c'⟩ := G
  exact ⟨a, R.1 _ _ b, by rw [R.2.2.1 r 6 7 1 a b rfl]; exact c'.x R⟩
theorem gC.x {ms : Zms} {c s r : Int} (G : gC h r) (R : zXR ms c s h h') : gC h' r := by
  obtain ⟨a, b, c', d⟩ := G
  exact ⟨a, R.1 _ _ b, by rw [R.2.2.1 r 1 6 0 a b rfl]; exact c'.x R, by rw [R.2.2.1 r 1 6 1 a b rfl]; exact d.x R⟩
theorem gS.x {ms : Zms} {c s r : Int} (G : gS h r) (R : zXR ms c s h h') : gS h' r := by
  obtain ⟨a, b, ⟨c1, n, c2⟩, d1, d2⟩ := G
  exact ⟨a, R.1 _ _ b, by rw [R.2.2.1 r 10 3 1 a b rfl]; exact ⟨c1, n, R.1 _ _ c2⟩, by rw [R.2.2.1 r 10 3 2 a b rfl]; exact ⟨d1, R.1 _ _ d2⟩⟩
/-- arrays of ints of n places outside the fixed ones -/
def gA (n : Nat) (h : Hp) (r : Int) : Prop := 365 < r ∧ sh h r = some (20, n)
theorem gA.x {ms : Zms} {c s r : Int} {n : Nat} (G : gA n h r) (R : zXR ms c s h h') : gA n h' r := ⟨G.1, R.1 _ _ G.2⟩
/-! the lists -/
def zG (A : Nat) : Hp → Int → Prop := if A = 2 then gV else if A = 3 ∨ A = 21 then gH else if A = 4 ∨ A = 20 then gL else if A = 5 then gC else gS
theorem zG.x {ms : Zms} {c s r : Int} {A : Nat} (G : zG A h r) (R : zXR ms c s h h') : zG A h' r := by
  unfold zG at G ⊢
  split
  · rw [if_pos ‹_›] at G; exact gV.x G R
  · rw [if_neg ‹_›] at G
    split
    · rw [if_pos ‹_›] at G; exact gH.x G R
    · rw [if_neg ‹_›] at G
      split
      · rw [if_pos ‹_›] at G; exact gL.x G R
      · rw [if_neg ‹_›] at G
        split
        · rw [if_pos ‹_›] at G; exact gC.x G R
        · rw [if_neg ‹_›] at G; exact gS.x G R
def zL1 (h : Hp) (A : Nat) : Prop := (fld h A 2 = 0 ∧ fld h A 1 = -2) ∨ (365 < fld h A 1 ∧ ∃ n : Nat, sh h (fld h A 1) = some (25, n) ∧ fld h A 2 ≤ n ∧ 0 < n ∧ n ≤ 600 ∧ ∀ i : Nat, (i : Int) < fld h A 2 → zG A h (fld h (fld h A 1) i))
def zLs (h : Hp) : Prop := (∀ A ∈ zLis, zL1 h A) ∧ (∀ A ∈ zLis, ∀ B ∈ zLis, A ≠ B → 365 < fld h A 1 → fld h A 1 ≠ fld h B 1) ∧ ∀ i : Nat, i < 12 → fld h 15 i = 0 ∨ gS h (fld h 15 i)
/-- ints outside the fixed places are ints -/
def zDy (h : Hp) : Prop := ∀ (r : Int) (k n j : Nat), 365 < r → sh h r = some (k, n) → kty k j = 0 → -2147483648 ≤ fld h r j ∧ fld h r j ≤ 2147483647
def CI (h : Hp) : Prop := zI h ∧ zDy h ∧ zLs h
/-- a list's cells are as they were, and what stands in it is as good -/
theorem zL1.kp {ms : Zms} {c s : Int} {A : Nat} (H : zL1 h A) (R : zXR ms c s h h') (e1 : fld h' A 1 = fld h A 1) (e2 : fld h' A 2 = fld h A 2) (ed : 365 < fld h A 1 → fld h' (fld h A 1) = fld h (fld h A 1)) : zL1 h' A := by
  rcases H with ⟨a, b⟩ | ⟨a, n, b, c', c0, d, e⟩
  · exact Or.inl ⟨by rw [e2]; exact a, by rw [e1]; exact b⟩
  · refine Or.inr ⟨by rw [e1]; exact a, n, by rw [e1]; exact R.1 _ _ b, by rw [e2]; exact c', c0, d, fun i hi => ?_⟩
    rw [e2] at hi
    rw [e1, ed a]
    exact (e i hi).x R
theorem zLs.kp {ms : Zms} {c s : Int} (H : zLs h) (R : zXR ms c s h h') (e1 : ∀ A ∈ zLis, fld h' A 1 = fld h A 1 ∧ fld h' A 2 = fld h A 2) (ed : ∀ A ∈ zLis, 365 < fld h A 1 → fld h' (fld h A 1) = fld h (fld h A 1)) (ef : ∀ i : Nat, i < 12 → fld h' 15 i = fld h 15 i) : zLs h' := by
  obtain ⟨a, b, c'⟩ := H
  refine ⟨fun A hA => (a A hA).kp R (e1 A hA).1 (e1 A hA).2 (ed A hA), fun A hA B hB hne => ?_, fun i hi => ?_⟩
  · rw [(e1 A hA).1, (e1 B hB).1]
    exact b A hA B hB hne
  · rw [ef i hi]
    exact (c' i hi).imp id (fun z => z.x R)
theorem zL1.d25 {A : Nat} (H : zL1 h A) (ha : 365 < fld h A 1) : ∃ n, sh h (fld h A 1) = some (25, n) := by
  rcases H with ⟨a, b⟩ | ⟨a, n, b, -⟩
  · omega
  · exact ⟨n, b⟩
theorem CI.ne25 (C : CI h) {r : Int} {k n : Nat} (s : sh h r = some (k, n)) (h25 : k ≠ 25) : ∀ A ∈ zLis, 365 < fld h A 1 → fld h A 1 ≠ r := by
  intro A hA ha hz
  obtain ⟨m, hm⟩ := (C.2.2.1 A hA).d25 ha
  rw [hz, s] at hm
  cases hm
  exact h25 rfl
theorem CI.wdX {r x : Int} {j k n a j1 j2 : Nat} (C : CI h) (e : h' = wr h r j x) (hr : 365 < r) (s : sh h r = some (k, n)) (hf : zfin k j = false) (h25 : k ≠ 25) (ha : a = 1000 + k) (hj : j1 ≤ j ∧ j < j2) : zXR [(a, a, j1, j2)] 0 0 h h' := zXR.wd e hr s hf ha hj (C.ne25 s h25)
theorem CI.wc {r x : Int} {j : Nat} (C : CI h) (e : h' = wr h r j x) (I : zI h') (hr : 0 < r ∧ r ≤ 365) (hq : (r ≠ 2 ∧ r ≠ 3 ∧ r ≠ 4 ∧ r ≠ 5 ∧ r ≠ 14 ∧ r ≠ 20 ∧ r ≠ 21) ∧ r ≠ 15) : CI h' := by
  have R : zXR [(r.toNat, r.toNat, j, j + 1)] 0 0 h h' := zXR.wc e (by omega) ⟨hr.1, hr.2, Or.inl ⟨hq.1.2.2.1, hq.1.2.2.2.2.2.2⟩⟩ ⟨Nat.le_refl _, Nat.lt_succ_self _⟩
  have fo : ∀ (q : Int) (i : Nat), q ≠ r → fld h' q i = fld h q i := fun q i hne => by rw [e]; exact fld_wr (Or.inl hne)
  refine ⟨I, fun q k n i k1 k2 k3 => ?_, C.2.2.kp R (fun A hA => ?_) (fun A hA ha => ?_) (fun i hi => fo _ _ (Ne.symm hq.2))⟩
  · rw [fo q i (by omega)]
    rw [e, sh_wr] at k2
    exact C.2.1 q k n i k1 k2 k3
  · have hne : (A : Int) ≠ r := by
      unfold zLis at hA
      simp only [List.mem_cons, List.not_mem_nil, or_false] at hA
      omega
    exact ⟨fo _ _ hne, fo _ _ hne⟩
  · funext i
    exact fo _ _ (by omega)
theorem CI.wd {r x : Int} {j k n : Nat} (C : CI h) (e : h' = wr h r j x) (hr : 365 < r) (s : sh h r = some (k, n)) (hf : zfin k j = false) (h25 : k ≠ 25) (hx : -2147483648 ≤ x ∧ x ≤ 2147483647) : CI h' := by
  have R := C.wdX e hr s hf h25 rfl ⟨Nat.le_refl j, Nat.lt_succ_self j⟩
  have fo : ∀ (q : Int) (i : Nat), q ≠ r → fld h' q i = fld h q i := fun q i hne => by rw [e]; exact fld_wr (Or.inl hne)
  refine ⟨C.1.far (fun q k1 k2 => by rw [e, sh_wr]) (fun q i k1 k2 => fo q i (by omega)), fun q k' n' i k1 k2 k3 => ?_, C.2.2.kp R (fun A hA => ?_) (fun A hA ha => ?_) (fun i hi => fo _ _ (by omega))⟩
  · rw [e, sh_wr] at k2
    by_cases hq : q = r ∧ i = j
    · obtain ⟨rfl, rfl⟩ := hq
      rw [e]
      rcases fld_wr2 (h := h) (r := q) (i := i) (x := x) with z | z
      · rw [z]; exact hx
      · rw [z]; exact C.2.1 q k' n' i k1 k2 k3
    · rw [e, fld_wr (by omega)]
      exact C.2.1 q k' n' i k1 k2 k3
  · have hne : (A : Int) ≠ r := by
      unfold zLis at hA
      simp only [List.mem_cons, List.not_mem_nil, or_false] at hA
      omega
    exact ⟨fo _ _ hne, fo _ _ hne⟩
  · funext i
    refine fo _ _ (fun hz => ?_)
    obtain ⟨m, hm⟩ := (C.2.2.1 A hA).d25 ha
    rw [hz, s] at hm
    cases hm
    exact h25 rfl
/-! instructions at objects -/
theorem zwX_gi (C : CI h) {kd bn n : Nat} {r : Int} (e : (zkGet y pc nx kd bn 0 && Nat.beq (kty kd bn) 0) = true) (s : sh h r = some (kd, n)) (hr : 365 < r) (hb : Nat.blt bn n = true) (k : ∀ z, z = fld h r bn → -2147483648 ≤ z → z ≤ 2147483647 → zwW sc D y nx ls ((0, z) :: st) h Q) : zwW sc D y pc ls ((2, r) :: st) h Q := by
  rw [Bool.and_eq_true] at e
  have hb2 := C.2.1 r kd n bn hr s (Nat.eq_of_beq_eq_true e.2)
  exact zwW_get e.1 s hb (k _ rfl hb2.1 hb2.2)
theorem zwX_pi (C : CI h) {kd bn n : Nat} {r x : Int} (e : (zkPut y pc nx kd bn 0 && (Nat.blt bn n && (!zfin kd bn && Nat.blt kd 14))) = true) (s : sh h r = some (kd, n)) (hr : 365 < r) (hx : -2147483648 ≤ x ∧ x ≤ 2147483647) (k : ∀ h', h' = wr h r bn x → CI h' → zXR [(1000 + kd, 1000 + kd, bn, bn + 1)] 0 0 h h' → zwW sc D y nx ls st h' Q) : zwW sc D y pc ls ((0, x) :: (2, r) :: st) h Q := by
  simp only [Bool.and_eq_true, Bool.not_eq_true'] at e
  have hk : kd < 14 := Nat.le_of_ble_eq_true e.2.2.2
  exact zwW_put e.1 s e.2.1 rfl (fun h' e' => k h' e' (C.wd e' hr s e.2.2.1 (by omega) hx) (C.wdX e' hr s e.2.2.1 (by omega) rfl ⟨Nat.le_refl _, Nat.lt_succ_self _⟩))
theorem zwX_ai (C : CI h) {n : Nat} {r i : Int} (e : zwat y pc 32 nx 20 0 = true) (s : sh h r = some (20, n)) (hr : 365 < r) (hi : 0 ≤ i ∧ i < n) (k : ∀ z, z = fld h r i.toNat → -2147483648 ≤ z → z ≤ 2147483647 → zwW sc D y nx ls ((0, z) :: st) h Q) : zwW sc D y pc ls ((0, i) :: (2, r) :: st) h Q := by
  have hb2 := C.2.1 r 20 n i.toNat hr s rfl
  exact zwW_ald e s (t := 0) rfl hi.1 hi.2 (k _ rfl hb2.1 hb2.2)
theorem zwX_si (C : CI h) {n : Nat} {r i x : Int} (e : zwat y pc 41 nx 20 0 = true) (s : sh h r = some (20, n)) (hr : 365 < r) (hi : 0 ≤ i ∧ i < n) (hx : -2147483648 ≤ x ∧ x ≤ 2147483647) (hn5 : n ≤ 100000) (k : ∀ h', h' = wr h r i.toNat x → CI h' → zXR [(1020, 1020, 0, 100000)] 0 0 h h' → zwW sc D y nx ls st h' Q) : zwW sc D y pc ls ((0, x) :: (0, i) :: (2, r) :: st) h Q :=
  zwW_ast e s rfl hi.1 hi.2 rfl (fun h' e' => k h' e' (C.wd e' hr s rfl (by decide) hx) (C.wdX e' hr s rfl (by decide) rfl ⟨Nat.zero_le _, by omega⟩))
/-! new cells behind the old ones -/
def zOld (h h' : Hp) : Prop := h.length ≤ h'.length ∧ ∀ r : Int, r ≤ h.length → cel h' r = cel h r
theorem zOld.rf (h : Hp) : zOld h h := ⟨Nat.le_refl _, fun _ _ => rfl⟩
theorem zOld.tr (a : zOld h h1) (b : zOld h1 h2) : zOld h h2 := ⟨Nat.le_trans a.1 b.1, fun r hr => (b.2 r (by have := a.1; omega)).trans (a.2 r hr)⟩
theorem zOld.sp (a : zOld h h1) {r : Int} {q : Nat × Nat} (hs : sh h r = some q) : sh h1 r = some q := by
  unfold sh at hs ⊢
  have hr : r ≤ h.length := by
    cases hc : cel h r with
    | none => rw [hc] at hs; cases hs
    | some e => exact (cel_of hc).2.2
  rw [a.2 r hr]
  exact hs
theorem zOld.fl (a : zOld h h1) {r : Int} (hr : r ≤ h.length) : fld h1 r = fld h r := by
  funext j
  unfold fld
  rw [a.2 r hr]
theorem cel_app (l : List (Nat × List Int)) (r : Int) (hr : r ≤ h.length) : cel (h ++ l) r = cel h r := by
  unfold cel
  by_cases h0 : 0 < r
  · rw [if_pos h0, if_pos h0, List.getElem?_append_left (by omega)]
  · rw [if_neg h0, if_neg h0]
theorem zOld.app (l : List (Nat × List Int)) : zOld h (h ++ l) := ⟨by rw [List.length_append]; omega, fun r hr => cel_app l r hr⟩
theorem zOld.w {r x : Int} {j : Nat} (a : zOld h h1) (e : h2 = wr h1 r j x) (hr : h.length < r) : zOld h h2 := by
  subst e
  refine ⟨by rw [len_wr]; exact a.1, fun q hq => ?_⟩
  rw [← a.2 q hq]
  unfold wr
  cases hc : cel h1 r with
  | none => rfl
  | some e => exact (cel_set q (by rw [hc]; rfl)).trans (if_neg (by omega))
theorem zOld.xr (a : zOld h h1) (C : CI h) {c s : Nat} (hc : h1.length ≤ h.length + c) (hs : sz h1 ≤ sz h + s) (ms : Zms) : zXR ms c s h h1 := by
  have h365 : 365 ≤ h.length := by
    have := sh_pos (C.1.s (a1 := 365) (a2 := 365) (k := 20) (n := 8) (by decide +kernel) (r := 365) (by decide) (by decide))
    omega
  have f1 : fld h1 4 2 = fld h 4 2 := congrFun (a.fl (by omega)) 2
  have f2 : fld h1 21 2 = fld h 21 2 := congrFun (a.fl (by omega)) 2
  refine ⟨fun r q z => a.sp z, fun r j k1 k2 _ => congrFun (a.fl (by omega)) j, fun r k n j k1 k2 k3 => congrFun (a.fl ?_) j, a.1, by rw [f1, f2]; omega, by rw [f1, f2]; omega, fun r k n j k1 k2 k3 hn => congrFun (a.fl (sh_pos k2).2) j, fun A hA hn ha i => ?_⟩
  · exact (sh_pos k2).2
  · obtain ⟨m, hm⟩ := (C.2.2.1 A hA).d25 ha
    exact congrFun (a.fl (sh_pos hm).2) i
theorem CI.old (C : CI h) (a : zOld h h1) (Y : zDy h1) : CI h1 := by
  have h365 : 365 ≤ h.length := by
    have := sh_pos (C.1.s (a1 := 365) (a2 := 365) (k := 20) (n := 8) (by decide +kernel) (r := 365) (by decide) (by decide))
    omega
  have R := a.xr C (c := h1.length) (s := sz h1) (by omega) (by omega) []
  refine ⟨C.1.far (fun r k1 k2 => ?_) (fun r j k1 k2 => congrFun (a.fl (by omega)) j), Y, C.2.2.kp R (fun A hA => ?_) (fun A hA ha => ?_) (fun i hi => congrFun (a.fl (by omega)) i)⟩
  · unfold sh
    rw [a.2 r (by omega)]
  · have hA2 : (A : Int) ≤ 21 := by
      unfold zLis at hA
      simp only [List.mem_cons, List.not_mem_nil, or_false] at hA
      omega
    exact ⟨congrFun (a.fl (by omega)) 1, congrFun (a.fl (by omega)) 2⟩
  · obtain ⟨m, hm⟩ := (C.2.2.1 A hA).d25 ha
    exact a.fl (sh_pos hm).2
theorem zDy.w {r x : Int} {j : Nat} (Y : zDy h) (e : h' = wr h r j x) (hx : -2147483648 ≤ x ∧ x ≤ 2147483647) : zDy h' := by
  intro q k n i k1 k2 k3
  rw [e, sh_wr] at k2
  by_cases hq : q = r ∧ i = j
  · obtain ⟨rfl, rfl⟩ := hq
    rw [e]
    rcases fld_wr2 (h := h) (r := q) (i := i) (x := x) with z | z
    · rw [z]; exact hx
    · rw [z]; exact Y q k n i k1 k2 k3
  · rw [e, fld_wr (by omega)]
    exact Y q k n i k1 k2 k3
/-- a reference is written: it is no int -/
theorem zDy.wq {r x : Int} {j k n : Nat} (Y : zDy h) (e : h' = wr h r j x) (s : sh h r = some (k, n)) (hk : kty k j ≠ 0) : zDy h' := by
  intro q k' n' i k1 k2 k3
  rw [e, sh_wr] at k2
  by_cases hq : q = r ∧ i = j
  · obtain ⟨rfl, rfl⟩ := hq
    rw [s] at k2
    cases k2
    exact absurd k3 hk
  · rw [e, fld_wr (by omega)]
    exact Y q k' n' i k1 k2 k3
theorem cel_new (c : Nat × List Int) : cel (h ++ [c]) ((h.length + 1 : Nat) : Int) = some c := by
  unfold cel
  rw [if_pos (by omega), show (((h.length + 1 : Nat) : Int)).toNat - 1 = h.length by omega, List.getElem?_append_right (Nat.le_refl _), Nat.sub_self]
  rfl
theorem zDy.app {k : Nat} {l : List Int} (Y : zDy h) (hl : ∀ x ∈ l, -2147483648 ≤ x ∧ x ≤ 2147483647) : zDy (h ++ [(k, l)]) := by
  intro q k' n i k1 k2 k3
  by_cases hq : q ≤ h.length
  · rw [congrFun (zOld.app (h := h) [(k, l)] |>.fl hq) i]
    refine Y q k' n i k1 ?_ k3
    unfold sh at k2 ⊢
    rw [cel_app _ q hq] at k2
    exact k2
  · have := (sh_pos k2).2
    rw [List.length_append, List.length_singleton] at this
    obtain rfl : q = ((h.length + 1 : Nat) : Int) := by omega
    rw [fld_of (cel_new (h := h) (k, l)), List.getD_eq_getElem?_getD]
    cases hx : l[i]? with
    | none => exact ⟨by decide, by decide⟩
    | some x => exact hl x (List.mem_of_getElem? hx)
theorem sh_new (k : Nat) (l : List Int) : sh (h ++ [(k, l)]) ((h.length + 1 : Nat) : Int) = some (k, l.length) := sh_of (cel_new _)
theorem fld_new (k : Nat) (l : List Int) (j : Nat) : fld (h ++ [(k, l)]) ((h.length + 1 : Nat) : Int) j = l.getD j 0 := fld_of (cel_new _)
theorem zXR.dy {ms : Zms} {c s : Int} (R : zXR ms c s h h') {k n j j1 j2 : Nat} (e : zqN ms (1000 + k) (1000 + k) j1 j2 = true) {r : Int} (hr : 365 < r) (s' : sh h r = some (k, n)) (h25 : k ≠ 25) (hj : j1 ≤ j ∧ j < j2) : fld h' r j = fld h r j := by
  refine R.2.2.2.2.2.2.1 r k n j hr s' h25 (fun f hf hz => ?_)
  have e := List.all_eq_true.mp e f hf
  simp only [Bool.or_eq_true] at e
  rcases e with e | e | e | e
  · have := Nat.le_of_ble_eq_true e
    omega
  · have := Nat.le_of_ble_eq_true e
    omega
  · have := Nat.le_of_ble_eq_true e
    omega
  · have := Nat.le_of_ble_eq_true e
    omega
/-- a list that isn't touched -/
theorem zXR.li {ms : Zms} {c s : Int} (R : zXR ms c s h h') {A : Nat} (hA : A ∈ zLis) (e : ms.all (fun f => Nat.blt f.2.1 A || Nat.blt A f.1) = true) : (∀ j : Nat, fld h' A j = fld h A j) ∧ (365 < fld h A 1 → ∀ i : Nat, fld h' (fld h A 1) i = fld h (fld h A 1) i) := by
  have hn : ∀ f ∈ ms, ¬ (f.1 ≤ A ∧ A ≤ f.2.1) := by
    intro f hf hz
    have e := List.all_eq_true.mp e f hf
    rw [Bool.or_eq_true] at e
    rcases e with e | e
    · have := Nat.le_of_ble_eq_true e
      omega
    · have := Nat.le_of_ble_eq_true e
      omega
  have hA2 : 0 < (A : Int) ∧ (A : Int) ≤ 365 := by
    unfold zLis at hA
    simp only [List.mem_cons, List.not_mem_nil, or_false] at hA
    omega
  exact ⟨fun j => R.2.1 A j hA2.1 hA2.2 (fun f hf hz => hn f hf (by omega)), R.2.2.2.2.2.2.2 A hA hn⟩
theorem CI.len (C : CI h) : 365 ≤ h.length := by
  have := sh_pos (C.1.s (a1 := 365) (a2 := 365) (k := 20) (n := 8) (by decide +kernel) (r := 365) (by decide) (by decide))
  omega
end ZX
