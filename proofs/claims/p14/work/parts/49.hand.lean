/-! the model's hands -/
section ZV
variable {sc : List Int} {h g h1 : Hp} {ms : Zms}
def zdis (ms : Zms) (a b : Nat) : Bool := ms.all (fun q => Nat.blt q.2.1 a || Nat.blt b q.1)
theorem zMR.rg (R : zMR ms h g) {a b : Nat} (e : zdis ms a b = true) {r : Int} (k1 : (a : Int) ≤ r) (k2 : r ≤ (b : Int)) : fld g r = fld h r := by
  refine funext (fun j => R.2.2.2 _ j (fun f hf hz => ?_))
  have e := List.all_eq_true.mp e f hf
  rw [Bool.or_eq_true] at e
  rcases e with e | e
  · have := Nat.le_of_ble_eq_true e
    omega
  · have := Nat.le_of_ble_eq_true e
    omega
def zHd (ms : Zms) : Bool := zqN ms 37 37 87 88 && (zdis ms 91 91 && zdis ms 188 188)
theorem zHd.of (R : zMR ms h g) (e : zHd ms = true) : fld g 37 87 = fld h 37 87 ∧ fld g 91 = fld h 91 ∧ fld g 188 = fld h 188 := by
  unfold zHd at e
  simp only [Bool.and_eq_true] at e
  exact ⟨R.f1 87 e.1, R.rg e.2.1 (r := 91) (by decide) (by decide), R.rg e.2.2 (r := 188) (by decide) (by decide)⟩
def zMYn (h : Hp) (n : Int) : Prop := n ≤ 6 ∧ ∀ (k i : Nat), (k : Int) < n → (i : Int) < fld h 37 87 → fld h (192 + (k : Int)) i ≠ 0 → 0 < fld h 91 (fld h 188 i).toNat
def zMYr (h : Hp) (k n : Int) : Prop := (0 ≤ k ∧ k ≤ 5) ∧ ∀ i : Nat, (i : Int) < n → fld h (192 + k) i ≠ 0 → 0 < fld h 91 (fld h 188 i).toNat
theorem zMYn.mr {n : Int} (H : zMYn h n) (R : zMR ms h g) (e : (zHd ms && zdis ms 192 197) = true) : zMYn g n := by
  rw [Bool.and_eq_true] at e
  obtain ⟨e1, e2, e3⟩ := zHd.of R e.1
  refine ⟨H.1, fun k i hk hi hm => ?_⟩
  have h6 := H.1
  rw [R.rg e.2 (by omega) (by omega)] at hm
  rw [e2, e3]
  exact H.2 k i hk (by omega) hm
theorem zMYr.mr {k n : Int} (H : zMYr h k n) (R : zMR ms h g) (e : (zHd ms && zdis ms 192 197) = true) : zMYr g k n := by
  rw [Bool.and_eq_true] at e
  obtain ⟨e1, e2, e3⟩ := zHd.of R e.1
  refine ⟨H.1, fun i hi hm => ?_⟩
  have h6 := H.1
  rw [R.rg e.2 (by omega) (by omega)] at hm
  rw [e2, e3]
  exact H.2 i hi hm
theorem zMYn.w {n k x : Int} {j : Nat} (H : zMYn h n) (e : g = wr h (192 + k) j x) (hk : n ≤ k ∧ k ≤ 5) : zMYn g n := by
  refine ⟨H.1, fun q i hq hi hm => ?_⟩
  rw [e, fld_wr (Or.inl (by omega))] at hi
  rw [e, fld_wr (Or.inl (by omega))] at hm
  rw [e, fld_wr (Or.inl (by omega)), fld_wr (Or.inl (by omega))]
  exact H.2 q i hq hi hm
theorem zMYr.s {k n x : Int} {j : Nat} (H : zMYr h k n) (e : g = wr h (192 + k) j x) (hj : (j : Int) = n) (hs : sh h (192 + k) = some (22, 6)) (h6 : j < 6) (hx : x ≠ 0 → 0 < fld h 91 (fld h 188 j).toNat) : zMYr g k (n + 1) := by
  have hk := H.1
  refine ⟨H.1, fun i hi hm => ?_⟩
  rw [e, fld_wr (Or.inl (by omega)), fld_wr (Or.inl (by omega))]
  by_cases hq : i = j
  · rw [hq, e, fld_wr_eq hs h6] at hm
    rw [hq]
    exact hx hm
  · rw [e, fld_wr (Or.inr hq)] at hm
    exact H.2 i (by omega) hm
theorem zMYn.s {k n : Int} (H : zMYn h k) (H2 : zMYr h k n) (hn : fld h 37 87 ≤ n) : zMYn h (k + 1) := by
  refine ⟨by have := H2.1; omega, fun q i hq hi hm => ?_⟩
  by_cases hz : (q : Int) < k
  · exact H.2 q i hz hi hm
  · have : (q : Int) = k := by omega
    rw [this] at hm
    exact H2.2 i (by omega) hm
/-- the line so far: who weaves has a loom -/
def zLn (h : Hp) (n : Int) : Prop := n ≤ 6 ∧ ∀ (k i : Nat), (k : Int) < n → (i : Int) < fld h 37 87 → fld h 189 k = (i : Int) → 0 < fld h 91 (fld h 188 i).toNat
theorem zLn.mr {n : Int} (H : zLn h n) (R : zMR ms h g) (e : (zHd ms && zdis ms 189 189) = true) : zLn g n := by
  rw [Bool.and_eq_true] at e
  obtain ⟨e1, e2, e3⟩ := zHd.of R e.1
  refine ⟨H.1, fun k i hk hi hm => ?_⟩
  rw [R.rg e.2 (r := 189) (by decide) (by decide)] at hm
  rw [e2, e3]
  exact H.2 k i hk (by omega) hm
/-- a run that leaves the line's start alone -/
theorem zLn.kp {n : Int} (H : zLn h n) (R : zMR ms h g) (e : zHd ms = true) (hl : ∀ j : Nat, (j : Int) < n → fld g 189 j = fld h 189 j) : zLn g n := by
  obtain ⟨e1, e2, e3⟩ := zHd.of R e
  refine ⟨H.1, fun k i hk hi hm => ?_⟩
  rw [hl k hk] at hm
  rw [e2, e3]
  exact H.2 k i hk (by omega) hm
theorem zLn.s {n x : Int} {j : Nat} (H : zLn h n) (e : g = wr h 189 j x) (hj : (j : Int) = n) (h6 : j < 6) (hs : sh h 189 = some (20, 6)) (hx : ∀ i : Nat, (i : Int) < fld h 37 87 → x = (i : Int) → 0 < fld h 91 (fld h 188 i).toNat) : zLn g (n + 1) := by
  refine ⟨by omega, fun k i hk hi hm => ?_⟩
  rw [e, fld_wr (Or.inl (by decide))] at hi
  rw [e, fld_wr (Or.inl (by decide)), fld_wr (Or.inl (by decide))]
  by_cases hq : k = j
  · rw [hq, e, fld_wr_eq hs h6] at hm
    exact hx i hi hm
  · rw [e, fld_wr (Or.inr hq)] at hm
    exact H.2 k i (by omega) hi hm
def msT : Zms := [(37, 37, 88, 91), (189, 189, 0, 6), (190, 190, 0, 6)]
def zTX (sc : List Int) (D : Nat) (k : Int) : Prop := ∀ h : Hp, zI h → zMYn h (fld h 37 86) → zLn h k → k ≤ fld h 37 86 → zwC sc D 213 [(2, 37), (0, k)] h (zwRv (fun g => zI g ∧ zMR msT h g ∧ ∀ j : Nat, (j : Int) < k → fld g 189 j = fld h 189 j))
end ZV
