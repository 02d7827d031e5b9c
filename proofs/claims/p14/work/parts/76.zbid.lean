/-! idle hours, cotton, lots told: what grows -/
section ZID2
variable {h h1 g : Hp} {ms ms' : Zms} {c s c' s' : Int}
/-- one village more -/
theorem zId.ad {r a : Int} {k : Nat} (C : CI h) (C1 : CI h1) (R : zXR ms c s h h1) (S : zXR ms' c' s' h1 g) (D : zAd 2 h h1 r) (P : zId h) (w : fld h 2 2 = fld h 37 1) (e1 : (zqN ms 1011 1011 1 2 && zqN ms 39 46 0 4) = true) (e2 : (zun ms' 2 && zqN ms' 1011 1011 1 2) = true) (f : fld h1 r 1 = a) (ha : 0 ≤ a) (m : ∀ u s : Nat, u < 8 → s < 4 → fld g (39 + (u : Int)) s = if u = k then zid a s else fld h1 (39 + (u : Int)) s) (hk : (k : Int) = fld h 37 1) (n1 : fld g 37 1 = fld h 37 1 + 1) : zId g := by
  rw [Bool.and_eq_true] at e1 e2
  obtain ⟨k1, k2⟩ := e1
  obtain ⟨k3, k4⟩ := e2
  have hA : 2 ∈ zLis := by decide
  have D1 : fld h1 2 2 = fld h 2 2 + 1 := D.1
  have hb := zLis_b C1 (A := 2) hA
  have hb : 0 ≤ fld h1 2 2 ∧ fld h1 2 2 ≤ 8 := hb
  intro v hv
  rw [n1] at hv
  have hi : (v : Int) < fld h1 ((2 : Nat) : Int) 2 := by rw [show fld h1 ((2 : Nat) : Int) 2 = fld h1 2 2 from rfl]; omega
  rw [S.v C1 (A := 2) hA k3 hi, S.vf C1 (A := 2) (j := 1) hA k4 hi]
  have M : ∀ s, s < 4 → zSt g 39 (4 * v + s) = if v = k then zid a s else zSt h1 39 (4 * v + s) := fun s hs => by rw [zSt_39 hs, m v s (by omega) hs, zSt_39 hs]
  rcases D.cs C hA hi with ⟨z, e⟩ | ⟨z, e⟩
  · have z2 : (v : Int) < fld h 2 2 := z
    rw [e, R.vf C (A := 2) (j := 1) hA k1 z]
    obtain ⟨p1, p2⟩ := P v (by omega)
    refine ⟨p1, fun s hs => ?_⟩
    rw [M s hs, if_neg (by omega), p2 s hs, zSt_39 hs, zSt_39 hs]
    exact (R.f k2 ⟨by omega, by omega⟩ ⟨by omega, hs⟩ ⟨by omega, by omega⟩).symm
  · have z2 : (v : Int) = fld h 2 2 := z
    rw [e, f]
    exact ⟨ha, fun s hs => by rw [M s hs, if_pos (by omega)]⟩
theorem zCb.ad {x : Int} {k : Nat} (R : zXR ms c s h h1) (P : zCb h) (e : zqN ms 66 66 0 8 = true) (b : fld h 37 1 ≤ 7) (m : ∀ j : Nat, fld g 66 j = if j = k then x else fld h1 66 j) (hk : (k : Int) = fld h 37 1) (hx : 0 ≤ x ∧ x ≤ 9999) (n1 : fld g 37 1 = fld h 37 1 + 1) : zCb g := by
  intro v hv
  rw [n1] at hv
  rw [m v]
  split
  · exact hx
  · rw [show fld h1 66 v = fld h 66 v from R.f e ⟨by decide, by decide⟩ ⟨by omega, by omega⟩ ⟨by decide, by decide⟩]
    exact P v (by omega)
theorem zCb.up {x : Int} {k : Nat} (P : zCb h) (m : ∀ j : Nat, fld g 66 j = if j = k then x else fld h 66 j) (hx : 0 ≤ x ∧ x ≤ 9999) (n1 : fld g 37 1 = fld h 37 1) : zCb g := by
  intro v hv
  rw [n1] at hv
  rw [m v]
  split
  · exact hx
  · exact P v hv
/-- nothing is told -/
theorem zAk.no (n : fld g 20 2 = 0) : zAk g := fun i hi => by omega
theorem zX.n4 (X : zX h (zSt h)) : ∀ i : Nat, (i : Int) < fld h 4 2 → fld h (zv h 4 i) 0 = i := fun i hi => X.2.2.2 i (by rw [← X.1.2.2.1]; exact hi)
theorem zX.f3 (X : zX h (zSt h)) (w : fld h 2 2 = fld h 37 1) : zF1 2 3 66 h := fun i hi => (X.2.1 i (show (i : Int) < fld h 37 1 by rw [← w]; exact hi)).2.1
theorem zX.id (X : zX h (zSt h)) : zId h := fun v hv => (X.2.1 v hv).2.2
theorem zBs.cb (B : zBs (zSt h)) : zCb h := fun v hv => (B.2.1 v hv).1
/-- told is told on both sides -/
theorem zAk.tl {a : Int} (P : zAk h) (N : ∀ i : Nat, (i : Int) < fld h 4 2 → fld h (zv h 4 i) 0 = i) (ha : 0 ≤ a ∧ a < fld h 4 2) {i : Nat} (hi : (i : Int) < fld h 20 2) : zv h 20 i = zv h 4 a.toNat ↔ fld h 186 i = a := by
  obtain ⟨p1, p2, p3⟩ := P i hi
  rw [p3]
  constructor
  · intro z
    have q1 := N (fld h 186 i).toNat (by omega)
    have q2 := N a.toNat (by omega)
    rw [z] at q1
    omega
  · intro z
    rw [z]
end ZID2
