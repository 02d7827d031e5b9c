/-! the class's objects tell the same numbers: what spinning needs -/
section ZX3
variable {h h' h1 h2 g : Hp} {S T : zT} {ms : Zms} {c s : Int}
def zX (h : Hp) (S : zT) : Prop :=
  (fld h 2 2 = S 37 1 ∧ fld h 3 2 = S 37 2 ∧ fld h 4 2 = S 37 64 ∧ fld h 1 0 = S 37 0) ∧
  (∀ v : Nat, (v : Int) < S 37 1 → fld h (zv h 2 v) 0 = v ∧ fld h (zv h 2 v) 3 = S 66 v ∧ 0 ≤ fld h (zv h 2 v) 1 ∧ ∀ s : Nat, s < 4 → zid (fld h (zv h 2 v) 1) s = S 39 (4 * v + s)) ∧
  (∀ k : Nat, (k : Int) < S 37 2 → fld h (zv h 3 k) 2 = S 80 k ∧ fld h (zv h 3 k) 3 = S 81 k ∧ fld h (zv h 3 k) 7 = S 85 k ∧ fld h (zv h 3 k) 1 = zv h 2 (S 79 k).toNat) ∧
  (∀ i : Nat, (i : Int) < S 37 64 → fld h (zv h 4 i) 0 = i)
theorem zX.cg (X : zX h S) (A : zAg S T) (B : zBs S) : zX h T := by
  obtain ⟨⟨x1, x2, x3, x4⟩, x5, x6, x7⟩ := X
  obtain ⟨⟨a1, a2, a3, a4⟩, a5, a6⟩ := A
  refine ⟨⟨by omega, by omega, by omega, by omega⟩, fun v hv => ?_, fun k hk => ?_, fun i hi => x7 i (by omega)⟩
  · obtain ⟨p1, p2, p3, p4⟩ := x5 v (by omega)
    obtain ⟨q1, q2⟩ := a6 v (by omega)
    exact ⟨p1, by omega, p3, fun s hs => (p4 s hs).trans (q2 s hs)⟩
  · obtain ⟨p1, p2, p3, p4⟩ := x6 k (by omega)
    obtain ⟨q1, q2, q3, q4⟩ := a5 k (by omega)
    exact ⟨by omega, by omega, by omega, by rw [← q1]; exact p4⟩
/-- a run that touches none of it -/
def zkX (ms : Zms) : Bool := (zun ms 2 && zun ms 3) && ((zqN ms 1 1 0 1 && zqN ms 1011 1011 0 2) && (zqN ms 1011 1011 3 4 && (zqN ms 1004 1004 1 4 && zqN ms 1004 1004 7 8)))
theorem zX.kp0 (X : zX h S) (C : CI h) (R : zXR ms c s h g) (e : zkX ms = true) (hb : (0 ≤ S 37 1 ∧ 0 ≤ S 37 2)) (hv : ∀ k : Nat, (k : Int) < S 37 2 → 0 ≤ S 79 k ∧ S 79 k < S 37 1) (h4 : fld g 4 2 = T 37 64) (h7 : ∀ i : Nat, (i : Int) < T 37 64 → fld g (zv g 4 i) 0 = i) (hT : ∀ b i : Nat, (b ≠ 37 ∨ i ≠ 64) → T b i = S b i) : zX g T := by
  unfold zkX at e
  simp only [Bool.and_eq_true] at e
  obtain ⟨⟨e1, e2⟩, ⟨e3, e4⟩, e5, e6, e7⟩ := e
  obtain ⟨⟨x1, x2, x3, x4⟩, x5, x6, x7⟩ := X
  have s2 := R.vz (A := 2) (by decide) e1
  have s3 := R.vz (A := 3) (by decide) e2
  have t1 := hT 37 1 (Or.inr (by decide))
  have t2 := hT 37 2 (Or.inr (by decide))
  have t0 := hT 37 0 (Or.inr (by decide))
  have f1 : fld g 1 0 = fld h 1 0 := R.f e3 ⟨by decide, by decide⟩ ⟨by decide, by decide⟩ ⟨by decide, by decide⟩
  refine ⟨⟨s2.trans (x1.trans t1.symm), s3.trans (x2.trans t2.symm), h4, f1.trans (x4.trans t0.symm)⟩, fun v hv => ?_, fun k hk => ?_, h7⟩
  · rw [t1] at hv
    have hi : (v : Int) < fld h (2 : Nat) 2 := by rw [show fld h ((2 : Nat) : Int) 2 = S 37 1 from x1]; exact hv
    obtain ⟨hr, n, s'⟩ := zv_s C (A := 2) (by decide) hi
    rw [R.v C (A := 2) (by decide) e1 hi, R.dy (k := 11) (j1 := 0) (j2 := 2) e4 hr s' (by decide) ⟨by decide, by decide⟩, R.dy (k := 11) (j1 := 3) (j2 := 4) e5 hr s' (by decide) ⟨by decide, by decide⟩, R.dy (k := 11) (j1 := 0) (j2 := 2) (j := 1) e4 hr s' (by decide) ⟨by decide, by decide⟩, hT 66 v (Or.inl (by decide))]
    obtain ⟨p1, p2, p3, p4⟩ := x5 v hv
    exact ⟨p1, p2, p3, fun s hs => by rw [hT 39 _ (Or.inl (by decide))]; exact p4 s hs⟩
  · rw [t2] at hk
    have hi : (k : Int) < fld h (3 : Nat) 2 := by rw [show fld h ((3 : Nat) : Int) 2 = S 37 2 from x2]; exact hk
    obtain ⟨hr, n, s'⟩ := zv_s C (A := 3) (by decide) hi
    obtain ⟨p1, p2, p3, p4⟩ := x6 k hk
    have w := hv k hk
    have hw : ((S 79 k).toNat : Int) < fld h (2 : Nat) 2 := by rw [show fld h ((2 : Nat) : Int) 2 = S 37 1 from x1]; omega
    rw [R.v C (A := 3) (by decide) e2 hi, R.dy (k := 4) (j1 := 1) (j2 := 4) (j := 2) e6 hr s' (by decide) ⟨by decide, by decide⟩, R.dy (k := 4) (j1 := 1) (j2 := 4) (j := 3) e6 hr s' (by decide) ⟨by decide, by decide⟩, R.dy (k := 4) (j1 := 7) (j2 := 8) (j := 7) e7 hr s' (by decide) ⟨by decide, by decide⟩, R.dy (k := 4) (j1 := 1) (j2 := 4) (j := 1) e6 hr s' (by decide) ⟨by decide, by decide⟩, hT 80 k (Or.inl (by decide)), hT 81 k (Or.inl (by decide)), hT 85 k (Or.inl (by decide)), hT 79 k (Or.inl (by decide)), R.v C (A := 2) (by decide) e1 hw]
    exact ⟨p1, p2, p3, p4⟩
theorem zBs.v (B : zBs S) : (0 ≤ S 37 1 ∧ 0 ≤ S 37 2) ∧ ∀ k : Nat, (k : Int) < S 37 2 → 0 ≤ S 79 k ∧ S 79 k < S 37 1 := ⟨⟨B.2.2.2.2.1.1, B.2.2.2.2.2.1⟩, fun k hk => (B.1 k hk).2.2.2⟩
theorem zX.kq (X : zX h S) (hb : (0 ≤ S 37 1 ∧ 0 ≤ S 37 2)) (hv : ∀ k : Nat, (k : Int) < S 37 2 → 0 ≤ S 79 k ∧ S 79 k < S 37 1) (C : CI h) (R : zXR ms c s h g) (e : (zkX ms && (zun ms 4 && zqN ms 1006 1006 0 1)) = true) : zX g S := by
  simp only [Bool.and_eq_true] at e
  obtain ⟨e1, e2, e3⟩ := e
  have s4 := R.vz (A := 4) (by decide) e2
  refine X.kp0 C R e1 hb hv (s4.trans X.1.2.2.1) (fun i hi => ?_) (fun _ _ _ => rfl)
  have hc : (i : Int) < fld h (4 : Nat) 2 := by rw [show fld h ((4 : Nat) : Int) 2 = S 37 64 from X.1.2.2.1]; exact hi
  rw [R.v C (A := 4) (by decide) e2 hc, R.vf C (A := 4) (by decide) e3 hc]
  exact X.2.2.2 i hi
theorem zX.kp (X : zX h S) (B : zBs S) (C : CI h) (R : zXR ms c s h g) (e : (zkX ms && (zun ms 4 && zqN ms 1006 1006 0 1)) = true) : zX g S := X.kq B.v.1 B.v.2 C R e
/-- one lot more -/
theorem zX.lot {r : Int} (X : zX h S) (hb : (0 ≤ S 37 1 ∧ 0 ≤ S 37 2)) (hv : ∀ k : Nat, (k : Int) < S 37 2 → 0 ≤ S 79 k ∧ S 79 k < S 37 1) (C : CI h) (D : zAdded h 4 r g) (G : gL h r) (hn : fld h r 0 = S 37 64) : zX g (zs S 37 64 (S 37 64 + 1)) := by
  refine X.kp0 C D.2.1 (by decide +kernel) hb hv ?_ (fun i hi => ?_) (fun b i hn => by rw [zs_if, if_neg (by omega)])
  · rw [zs_eq, ← X.1.2.2.1]
    exact D.2.2.1
  · rw [zs_eq] at hi
    have e4 : fld h ((4 : Nat) : Int) 2 = S 37 64 := X.1.2.2.1
    by_cases z : (i : Int) < S 37 64
    · have hc : (i : Int) < fld h (4 : Nat) 2 := by rw [e4]; exact z
      obtain ⟨hr, n, s'⟩ := zv_s C (A := 4) (by decide) hc
      rw [D.v hc, zAdded.o C (by decide) D s' (by decide) hr]
      exact X.2.2.2 i z
    · have e5 : zv g 4 i = r := by
        rw [← D.2.2.2.2.1]
        show fld g (fld g (4 : Nat) 1) i = _
        congr 1
        omega
      rw [e5, zAdded.o C (by decide) D G.2.1 (by decide) G.1, hn]
      omega
/-- cotton is less -/
theorem zX.ct {r x : Int} {v : Nat} (X : zX h S) (B : zBs S) (C : CI h) (e : h' = wr h r 3 x) (R : zXR [(1011, 1011, 3, 4)] 0 0 h h') (hv : (v : Int) < S 37 1) (hr : r = zv h 2 v) : zX h' (zs S 66 v x) := by
  obtain ⟨⟨x1, x2, x3, x4⟩, x5, x6, x7⟩ := X
  have e1 : zun [(1011, 1011, 3, 4)] 2 = true := by decide
  have e2 : zun [(1011, 1011, 3, 4)] 3 = true := by decide
  have hc : ∀ u : Nat, (u : Int) < S 37 1 → (u : Int) < fld h (2 : Nat) 2 := fun u hu => by rw [show fld h ((2 : Nat) : Int) 2 = S 37 1 from x1]; exact hu
  obtain ⟨hr0, n0, sr⟩ := zv_s C (A := 2) (by decide) (hc v hv)
  rw [← hr] at hr0 sr
  have gr := (zv_g C (A := 2) (by decide) (hc v hv)).2
  rw [← hr] at gr
  have gV' : gV h r := gr
  refine ⟨⟨(R.vz (A := 2) (by decide) e1).trans x1, (R.vz (A := 3) (by decide) e2).trans x2, (R.f (a1 := 4) (a2 := 4) (j1 := 2) (j2 := 3) (by decide) (r := 4) ⟨by decide, by decide⟩ ⟨by decide, by decide⟩ ⟨by decide, by decide⟩).trans x3, (R.f (a1 := 1) (a2 := 1) (j1 := 0) (j2 := 1) (by decide) (r := 1) ⟨by decide, by decide⟩ ⟨by decide, by decide⟩ ⟨by decide, by decide⟩).trans x4⟩, fun u hu => ?_, fun k hk => ?_, fun i hi => ?_⟩
  rotate_left 2
  · have hc : (i : Int) < fld h (4 : Nat) 2 := by rw [show fld h ((4 : Nat) : Int) 2 = S 37 64 from x3]; exact hi
    rw [R.v C (A := 4) (by decide) (by decide) hc, R.vf C (A := 4) (by decide) (by decide) hc]
    exact x7 i hi
  · have hu : (u : Int) < S 37 1 := hu
    obtain ⟨p1, p2, p3, p4⟩ := x5 u hu
    rw [R.v C (A := 2) (by decide) e1 (hc u hu)]
    have f0 : fld h' (zv h 2 u) 0 = fld h (zv h 2 u) 0 := by rw [e]; exact fld_wr (Or.inr (by decide))
    have f1 : fld h' (zv h 2 u) 1 = fld h (zv h 2 u) 1 := by rw [e]; exact fld_wr (Or.inr (by decide))
    rw [f0, f1]
    refine ⟨p1, ?_, p3, p4⟩
    show _ = zs S 66 v x 66 u
    rw [zs_if]
    by_cases z : u = v
    · rw [if_pos ⟨rfl, z⟩, z, ← hr, e]
      exact fld_wr_eq gV'.2.1 (by decide)
    · rw [if_neg (fun w => z w.2), e, fld_wr (Or.inl (fun w => z ?_))]
      · exact p2
      · have q := (x5 v hv).1
        rw [← hr, ← w, p1] at q
        omega
  · have hk : (k : Int) < S 37 2 := hk
    obtain ⟨p1, p2, p3, p4⟩ := x6 k hk
    have hi : (k : Int) < fld h (3 : Nat) 2 := by rw [show fld h ((3 : Nat) : Int) 2 = S 37 2 from x2]; exact hk
    obtain ⟨hr', n, s'⟩ := zv_s C (A := 3) (by decide) hi
    have w := B.v.2 k hk
    rw [R.v C (A := 3) (by decide) e2 hi, R.dy (k := 4) (j1 := 1) (j2 := 8) (j := 2) (by decide) hr' s' (by decide) ⟨by decide, by decide⟩, R.dy (k := 4) (j1 := 1) (j2 := 8) (j := 3) (by decide) hr' s' (by decide) ⟨by decide, by decide⟩, R.dy (k := 4) (j1 := 1) (j2 := 8) (j := 7) (by decide) hr' s' (by decide) ⟨by decide, by decide⟩, R.dy (k := 4) (j1 := 1) (j2 := 8) (j := 1) (by decide) hr' s' (by decide) ⟨by decide, by decide⟩]
    exact ⟨p1, p2, p3, p4.trans (R.v C (A := 2) (by decide) e1 (hc _ (by omega))).symm⟩
/-- the week ends -/
theorem zX.now {x : Int} (X : zX h S) (B : zBs S) (C : CI h) (e : h' = wr h 1 0 x) (R : zXR [(1, 1, 0, 1)] 0 0 h h') (sh1 : sh h 1 = some (12, 13)) : zX h' (zs S 37 0 x) := by
  obtain ⟨⟨x1, x2, x3, x4⟩, x5, x6, x7⟩ := X
  have e1 : zun [(1, 1, 0, 1)] 2 = true := by decide
  have e2 : zun [(1, 1, 0, 1)] 3 = true := by decide
  have hc : ∀ u : Nat, (u : Int) < S 37 1 → (u : Int) < fld h (2 : Nat) 2 := fun u hu => by rw [show fld h ((2 : Nat) : Int) 2 = S 37 1 from x1]; exact hu
  refine ⟨⟨(R.vz (A := 2) (by decide) e1).trans x1, (R.vz (A := 3) (by decide) e2).trans x2, (R.f (a1 := 4) (a2 := 4) (j1 := 2) (j2 := 3) (by decide) (r := 4) ⟨by decide, by decide⟩ ⟨by decide, by decide⟩ ⟨by decide, by decide⟩).trans x3, by rw [zs_eq, e]; exact fld_wr_eq sh1 (by decide)⟩, fun u hu => ?_, fun k hk => ?_, fun i hi => ?_⟩
  rotate_left 2
  · have hc : (i : Int) < fld h (4 : Nat) 2 := by rw [show fld h ((4 : Nat) : Int) 2 = S 37 64 from x3]; exact hi
    rw [R.v C (A := 4) (by decide) (by decide) hc, R.vf C (A := 4) (by decide) (by decide) hc]
    exact x7 i hi
  · have hu : (u : Int) < S 37 1 := hu
    obtain ⟨p1, p2, p3, p4⟩ := x5 u hu
    obtain ⟨hr', n, s'⟩ := zv_s C (A := 2) (by decide) (hc u hu)
    rw [R.v C (A := 2) (by decide) e1 (hc u hu)]
    have f : ∀ j : Nat, fld h' (zv h 2 u) j = fld h (zv h 2 u) j := fun j => by rw [e]; exact fld_wr (Or.inl (by omega))
    rw [f 0, f 1, f 3]
    exact ⟨p1, p2, p3, p4⟩
  · have hk : (k : Int) < S 37 2 := hk
    obtain ⟨p1, p2, p3, p4⟩ := x6 k hk
    have hi : (k : Int) < fld h (3 : Nat) 2 := by rw [show fld h ((3 : Nat) : Int) 2 = S 37 2 from x2]; exact hk
    obtain ⟨hr', n, s'⟩ := zv_s C (A := 3) (by decide) hi
    have w := B.v.2 k hk
    rw [R.v C (A := 3) (by decide) e2 hi]
    have f : ∀ j : Nat, fld h' (zv h 3 k) j = fld h (zv h 3 k) j := fun j => by rw [e]; exact fld_wr (Or.inl (by omega))
    rw [f 1, f 2, f 3, f 7]
    exact ⟨p1, p2, p3, p4.trans (R.v C (A := 2) (by decide) e1 (hc _ (by omega))).symm⟩
end ZX3
section ZPF
variable {h h1 g : Hp} {ms : Zms} {c s : Int}
/-- the lots that were stand where they stood -/
def zPf (h g : Hp) : Prop := fld h 4 2 ≤ fld g 4 2 ∧ ∀ i : Nat, (i : Int) < fld h 4 2 → zv g 4 i = zv h 4 i
theorem zPf.rf : zPf h h := ⟨Int.le_refl _, fun _ _ => rfl⟩
theorem zPf.tr (P : zPf h h1) (Q : zPf h1 g) : zPf h g := ⟨Int.le_trans P.1 Q.1, fun i hi => (Q.2 i (by have := P.1; omega)).trans (P.2 i hi)⟩
theorem zPf.kp (P : zPf h h1) (C : CI h1) (R : zXR ms c s h1 g) (e : zun ms 4 = true) : zPf h g := by
  have s4 := R.vz (A := 4) (by decide) e
  have s4 : fld g 4 2 = fld h1 4 2 := s4
  refine P.tr ⟨by omega, fun i hi => R.v C (A := 4) (by decide) e hi⟩
theorem zPf.ad {r : Int} (P : zPf h h1) (D : zAdded h1 4 r g) : zPf h g := by
  have s4 : fld g 4 2 = fld h1 4 2 + 1 := D.2.2.1
  exact P.tr ⟨by omega, fun i hi => D.v hi⟩
end ZPF
section ZID
variable {h h1 g : Hp} {ms ms' : Zms} {c s c' s' : Int}
/-- idle hours -/
def zId (h : Hp) : Prop := ∀ v : Nat, (v : Int) < fld h 37 1 → 0 ≤ fld h (zv h 2 v) 1 ∧ ∀ s : Nat, s < 4 → zid (fld h (zv h 2 v) 1) s = zSt h 39 (4 * v + s)
/-- lots told -/
def zAk (h : Hp) : Prop := ∀ i : Nat, (i : Int) < fld h 20 2 → 0 ≤ fld h 186 i ∧ fld h 186 i < fld h 4 2 ∧ zv h 20 i = zv h 4 (fld h 186 i).toNat
def zkId (ms : Zms) : Bool := zun ms 2 && (zqN ms 1011 1011 1 2 && (zqN ms 39 46 0 4 && zqN ms 37 37 1 2))
theorem zId.kp (P : zId h) (C : CI h) (R : zXR ms c s h g) (e : zkId ms = true) (w : fld h 2 2 = fld h 37 1) : zId g := by
  unfold zkId at e
  simp only [Bool.and_eq_true] at e
  obtain ⟨e1, e2, e3, e4⟩ := e
  have n1 : fld g 37 1 = fld h 37 1 := R.f e4 ⟨by decide, by decide⟩ ⟨by decide, by decide⟩ ⟨by decide, by decide⟩
  have hb := zLis_b C (A := 2) (by decide)
  have hb : 0 ≤ fld h 2 2 ∧ fld h 2 2 ≤ 8 := hb
  intro v hv
  rw [n1] at hv
  have hc : (v : Int) < fld h ((2 : Nat) : Int) 2 := by rw [show fld h ((2 : Nat) : Int) 2 = fld h 37 1 from w]; exact hv
  obtain ⟨p1, p2⟩ := P v hv
  rw [R.v C (A := 2) (by decide) e1 hc, R.vf C (A := 2) (j := 1) (by decide) e2 hc]
  refine ⟨p1, fun s hs => (p2 s hs).trans ?_⟩
  rw [zSt_39 hs, zSt_39 hs]
  exact (R.f e3 ⟨by omega, by omega⟩ ⟨by omega, hs⟩ ⟨by omega, by omega⟩).symm
def zkCb (ms : Zms) : Bool := zqN ms 66 66 0 8 && zqN ms 37 37 1 2
theorem zCb.kp (P : zCb h) (R : zXR ms c s h g) (e : zkCb ms = true) (b : fld h 37 1 ≤ 8) : zCb g := by
  unfold zkCb at e
  rw [Bool.and_eq_true] at e
  have n1 : fld g 37 1 = fld h 37 1 := R.f e.2 ⟨by decide, by decide⟩ ⟨by decide, by decide⟩ ⟨by decide, by decide⟩
  intro v hv
  rw [n1] at hv
  rw [show fld g 66 v = fld h 66 v from R.f e.1 ⟨by decide, by decide⟩ ⟨by omega, by omega⟩ ⟨by decide, by decide⟩]
  exact P v hv
def zkAks (ms : Zms) : Bool := zun ms 20 && (zun ms 4 && zqN ms 186 186 0 6)
theorem zAk.kp (P : zAk h) (C : CI h) (R : zXR ms c s h g) (e : zkAks ms = true) : zAk g := by
  unfold zkAks at e
  simp only [Bool.and_eq_true] at e
  obtain ⟨e1, e2, e3⟩ := e
  have s20 := R.vz (A := 20) (by decide) e1
  have s4 := R.vz (A := 4) (by decide) e2
  have s20 : fld g 20 2 = fld h 20 2 := s20
  have s4 : fld g 4 2 = fld h 4 2 := s4
  have hb := zLis_b C (A := 20) (by decide)
  have hb : 0 ≤ fld h 20 2 ∧ fld h 20 2 ≤ 6 := hb
  intro i hi
  rw [s20] at hi
  obtain ⟨p1, p2, p3⟩ := P i hi
  have f : fld g 186 i = fld h 186 i := R.f e3 ⟨by decide, by decide⟩ ⟨by omega, by omega⟩ ⟨by decide, by decide⟩
  rw [f, s4, R.v C (A := 20) (by decide) e1 (show (i : Int) < fld h ((20 : Nat) : Int) 2 from hi), R.v C (A := 4) (by decide) e2 (show (((fld h 186 i).toNat : Nat) : Int) < fld h ((4 : Nat) : Int) 2 by rw [show fld h ((4 : Nat) : Int) 2 = fld h 4 2 from rfl]; omega)]
  exact ⟨p1, p2, p3⟩
/-- lots came -/
theorem zAk.go (P : zAk h) (C : CI h) (C1 : CI h1) (R : zXR ms c s h h1) (S : zXR ms' c' s' h1 g) (e1 : (zun ms 20 && zqN ms 186 186 0 6) = true) (e2 : zkAks ms' = true) (F : zPf h h1) : zAk g := by
  refine zAk.kp (h := h1) ?_ C1 S e2
  rw [Bool.and_eq_true] at e1
  have s20 := R.vz (A := 20) (by decide) e1.1
  have s20 : fld h1 20 2 = fld h 20 2 := s20
  have hb := zLis_b C (A := 20) (by decide)
  have hb : 0 ≤ fld h 20 2 ∧ fld h 20 2 ≤ 6 := hb
  intro i hi
  rw [s20] at hi
  obtain ⟨p1, p2, p3⟩ := P i hi
  have f : fld h1 186 i = fld h 186 i := R.f e1.2 ⟨by decide, by decide⟩ ⟨by omega, by omega⟩ ⟨by decide, by decide⟩
  rw [f, R.v C (A := 20) (by decide) e1.1 (show (i : Int) < fld h ((20 : Nat) : Int) 2 from hi), F.2 _ (by omega)]
  exact ⟨p1, by have := F.1; omega, p3⟩
/-- one more is told -/
theorem zAk.ask {a : Int} (P : zAk h) (C : CI h) (C1 : CI h1) (R : zXR ms c s h h1) (S : zXR ms' c' s' h1 g) (e1 : (zun ms 4 && zqN ms 186 186 0 6) = true) (e2 : (zun ms' 20 && zun ms' 4) = true) (ha : 0 ≤ a ∧ a < fld h 4 2) (d1 : fld h1 20 2 = fld h 20 2 + 1) (d2 : ∀ i : Nat, (i : Int) < fld h 20 2 → fld h1 (fld h1 20 1) i = fld h (fld h 20 1) i) (d3 : fld h1 (fld h1 20 1) (fld h 20 2).toNat = fld h (fld h 4 1) a.toNat) (k : Nat) (hk : (k : Int) = fld h 20 2) (m : ∀ j : Nat, fld g 186 j = if j = k then a else fld h1 186 j) : zAk g := by
  rw [Bool.and_eq_true] at e1 e2
  have s4 := R.vz (A := 4) (by decide) e1.1
  have s4 : fld h1 4 2 = fld h 4 2 := s4
  have t4 := S.vz (A := 4) (by decide) e2.2
  have t4 : fld g 4 2 = fld h1 4 2 := t4
  have t20 := S.vz (A := 20) (by decide) e2.1
  have t20 : fld g 20 2 = fld h1 20 2 := t20
  have hb := zLis_b C (A := 20) (by decide)
  have hb : 0 ≤ fld h 20 2 ∧ fld h 20 2 ≤ 6 := hb
  have v4 : ∀ j : Nat, (j : Int) < fld h 4 2 → zv g 4 j = zv h 4 j := fun j hj => (S.v C1 (A := 4) (by decide) e2.2 (show (j : Int) < fld h1 ((4 : Nat) : Int) 2 by rw [show fld h1 ((4 : Nat) : Int) 2 = fld h1 4 2 from rfl]; omega)).trans (R.v C (A := 4) (by decide) e1.1 hj)
  intro i hi
  rw [t20, d1] at hi
  rw [m i, t4, s4, S.v C1 (A := 20) (by decide) e2.1 (show (i : Int) < fld h1 ((20 : Nat) : Int) 2 by rw [show fld h1 ((20 : Nat) : Int) 2 = fld h1 20 2 from rfl]; omega)]
  by_cases z : i = k
  · rw [if_pos z]
    refine ⟨ha.1, ha.2, ?_⟩
    rw [v4 _ (by omega)]
    show fld h1 (fld h1 20 1) i = fld h (fld h 4 1) a.toNat
    rw [← d3]
    congr 1
    omega
  · rw [if_neg z]
    obtain ⟨p1, p2, p3⟩ := P i (by omega)
    have f : fld h1 186 i = fld h 186 i := R.f e1.2 ⟨by decide, by decide⟩ ⟨by omega, by omega⟩ ⟨by decide, by decide⟩
    rw [f, v4 _ (by omega)]
    refine ⟨p1, p2, ?_⟩
    rw [← p3]
    exact d2 i (by omega)
/-- the model's part is as it was -/
theorem zAg.sm (e : ∀ r : Int, 37 ≤ r ∧ r ≤ 365 → fld g r = fld h r) (b1 : fld h 37 1 ≤ 8) : zAg (zSt h) (zSt g) := by
  have q : ∀ a i : Nat, (37 ≤ a ∧ a ≤ 365 ∧ a ≠ 39) → zSt h a i = zSt g a i := fun a i ha => by
    unfold zSt
    rw [if_neg ha.2.2, if_neg ha.2.2, e a (by omega)]
  refine ⟨⟨q 37 0 (by decide), q 37 1 (by decide), q 37 2 (by decide), q 37 64 (by decide)⟩, fun k hk => ⟨q 79 k (by decide), q 80 k (by decide), q 81 k (by decide), q 85 k (by decide)⟩, fun v hv => ⟨q 66 v (by decide), fun s hs => ?_⟩⟩
  have hv : (v : Int) < fld h 37 1 := hv
  rw [zSt_39 hs, zSt_39 hs, e _ (by omega)]
end ZID
