/-! spinning: what of the model it reads -/
section ZT2
variable {S T : zT} {h g h1 : Hp} {ms : Zms} {e k n : Nat}
/-- what of the model spinning reads -/
def zkA0 (ms : Zms) : Bool := (zqN ms 37 37 0 3 && zqN ms 79 81 0 20) && (zqN ms 85 85 0 20 && zqN ms 39 46 0 4)
def zkA1 (ms : Zms) : Bool := zkA0 ms && (zqN ms 37 37 64 65 && zqN ms 66 66 0 8)
theorem zkA0_f (R : zMR ms h g) (e : zkA0 ms = true) : (∀ i : Nat, i < 3 → fld g 37 i = fld h 37 i) ∧ (∀ i : Nat, i < 20 → fld g 79 i = fld h 79 i ∧ fld g 80 i = fld h 80 i ∧ fld g 81 i = fld h 81 i ∧ fld g 85 i = fld h 85 i) ∧ (∀ v s : Nat, v < 8 → s < 4 → zSt g 39 (4 * v + s) = zSt h 39 (4 * v + s)) := by
  unfold zkA0 at e
  simp only [Bool.and_eq_true] at e
  obtain ⟨⟨e1, e2⟩, e3, e4⟩ := e
  refine ⟨fun i hi => R.f e1 ⟨by decide, by decide⟩ ⟨by omega, hi⟩, fun i hi => ⟨R.f e2 ⟨by decide, by decide⟩ ⟨by omega, hi⟩, R.f e2 ⟨by decide, by decide⟩ ⟨by omega, hi⟩, R.f e2 ⟨by decide, by decide⟩ ⟨by omega, hi⟩, R.f e3 ⟨by decide, by decide⟩ ⟨by omega, hi⟩⟩, fun v s hv hs => ?_⟩
  rw [zSt_39 hs, zSt_39 hs]
  exact R.f e4 ⟨by omega, by omega⟩ ⟨by omega, hs⟩
theorem zAg.mr (A : zAg (zSt h1) T) (R : zMR ms h1 g) (e : zkA1 ms = true) (b1 : fld h1 37 1 ≤ 8) (b2 : fld h1 37 2 ≤ 20) : zAg (zSt g) T := by
  unfold zkA1 at e
  simp only [Bool.and_eq_true] at e
  obtain ⟨e0, e1, e2⟩ := e
  obtain ⟨f1, f2, f3⟩ := zkA0_f R e0
  have f4 : fld g 37 64 = fld h1 37 64 := R.f e1 ⟨by decide, by decide⟩ ⟨by decide, by decide⟩
  refine zAg.tr (T := zSt h1) ⟨⟨f1 0 (by decide), f1 1 (by decide), f1 2 (by decide), f4⟩, fun k hk => ?_, fun v hv => ?_⟩ A
  · have hk : (k : Int) < fld g 37 2 := hk
    rw [f1 2 (by decide)] at hk
    exact f2 k (by omega)
  · have hv : (v : Int) < fld g 37 1 := hv
    rw [f1 1 (by decide)] at hv
    exact ⟨R.f e2 ⟨by decide, by decide⟩ ⟨by omega, by omega⟩, fun s hs => f3 v s (by omega) hs⟩
theorem zAg.as (R : zMR ms h g) (e : (zkA0 ms && zqN ms 37 37 64 65) = true) (b1 : fld h 37 1 ≤ 8) (b2 : fld h 37 2 ≤ 20) (w : (∀ v : Nat, (v : Int) < fld h 37 1 → fld g 177 v = fld h 66 v) ∧ (∀ k : Nat, (k : Int) < fld h 37 2 → fld g 178 k = fld h 80 k ∧ fld g 179 k = fld h 81 k)) : zAg (zSt h) (zOv g) := by
  rw [Bool.and_eq_true] at e
  obtain ⟨f1, f2, f3⟩ := zkA0_f R e.1
  have f4 : fld g 37 64 = fld h 37 64 := R.f e.2 ⟨by decide, by decide⟩ ⟨by decide, by decide⟩
  refine ⟨⟨(f1 0 (by decide)).symm, (f1 1 (by decide)).symm, (f1 2 (by decide)).symm, f4.symm⟩, fun k hk => ?_, fun v hv => ?_⟩
  · have hk : (k : Int) < fld h 37 2 := hk
    have p := f2 k (by omega)
    have q := w.2 k hk
    exact ⟨p.1.symm, q.1.symm, q.2.symm, p.2.2.2.symm⟩
  · have hv : (v : Int) < fld h 37 1 := hv
    exact ⟨(w.1 v hv).symm, fun s hs => (f3 v s (by omega) hs).symm⟩
/-- the week ends: behind spinning -/
theorem zAg.nw {h : Hp} (A : zAg (zSt h1) (ySN (zSt h) (yEp (zSt h)) (fld h 37 2).toNat)) (R : zMR ms h1 g) (e : ((zqN ms 37 37 1 3 && zqN ms 79 81 0 20) && (zqN ms 85 85 0 20 && (zqN ms 39 46 0 4 && (zqN ms 37 37 64 65 && zqN ms 66 66 0 8)))) = true) (hn : fld g 37 0 = fld h 37 0 + 1) (b1 : fld h1 37 1 ≤ 8) (b2 : fld h1 37 2 ≤ 20) : zAg (zSt g) (yWk (zSt h)) := by
  simp only [Bool.and_eq_true] at e
  obtain ⟨⟨e1, e2⟩, e3, e4, e5, e6⟩ := e
  obtain ⟨⟨a1, a2, a3, a4⟩, a5, a6⟩ := A
  have f1 : fld g 37 1 = fld h1 37 1 := R.f e1 ⟨by decide, by decide⟩ ⟨by decide, by decide⟩
  have f2 : fld g 37 2 = fld h1 37 2 := R.f e1 ⟨by decide, by decide⟩ ⟨by decide, by decide⟩
  have f4 : fld g 37 64 = fld h1 37 64 := R.f e5 ⟨by decide, by decide⟩ ⟨by decide, by decide⟩
  unfold yWk
  refine ⟨⟨by rw [zs_eq]; exact hn, f1.trans a2, f2.trans a3, f4.trans a4⟩, fun k hk => ?_, fun v hv => ?_⟩
  · have hk : (k : Int) < fld g 37 2 := hk
    rw [f2] at hk
    obtain ⟨p1, p2, p3, p4⟩ := a5 k hk
    exact ⟨(R.f e2 ⟨by decide, by decide⟩ ⟨by omega, by omega⟩ : fld g 79 k = fld h1 79 k).trans p1, (R.f e2 ⟨by decide, by decide⟩ ⟨by omega, by omega⟩ : fld g 80 k = fld h1 80 k).trans p2, (R.f e2 ⟨by decide, by decide⟩ ⟨by omega, by omega⟩ : fld g 81 k = fld h1 81 k).trans p3, (R.f e3 ⟨by decide, by decide⟩ ⟨by omega, by omega⟩ : fld g 85 k = fld h1 85 k).trans p4⟩
  · have hv : (v : Int) < fld g 37 1 := hv
    rw [f1] at hv
    obtain ⟨p1, p2⟩ := a6 v hv
    refine ⟨(R.f e6 ⟨by decide, by decide⟩ ⟨by omega, by omega⟩ : fld g 66 v = fld h1 66 v).trans p1, fun s hs => ?_⟩
    refine Eq.trans ?_ (p2 s hs)
    rw [zSt_39 hs, zSt_39 hs]
    exact R.f e4 ⟨by omega, by omega⟩ ⟨by omega, hs⟩
theorem ySN_64 (B : zBs S) (he : e < 4) : ∀ n : Nat, (n : Int) ≤ S 37 2 → ySN S e n 37 64 = S 37 64 + zNZ (fun k => yX (ySN S e k) e k) n
  | 0, _ => by show S 37 64 = S 37 64 + 0; omega
  | n + 1, h => by
    have q := ySN_64 B he n (by omega)
    have b := yX_b (B.sn he n (by omega)) he (k := n) (by rw [ySN_ne (b := 37) (by decide) (Or.inr (by decide))]; omega)
    show yS1 (ySN S e n) e n 37 64 = S 37 64 + (zNZ (fun k => yX (ySN S e k) e k) n + (if yX (ySN S e n) e n = 0 then 0 else 1))
    by_cases z : yX (ySN S e n) e n = 0
    · rw [yS1_0 z, if_pos z, q]
      omega
    · rw [yS1_p (by omega), zs_eq, if_neg z, q]
      omega
theorem zAg.lay (R : zMR ms h g) (ek : zkA0 ms = true) (b1 : fld h 37 1 ≤ 8) (b2 : fld h 37 2 ≤ 20) (c1 : fld g 37 64 = ySN (zSt h) e n 37 64) (c2 : ∀ v : Nat, (v : Int) < fld h 37 1 → fld g 66 v = ySN (zSt h) e n 66 v) : zAg (zSt g) (ySN (zSt h) e n) := by
  obtain ⟨f1, f2, f3⟩ := zkA0_f R ek
  have y : ∀ b i : Nat, b ≠ 66 → b ≠ 37 ∨ i ≠ 64 → ySN (zSt h) e n b i = zSt h b i := fun b i p q => ySN_ne p q n
  refine ⟨⟨(f1 0 (by decide)).trans (y 37 0 (by decide) (Or.inr (by decide))).symm, (f1 1 (by decide)).trans (y 37 1 (by decide) (Or.inr (by decide))).symm, (f1 2 (by decide)).trans (y 37 2 (by decide) (Or.inr (by decide))).symm, c1⟩, fun k hk => ?_, fun v hv => ?_⟩
  · have hk : (k : Int) < fld g 37 2 := hk
    rw [f1 2 (by decide)] at hk
    have p := f2 k (by omega)
    rw [y 79 k (by decide) (Or.inl (by decide)), y 80 k (by decide) (Or.inl (by decide)), y 81 k (by decide) (Or.inl (by decide)), y 85 k (by decide) (Or.inl (by decide))]
    exact p
  · have hv : (v : Int) < fld g 37 1 := hv
    rw [f1 1 (by decide)] at hv
    exact ⟨c2 v hv, fun s hs => by rw [y 39 _ (by decide) (Or.inl (by decide))]; exact f3 v s (by omega) hs⟩
end ZT2
