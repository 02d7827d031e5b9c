/-! joined: 94.c_rel 94.d_start -/
section
/-! class and model alike: all tables -/
section YREL
variable {h h1 g : Hp} {ms ms' : Zms} {c s c' s' : Int} {a i k n : Nat} {x : Int} {q : qT}
/-- what clauses answer now -/
def zQq (h : Hp) : qT := fun c w N => zTl h c w N
theorem mRq.xr (P : mRq q h) (R : zXR ms c s h g) (e : zkMq ms = true) : mRq q g := by
  obtain ⟨p1, p2, p3, p4⟩ := P
  unfold zkMq at e
  simp only [Bool.and_eq_true] at e
  obtain ⟨⟨e1, e2⟩, e3, e4, e5⟩ := e
  have f1 : fld g 37 52 = fld h 37 52 := R.f e5 ⟨by decide, by decide⟩ ⟨by decide, by decide⟩ ⟨by decide, by decide⟩
  have f2 : fld g 37 53 = fld h 37 53 := R.f e5 ⟨by decide, by decide⟩ ⟨by decide, by decide⟩ ⟨by decide, by decide⟩
  have f3 : fld g 164 = fld h 164 := R.fa (a := 164) e3 (by decide)
  have f4 : fld g 165 = fld h 165 := R.fa (a := 165) e4 (by decide)
  have r1 : ∀ r : Int, 101 ≤ r → r ≤ 148 → fld g r = fld h r := fun r u v => R.rw e1 (by decide) (by decide) u v
  have r2 : ∀ r : Int, 155 ≤ r → r ≤ 162 → fld g r = fld h r := fun r u v => R.rw e2 (by decide) (by decide) u v
  refine ⟨p1.of r1 r2 f1 p3.2, fun k hk => ?_, by omega, fun c w N c0 c1 => ?_⟩
  · rw [f3, f1]
    exact p2 k (by omega)
  · rw [← p4 c w N c0 c1]
    exact zTl_of r1 r2 f3 f4 f2 (fun k hk => by have := p2 k hk; omega) ⟨c0, c1⟩
def zkCk (ms : Zms) : Bool := zuw ms 101 148 && (zuw ms 155 162 && zqN ms 37 37 52 53)
theorem zCk.xr (K : zCk h) (R : zXR ms c s h g) (e : zkCk ms = true) (b : fld h 37 52 ≤ 8) : zCk g := by
  unfold zkCk at e
  simp only [Bool.and_eq_true] at e
  exact K.of (fun r u v => R.rw e.1 (by decide) (by decide) u v) (fun r u v => R.rw e.2.1 (by decide) (by decide) u v) (R.f e.2.2 ⟨by decide, by decide⟩ ⟨by decide, by decide⟩ ⟨by decide, by decide⟩) b
theorem zRq_q (P : zShe h) (F : zFo h) (K : zCk h) (e1 : fld h 13 1 = fld h 37 53) (e2 : fld h 14 2 = fld h 37 52) : zRq (zQq h) h := ⟨⟨P, F, K⟩, ⟨e1, e2⟩, fun _ _ _ _ _ => rfl⟩
theorem mRq_q (F : zFo h) (K : zCk h) (e1 : fld h 13 1 = fld h 37 53) (e2 : fld h 14 2 = fld h 37 52) (b : 0 ≤ fld h 37 52 ∧ fld h 37 52 ≤ 8) : mRq (zQq h) h := ⟨K, fun k hk => by have w := (F k (by omega)).1; omega, b, fun _ _ _ _ _ => rfl⟩
theorem zLw_of (P : zRO h) : zLw h := fun a b ha hb => by
  obtain ⟨p1, p2⟩ := P.2.2 a b ha hb
  have e : fld h 7 (8 * a + b) = zLa h a b := rfl
  rw [e, p1]
  by_cases z : a = b
  · rw [if_pos z]
    exact Or.inl ⟨z, rfl⟩
  · rw [if_neg z]
    right
    refine ⟨z, ?_⟩
    by_cases w : fld h (48 + (a : Int)) b = 0
    · rw [if_pos w]
      exact ⟨by decide, by decide⟩
    · rw [if_neg w]
      have := p2 w
      omega
theorem yF8_of (P : zRO h) : yF8 (yM h) := fun u v hu hv => by
  rw [yM_8 (by omega)]
  exact (P.2.1.1 u v hu hv).1
theorem yM_o (e1 : a ≠ 37) (e2 : a ≠ 186) (hi : ySz a ≤ i) : yM h a i = 0 := by
  unfold yM
  rw [zbq_f e1, zbq_f e2]
  simp only [cond_false]
  cases c4 : Nat.blt i (ySz a) with
  | false => rfl
  | true => exact absurd (Nat.le_of_ble_eq_true c4) (by omega)
theorem y48_of (P : zRO h) : yM h 48 i = yC h 48 i := by
  show _ = (if i < 64 then (if fld h 7 i = 1000000 then 0 else fld h 7 i) else 0)
  by_cases hi : i < 64
  · obtain ⟨v, j, hv, hj, e⟩ : ∃ v j : Nat, v < 8 ∧ j < 8 ∧ i = 8 * v + j := ⟨i / 8, i % 8, by omega, by omega, by omega⟩
    subst e
    obtain ⟨p1, p2⟩ := P.2.2 v j hv hj
    rw [yM_2 (a := 48) (w := 8) rfl hj (by show _ < 64; omega), if_pos hi, show fld h 7 (8 * v + j) = zLa h v j from rfl, p1, show ((48 + v : Nat) : Int) = 48 + (v : Int) by omega]
    by_cases z : v = j
    · rw [if_pos z, if_neg (by decide)]
      by_cases w : fld h (48 + (v : Int)) j = 0
      · exact w
      · exact absurd z (p2 w).1
    · rw [if_neg z]
      by_cases w : fld h (48 + (v : Int)) j = 0
      · rw [if_pos w, if_pos rfl, w]
      · rw [if_neg w, if_neg (by have := p2 w; omega)]
  · rw [if_neg hi]
    exact yM_o (by decide) (by decide) (by show 64 ≤ i; omega)
theorem y98_of (P : ∀ i : Nat, i < 400 → (0 ≤ fld h 10 i ∧ fld h 10 i ≤ 255) ∧ fld h 98 i = i_byt (fld h 10 i)) : yM h 98 i = yC h 98 i := by
  show _ = (if i < 400 then i_byt (fld h 10 i) else 0)
  by_cases hi : i < 400
  · rw [if_pos hi, yM_p (a := 98) (n := 400) rfl hi]
    exact (P i hi).2
  · rw [if_neg hi]
    exact yM_o (by decide) (by decide) (by show 400 ≤ i; omega)
theorem y186_of (P : zAk h) (N : ∀ i : Nat, (i : Int) < fld h 4 2 → fld h (zv h 4 i) 0 = i) (e : fld h 20 2 = fld h 37 86) : yM h 186 i = yC h 186 i := by
  show (if (i : Int) < fld h 37 86 then fld h 186 i else 0) = (if (i : Int) < fld h 20 2 then fld h (zv h 20 i) 0 else 0)
  rw [e]
  by_cases z : (i : Int) < fld h 37 86
  · obtain ⟨p1, p2, p3⟩ := P i (by omega)
    rw [if_pos z, if_pos z, p3, N _ (by omega)]
    omega
  · rw [if_neg z, if_neg z]
/-- the single numbers -/
def y37k (ms : Zms) : Bool := (zqN ms 37 37 38 39 && (zqN ms 37 37 69 72 && zqN ms 37 37 78 79)) && (zqN ms 1 1 1 2 && (zqN ms 34 34 0 3 && zun ms 5))
theorem y37_of (H : yM h = yC h) (R : zXR ms c s h g) (e : y37k ms = true) (s0 : fld g 1 0 = fld g 37 0) (s1 : fld g 2 2 = fld g 37 1) (s2 : fld g 3 2 = fld g 37 2) (s41 : fld g 9 0 = fld g 37 41) (s52 : fld g 14 2 = fld g 37 52) (s53 : fld g 13 1 = fld g 37 53) (s64 : fld g 4 2 = fld g 37 64) (s86 : fld g 20 2 = fld g 37 86) (s96 : fld g 27 0 = fld g 37 96) : yM g 37 i = yC g 37 i := by
  unfold y37k at e
  simp only [Bool.and_eq_true] at e
  obtain ⟨⟨e1, e2, e3⟩, e4, e5, e6⟩ := e
  cases c2 : ySc i with
  | false =>
    show cond (ySc i) _ _ = cond (ySc i) _ _
    rw [c2]
    rfl
  | true =>
    have key : ∀ (r j : Nat), ySr i = (r, j) → fld g 37 i = fld h 37 i → fld g (r : Int) j = fld h (r : Int) j → yM g 37 i = yC g 37 i := fun r j er f1 f2 => by
      have w := congrFun (congrFun H 37) i
      rw [yM_s c2, yC_s c2, er] at w
      rw [yM_s c2, yC_s c2, er]
      exact f1.trans (w.trans f2.symm)
    rcases ySc_of c2 with z | rfl | rfl | rfl | rfl | rfl | z | rfl | rfl | rfl
    · have z : i = 0 ∨ i = 1 ∨ i = 2 := by omega
      rcases z with rfl | rfl | rfl
      · exact s0.symm
      · exact s1.symm
      · exact s2.symm
    · exact key 1 1 rfl (R.f e1 (r := 37) ⟨by decide, by decide⟩ ⟨by decide, by decide⟩ ⟨by decide, by decide⟩) (R.f e4 (r := 1) ⟨by decide, by decide⟩ ⟨by decide, by decide⟩ ⟨by decide, by decide⟩)
    · exact s41.symm
    · exact s52.symm
    · exact s53.symm
    · exact s64.symm
    · have z : i = 69 ∨ i = 70 ∨ i = 71 := by omega
      rcases z with rfl | rfl | rfl
      · exact key 34 0 rfl (R.f e2 (r := 37) ⟨by decide, by decide⟩ ⟨by decide, by decide⟩ ⟨by decide, by decide⟩) (R.f e5 (r := 34) ⟨by decide, by decide⟩ ⟨by decide, by decide⟩ ⟨by decide, by decide⟩)
      · exact key 34 1 rfl (R.f e2 (r := 37) ⟨by decide, by decide⟩ ⟨by decide, by decide⟩ ⟨by decide, by decide⟩) (R.f e5 (r := 34) ⟨by decide, by decide⟩ ⟨by decide, by decide⟩ ⟨by decide, by decide⟩)
      · exact key 34 2 rfl (R.f e2 (r := 37) ⟨by decide, by decide⟩ ⟨by decide, by decide⟩ ⟨by decide, by decide⟩) (R.f e5 (r := 34) ⟨by decide, by decide⟩ ⟨by decide, by decide⟩ ⟨by decide, by decide⟩)
    · exact key 5 2 rfl (R.f e3 (r := 37) ⟨by decide, by decide⟩ ⟨by decide, by decide⟩ ⟨by decide, by decide⟩) (R.vz (A := 5) (by decide) e6)
    · exact s86.symm
    · exact s96.symm
/-- alike behind both calls, where few tables are touched -/
theorem yEq_t (H : yM h = yC h) (C : CI h) (R : zXR ms c s h g) (ex : List Nat) (e1 : yXo ms = true) (eA : (List.range 366).all (fun a => ex.contains a || (Nat.beq (yK a) 8 || (yCf ms a && yTf ms a))) = true) (b86 : fld h 37 86 ≤ 6) (hx : ∀ a i, ex.contains a = true → yM g a i = yC g a i) : yM g = yC g := by
  funext a i
  by_cases e : yK a = 8
  · exact (yC_8 e).symm
  cases c0 : ex.contains a with
  | true => exact hx a i c0
  | false =>
    have t : 366 ≤ a ∨ (yCf ms a = true ∧ yTf ms a = true) := by
      by_cases w : a < 366
      · right
        have q := List.all_eq_true.mp eA a (List.mem_range.mpr w)
        rw [c0, zbq_f e] at q
        simp only [Bool.false_or, Bool.and_eq_true] at q
        exact q
      · exact Or.inl (by omega)
    rw [yC_zx C R e1 (t.imp id (fun w => w.1)) e, yM_zx R (t.imp id (fun w => w.2)) b86, H]
theorem yEq_0 (H : yM h = yC h) (C : CI h) (R : zXR ms c s h g) (e1 : yXo ms = true) (eA : (List.range 366).all (fun a => ([] : List Nat).contains a || (Nat.beq (yK a) 8 || (yCf ms a && yTf ms a))) = true) (b86 : fld h 37 86 ≤ 6) : yM g = yC g := yEq_t H C R [] e1 eA b86 (fun a i z => by cases z)
/-- the TEXT, the roads, lots told -/
theorem yEq_g (H : yM h = yC h) (C : CI h) (R : zXR ms c s h g) (e1 : yXo ms = true) (eA : (List.range 366).all (fun a => [37, 48, 98, 186].contains a || (Nat.beq (yK a) 8 || (yCf ms a && yTf ms a))) = true) (e37 : y37k ms = true) (b86 : fld h 37 86 ≤ 6) (RO : zRO g) (TX : ∀ i : Nat, i < 400 → (0 ≤ fld g 10 i ∧ fld g 10 i ≤ 255) ∧ fld g 98 i = i_byt (fld g 10 i)) (AK : zAk g) (N : ∀ i : Nat, (i : Int) < fld g 4 2 → fld g (zv g 4 i) 0 = i) (s0 : fld g 1 0 = fld g 37 0) (s1 : fld g 2 2 = fld g 37 1) (s2 : fld g 3 2 = fld g 37 2) (s41 : fld g 9 0 = fld g 37 41) (s52 : fld g 14 2 = fld g 37 52) (s53 : fld g 13 1 = fld g 37 53) (s64 : fld g 4 2 = fld g 37 64) (s86 : fld g 20 2 = fld g 37 86) (s96 : fld g 27 0 = fld g 37 96) : yM g = yC g := yEq_t H C R [37, 48, 98, 186] e1 eA b86 (fun a i hc => by
  rw [List.contains_iff_mem] at hc
  simp only [List.mem_cons, List.not_mem_nil, or_false] at hc
  rcases hc with rfl | rfl | rfl | rfl
  · exact y37_of H R e37 s0 s1 s2 s41 s52 s53 s64 s86 s96
  · exact y48_of RO
  · exact y98_of TX
  · exact y186_of AK N s86)
/-- a sheet put in force -/
theorem yEq_f (H : yM h = yC h) (C : CI h) (R : zXR ms c s h g) (e1 : yXo ms = true) (eA : (List.range 366).all (fun a => [37, 164, 165].contains a || (Nat.beq (yK a) 8 || (yCf ms a && yTf ms a))) = true) (e37 : y37k ms = true) (b86 : fld h 37 86 ≤ 6) (SH : zShe g) (FO : zFo g) {va vb vz : Int} {m : Nat} (hm : m = (fld h 13 1).toNat) (hc : fld g 13 1 = fld h 13 1 + 1) (b0 : 0 ≤ fld h 13 1 ∧ fld h 13 1 < 12) (m1 : fld g 164 = zu (fld h 164) m va) (m2 : fld g 165 = zu (fld h 165) m vb) (x3 : fld g 16 = zu (fld h 16) m vz) (s0 : fld g 1 0 = fld g 37 0) (s1 : fld g 2 2 = fld g 37 1) (s2 : fld g 3 2 = fld g 37 2) (s41 : fld g 9 0 = fld g 37 41) (s52 : fld g 14 2 = fld g 37 52) (s53 : fld g 13 1 = fld g 37 53) (s64 : fld g 4 2 = fld g 37 64) (s86 : fld g 20 2 = fld g 37 86) (s96 : fld g 27 0 = fld g 37 96) : yM g = yC g := yEq_t H C R [37, 164, 165] e1 eA b86 (fun a i hc' => by
  rw [List.contains_iff_mem] at hc'
  simp only [List.mem_cons, List.not_mem_nil, or_false] at hc'
  rcases hc' with rfl | rfl | rfl
  · exact y37_of H R e37 s0 s1 s2 s41 s52 s53 s64 s86 s96
  · show _ = (if (i : Int) < fld g 13 1 then fld g (fld g 15 i) 0 else 0)
    by_cases z : (i : Int) < fld g 13 1
    · obtain ⟨⟨p0, p1⟩, p2, -, -⟩ := FO i z
      have w := (SH (fld g 164 i).toNat (by omega)).1
      have ye : yM g 164 i = fld g 164 i := yM_p (a := 164) (n := 12) rfl (by omega)
      rw [if_pos z, p2, w, ye]
      omega
    · rw [if_neg z]
      by_cases y : i < 12
      · have hh := congrFun (congrFun H 164) i
        have ch : yC h 164 i = if (i : Int) < fld h 13 1 then fld h (fld h 15 i) 0 else 0 := rfl
        rw [ch, if_neg (by omega), yM_p (a := 164) (n := 12) rfl y] at hh
        rw [yM_p (a := 164) (n := 12) rfl y, show fld g ((164 : Nat) : Int) i = zu (fld h 164) m va i from congrFun m1 i, zu_ne (by omega)]
        exact hh
      · exact yM_o (by decide) (by decide) (by show 12 ≤ i; omega)
  · show _ = (if i < 12 then fld g 16 i else 0)
    by_cases y : i < 12
    · rw [if_pos y, yM_p (a := 165) (n := 12) rfl y]
      by_cases z : (i : Int) < fld g 13 1
      · exact (FO i z).2.2.1.symm
      · have hh := congrFun (congrFun H 165) i
        have ch : yC h 165 i = if i < 12 then fld h 16 i else 0 := rfl
        rw [ch, if_pos y, yM_p (a := 165) (n := 12) rfl y] at hh
        rw [show fld g ((165 : Nat) : Int) i = zu (fld h 165) m vb i from congrFun m2 i, zu_ne (by omega), congrFun x3 i, zu_ne (by omega)]
        exact hh
    · rw [if_neg y]
      exact yM_o (by decide) (by decide) (by show 12 ≤ i; omega))
/-- numbers and references behind such calls -/
theorem yR_g (J : yR h) (C : CI h) (R : zXR ms c s h g) (e : yXo ms = true) (SH : zShe g) (AK : zAk g) (FO : zFo g) (e4 : fld g 20 2 = fld g 37 86) : yR g := by
  unfold yXo at e
  simp only [Bool.and_eq_true] at e
  obtain ⟨⟨e2, e3, e4, e5⟩, -⟩ := e
  have L : ∀ A : Nat, (A = 2 ∨ A = 3 ∨ A = 4 ∨ A = 5) → A ∈ zLis ∧ fld g A 2 = fld h A 2 ∧ ∀ i : Nat, (i : Int) < fld h A 2 → zv g A i = zv h A i := by
    intro A hA
    rcases hA with rfl | rfl | rfl | rfl
    · exact ⟨by decide, R.vz (A := 2) (by decide) e2, fun i hi => R.v C (A := 2) (by decide) e2 hi⟩
    · exact ⟨by decide, R.vz (A := 3) (by decide) e3, fun i hi => R.v C (A := 3) (by decide) e3 hi⟩
    · exact ⟨by decide, R.vz (A := 4) (by decide) e4, fun i hi => R.v C (A := 4) (by decide) e4 hi⟩
    · exact ⟨by decide, R.vz (A := 5) (by decide) e5, fun i hi => R.v C (A := 5) (by decide) e5 hi⟩
  have F : ∀ (A j : Nat), A ∈ zLis → zfin (zkd A) j = true → ∀ i : Nat, (i : Int) < fld h A 2 → fld g (zv h A i) j = fld h (zv h A i) j := by
    intro A j hA hf i hi
    obtain ⟨h1, n, h2⟩ := zv_s C hA hi
    exact R.2.2.1 _ _ n j h1 h2 hf
  obtain ⟨j1, j2, j3, j4, j5, j6⟩ := J
  refine ⟨fun A hA i hi => ?_, fun A j B hB i hi => ?_, fun i hi => ?_, fun i hi => ?_, fun i hi => ?_, fun i k hi hk e => ?_⟩
  · by_cases z : A = 14
    · subst z
      exact (SH i hi).1
    · obtain ⟨m, l, v⟩ := L A (by omega)
      rw [l] at hi
      rw [v i hi, F A 0 m (by unfold zkd; rcases (show A = 2 ∨ A = 3 ∨ A = 4 by omega) with rfl | rfl | rfl <;> rfl) i hi]
      exact j1 A hA i hi
  · obtain ⟨m, l, v⟩ := L A (by omega)
    obtain ⟨m', l', v'⟩ := L B (by omega)
    rw [l] at hi
    obtain ⟨w, w1, w2⟩ := j2 A j B hB i hi
    refine ⟨w, by rw [l']; exact w1, ?_⟩
    rw [v i hi, F A j m (by unfold zkd; rcases hB with ⟨rfl, rfl, -⟩ | ⟨rfl, rfl, -⟩ | ⟨rfl, rfl, -⟩ | ⟨rfl, rfl, -⟩ <;> rfl) i hi, v' w w1]
    exact w2
  · obtain ⟨p1, p2, p3⟩ := AK i hi
    exact ⟨(fld g 186 i).toNat, by omega, p3⟩
  · obtain ⟨⟨p0, p1⟩, p2, -, -⟩ := FO i hi
    exact ⟨(fld g 164 i).toNat, by omega, p2⟩
  · obtain ⟨m, l, v⟩ := L 2 (by omega)
    have l : fld g 2 2 = fld h 2 2 := l
    rw [l] at hi
    rw [v i hi, F 2 1 m rfl i hi]
    exact j5 i hi
  · obtain ⟨m, l, v⟩ := L 5 (by omega)
    have l : fld g 5 2 = fld h 5 2 := l
    rw [l] at hi hk
    rw [v i hi, v k hk] at e
    exact j6 i k hi hk e
/-- the bounds behind such calls -/
def yKl : List Nat := [39, 71, 79, 80, 81, 82, 83, 170, 172, 173, 85, 66, 65, 206, 67, 68, 181, 183, 184, 91, 92, 57]
def yIk (ms : Zms) : Bool := yKl.all (fun a => yTf ms a) && (zqN ms 37 37 0 3 && (zqN ms 37 37 64 65 && zqN ms 37 37 78 79))
theorem yIv.gr (V : yIv (yM h)) (R : zXR ms c s h g) (e : yIk ms = true) (b86 : fld h 37 86 ≤ 6) : yIv (yM g) := by
  unfold yIk at e
  simp only [Bool.and_eq_true] at e
  obtain ⟨e0, e1, e2, e3⟩ := e
  refine V.ag (fun a i ha => ?_)
  by_cases z : a = 37
  · subst z
    have w : i ≤ 2 ∨ i = 64 ∨ i = 78 := by unfold yKj yKi yKb yKt at ha; omega
    have sc : ySc i = true := by
      rcases (show i = 0 ∨ i = 1 ∨ i = 2 ∨ i = 64 ∨ i = 78 by omega) with rfl | rfl | rfl | rfl | rfl <;> rfl
    rw [yM_s sc, yM_s sc]
    rcases w with w | w | w
    · exact R.f e1 (r := 37) ⟨by decide, by decide⟩ ⟨by omega, by omega⟩ ⟨by decide, by decide⟩
    · exact R.f e2 (r := 37) ⟨by decide, by decide⟩ ⟨by omega, by omega⟩ ⟨by decide, by decide⟩
    · exact R.f e3 (r := 37) ⟨by decide, by decide⟩ ⟨by omega, by omega⟩ ⟨by decide, by decide⟩
  · have m : a ∈ yKl := by
      unfold yKl
      simp only [List.mem_cons, List.not_mem_nil, or_false]
      unfold yKj yKi yKb yKt at ha
      omega
    exact yM_zx R (Or.inr (List.all_eq_true.mp e0 a m)) b86
/-- what class and model have alike, with all tables -/
def wD (h : Hp) : Prop := yM h = yC h ∧ yR h ∧ yIv (yM h) ∧ zCk h ∧ zPd h
end YREL
end
section
/-! all tables as both constructors leave them -/
section YST
variable {h : Hp} {a i r : Nat}
def wkZ (h : Hp) (r : Nat) : Bool := match cel h (r : Int) with
  | some (_, l) => l.all (fun x => decide (x = 0))
  | none => false
theorem wkZ_ok (e : wkZ h r = true) : ∀ q : Nat, fld h (r : Int) q = 0 := by
  intro q
  unfold wkZ at e
  cases hc : cel h (r : Int) with
  | none => rw [hc] at e; cases e
  | some z =>
    obtain ⟨k, l⟩ := z
    rw [hc] at e
    dsimp only at e
    rw [fld_of hc, List.getD_eq_getElem?_getD]
    by_cases hq : q < l.length
    · rw [List.getElem?_eq_getElem hq]
      exact of_decide_eq_true (List.all_eq_true.mp e _ (List.getElem_mem hq))
    · rw [List.getElem?_eq_none (by omega)]
      rfl
/-- the model's rows that stay, and the class's -/
def wkZr : List (Nat × Nat) := [(10, 1), (16, 1), (28, 3), (35, 1), (39, 8), (48, 8), (57, 8), (65, 34), (164, 2), (170, 6), (180, 7), (206, 156), (363, 3)]
def wkD (h : Hp) : Bool := wkZr.all (fun e => (List.range e.2).all (fun j => wkZ h (e.1 + j))) && ((List.range 64).all (fun i => decide (fld h 7 i = 0) || decide (fld h 7 i = 1000000)) && ([0, 1, 2, 38, 41, 52, 53, 64, 69, 70, 71, 78, 86, 96].all (fun i => decide (fld h 37 i = 0) && decide (fld h ((ySr i).1 : Nat) (ySr i).2 = 0)) && ([2, 3, 4, 5, 14, 20].all (fun A => decide (fld h ((A : Nat) : Int) 2 = 0)) && decide (fld h 13 1 = 0))))
theorem wkD_ok (e : wkD h = true) : wD h := by
  unfold wkD at e
  simp only [Bool.and_eq_true, List.all_eq_true] at e
  obtain ⟨e1, e2, e3, e4, e5⟩ := e
  have e5 := of_decide_eq_true e5
  have Z : ∀ b n : Nat, (b, n) ∈ wkZr → ∀ (p : Nat) (q : Nat), b ≤ p → p < b + n → fld h (p : Int) q = 0 := fun b n m p q h1 h2 => by
    have w := e1 (b, n) m (p - b) (List.mem_range.mpr (by omega))
    have w := wkZ_ok w q
    rwa [show b + (p - b) = p by omega] at w
  have L : ∀ A : Nat, A ∈ [2, 3, 4, 5, 14, 20] → fld h (A : Int) 2 = 0 := fun A m => of_decide_eq_true (e4 A m)
  have l2 : fld h 2 2 = 0 := L 2 (by decide)
  have l3 : fld h 3 2 = 0 := L 3 (by decide)
  have l4 : fld h 4 2 = 0 := L 4 (by decide)
  have l5 : fld h 5 2 = 0 := L 5 (by decide)
  have l14 : fld h 14 2 = 0 := L 14 (by decide)
  have l20 : fld h 20 2 = 0 := L 20 (by decide)
  have S : ∀ i, i ∈ [0, 1, 2, 38, 41, 52, 53, 64, 69, 70, 71, 78, 86, 96] → fld h 37 i = 0 ∧ fld h ((ySr i).1 : Nat) (ySr i).2 = 0 := fun i m => by
    have w := e3 i m
    exact ⟨of_decide_eq_true w.1, of_decide_eq_true w.2⟩
  have sM : ∀ i, ySc i = true → i ∈ [0, 1, 2, 38, 41, 52, 53, 64, 69, 70, 71, 78, 86, 96] := fun i c => by
    simp only [List.mem_cons, List.not_mem_nil, or_false]
    have := ySc_of c
    omega
  have m86 : fld h 37 86 = 0 := (S 86 (by decide)).1
  have zM : ∀ a i, yK a ≠ 8 → a ≠ 37 → yM h a i = 0 := by
    intro a i h8 h37
    by_cases h186 : a = 186
    · rw [h186, yM_186, if_neg (by omega)]
    by_cases hi : i < ySz a
    · have w := yM_wh hi
      have key : fld h ((a + i / yWd a : Nat) : Int) (i % yWd a) = 0 := by
        have n8 : a ≠ 8 := fun z => h8 (by rw [z]; rfl)
        have n101 : a ≠ 101 := fun z => h8 (by rw [z]; rfl)
        have n155 : a ≠ 155 := fun z => h8 (by rw [z]; rfl)
        have c : (39 ≤ a + i / yWd a ∧ a + i / yWd a < 47) ∨ (48 ≤ a + i / yWd a ∧ a + i / yWd a < 56) ∨ (57 ≤ a + i / yWd a ∧ a + i / yWd a < 65) ∨ (65 ≤ a + i / yWd a ∧ a + i / yWd a < 99) ∨ (164 ≤ a + i / yWd a ∧ a + i / yWd a < 166) ∨ (170 ≤ a + i / yWd a ∧ a + i / yWd a < 176) ∨ (180 ≤ a + i / yWd a ∧ a + i / yWd a < 187) ∨ (206 ≤ a + i / yWd a ∧ a + i / yWd a < 362) ∨ (363 ≤ a + i / yWd a ∧ a + i / yWd a < 366) ∨ (166 ≤ a ∧ a < 170 ∧ ySz a = 0) ∨ (176 ≤ a ∧ a < 180 ∧ ySz a = 0) := by
          rcases w with ⟨w1, w2, ⟨w31, w32, w33, w34, w35, w36⟩, w4, w5, w6⟩ | ⟨w1, w2, w3, w4⟩
          · rcases w1 with z | z | z | z | z | z
            · have y := w31 z
              clear w31 w32 w33 w34 w35 w36 w6
              omega
            · have y := w32 z
              clear w31 w32 w33 w34 w35 w36 w6
              omega
            · have y := w33 z
              clear w31 w32 w33 w34 w35 w36 w6
              omega
            · exact absurd z n101
            · exact absurd z n155
            · have y := w36 z
              clear w31 w32 w33 w34 w35 w36 w6
              omega
          · rcases (show (65 ≤ a ∧ a < 99) ∨ (164 ≤ a ∧ a < 166) ∨ (166 ≤ a ∧ a < 170) ∨ (170 ≤ a ∧ a < 176) ∨ (176 ≤ a ∧ a < 180) ∨ (180 ≤ a ∧ a < 187) ∨ (363 ≤ a ∧ a < 366) by omega) with z | z | z | z | z | z | z
            · omega
            · omega
            · have y : a = 166 ∨ a = 167 ∨ a = 168 ∨ a = 169 := by omega
              have : ySz a = 0 := by rcases y with rfl | rfl | rfl | rfl <;> rfl
              omega
            · omega
            · have y : a = 176 ∨ a = 177 ∨ a = 178 ∨ a = 179 := by omega
              have : ySz a = 0 := by rcases y with rfl | rfl | rfl | rfl <;> rfl
              omega
            · omega
            · omega
        clear w
        rcases c with c | c | c | c | c | c | c | c | c | c | c
        · exact Z 39 8 (by decide) _ _ c.1 (by omega)
        · exact Z 48 8 (by decide) _ _ c.1 (by omega)
        · exact Z 57 8 (by decide) _ _ c.1 (by omega)
        · exact Z 65 34 (by decide) _ _ c.1 (by omega)
        · exact Z 164 2 (by decide) _ _ c.1 (by omega)
        · exact Z 170 6 (by decide) _ _ c.1 (by omega)
        · exact Z 180 7 (by decide) _ _ c.1 (by omega)
        · exact Z 206 156 (by decide) _ _ c.1 (by omega)
        · exact Z 363 3 (by decide) _ _ c.1 (by omega)
        · omega
        · omega
      unfold yM
      rw [zbq_f h37, zbq_f h186, blt_t hi]
      simp only [cond_false, cond_true]
      rw [key]
      cases c5 : Nat.beq a 93 with
      | false => rfl
      | true =>
        have hb := Nat.eq_of_beq_eq_true c5
        subst hb
        have key : fld h ((93 + i / 0 : Nat) : Int) (i % 0) = 0 := key
        rw [Nat.div_zero, Nat.mod_zero] at key
        show w32 _ = 0
        rw [show fld h 93 i = 0 from key]
        rfl
    · exact yM_o h37 h186 (by omega)
  have zC : ∀ a i, yK a ≠ 8 → a ≠ 37 → yC h a i = 0 := by
    intro a i h8 h37
    unfold yC
    split
    · rename_i hK
      exact absurd (yK_1 hK) h37
    · exact if_neg (fun z => by have := z.2; omega)
    · by_cases q : i < 64
      · rw [if_pos q]
        have w := e2 i (List.mem_range.mpr q)
        rw [Bool.or_eq_true, decide_eq_true_eq, decide_eq_true_eq] at w
        split <;> omega
      · rw [if_neg q]
    · exact if_neg (fun z => by have := z.2.1; omega)
    · by_cases q : i < 400
      · rw [if_pos q, show fld h 10 i = 0 from Z 10 1 (by decide) 10 i (by decide) (by decide)]
        rfl
      · rw [if_neg q]
    · exact if_neg (by omega)
    · exact if_neg (by omega)
    · rename_i hK
      exact absurd hK h8
    · rename_i hK
      by_cases q : i < ySz a
      · rw [if_pos q]
        rcases yK_9 hK with rfl | rfl | rfl | rfl | rfl
        · exact Z 16 1 (by decide) 16 i (by decide) (by decide)
        · exact Z 35 1 (by decide) 35 i (by decide) (by decide)
        · exact Z 28 3 (by decide) 28 i (by decide) (by decide)
        · exact Z 28 3 (by decide) 29 i (by decide) (by decide)
        · exact Z 28 3 (by decide) 30 i (by decide) (by decide)
      · rw [if_neg q]
    · rename_i hK
      refine if_neg ?_
      rcases yK_10 hK with ⟨z, -⟩ | ⟨z, -⟩ | ⟨z, -⟩ | ⟨z, -⟩ <;> rw [z]
      · show ¬ (i : Int) < fld h 3 2
        omega
      · show ¬ (i : Int) < fld h 4 2
        omega
      · show ¬ (i : Int) < fld h 5 2
        omega
      · show ¬ (i : Int) < fld h 5 2
        omega
    · rename_i hK
      refine if_neg ?_
      rcases (yF_of hK).2.2 with z | z | z | z <;> rw [z]
      · show ¬ (i : Int) < fld h 2 2
        omega
      · show ¬ (i : Int) < fld h 3 2
        omega
      · show ¬ (i : Int) < fld h 4 2
        omega
      · show ¬ (i : Int) < fld h 5 2
        omega
    · rfl
  have H : yM h = yC h := by
    funext a i
    by_cases h8 : yK a = 8
    · exact (yC_8 h8).symm
    by_cases h37 : a = 37
    · subst h37
      cases c : ySc i with
      | false =>
        show cond (ySc i) _ _ = cond (ySc i) _ _
        rw [c]
        rfl
      | true =>
        have w := S i (sM i c)
        rw [yM_s c, yC_s c, w.1, w.2]
    · rw [zM a i h8 h37, zC a i h8 h37]
  have m0 : yM h 37 0 = 0 := (S 0 (by decide)).1
  have m1 : yM h 37 1 = 0 := (S 1 (by decide)).1
  have m2 : yM h 37 2 = 0 := (S 2 (by decide)).1
  have m64 : yM h 37 64 = 0 := (S 64 (by decide)).1
  have m78 : yM h 37 78 = 0 := (S 78 (by decide)).1
  have m52 : fld h 37 52 = 0 := (S 52 (by decide)).1
  refine ⟨H, ⟨fun A hA j hj => ?_, fun A j B hB k hk => ?_, fun j hj => by omega, fun j hj => by omega, fun j hj => by omega, fun j k hj => by omega⟩, ⟨⟨⟨?_, fun k hk => by omega, fun v hv => by omega, fun l hl => by omega⟩, ⟨fun k hk => by omega, fun v hv => by omega, by omega, by omega, by omega, by omega⟩, fun v hv => by omega, fun j hj => zM 206 j (by decide) (by decide)⟩, ⟨by omega, fun v hv => by omega, fun u hu => by omega, fun k hk => by omega⟩, fun v hv => by omega⟩, fun s c s0 s1 => by omega, fun v k hv => by omega⟩
  · exfalso
    rcases hA with rfl | rfl | rfl | rfl
    · have hj : (j : Int) < fld h 2 2 := hj
      omega
    · have hj : (j : Int) < fld h 3 2 := hj
      omega
    · have hj : (j : Int) < fld h 4 2 := hj
      omega
    · have hj : (j : Int) < fld h 14 2 := hj
      omega
  · exfalso
    rcases hB with ⟨rfl, -⟩ | ⟨rfl, -⟩ | ⟨rfl, -⟩ | ⟨rfl, -⟩
    · have hk : (k : Int) < fld h 3 2 := hk
      omega
    · have hk : (k : Int) < fld h 4 2 := hk
      omega
    · have hk : (k : Int) < fld h 5 2 := hk
      omega
    · have hk : (k : Int) < fld h 5 2 := hk
      omega
  · omega
/-- bounds of the model's rows, everywhere -/
theorem yM_185 (I : zI h) (i : Nat) : 0 ≤ yM h 185 i ∧ yM h 185 i ≤ 1 := by
  by_cases q : i < 200
  · rw [yM_p (a := 185) (n := 200) rfl q]
    exact I.b (a1 := 185) (a2 := 185) (j1 := 0) (j2 := 200) (lo := 0) (hi := 1) (by decide +kernel) (r := 185) (j := i) (by decide) (by decide) (by omega) (by omega)
  · rw [yM_o (by decide) (by decide) (by show 200 ≤ i; omega)]
    exact ⟨by decide, by decide⟩
theorem yM_74 (I : zI h) (i : Nat) : 0 ≤ yM h 74 i ∧ yM h 74 i ≤ 9999 := by
  by_cases q : i < 8
  · rw [yM_p (a := 74) (n := 8) rfl q]
    exact I.b (a1 := 74) (a2 := 74) (j1 := 0) (j2 := 8) (lo := 0) (hi := 9999) (by decide +kernel) (r := 74) (j := i) (by decide) (by decide) (by omega) (by omega)
  · rw [yM_o (by decide) (by decide) (by show 8 ≤ i; omega)]
    exact ⟨by decide, by decide⟩
theorem yM_83 (I : zI h) (i : Nat) : 0 ≤ yM h 83 i ∧ yM h 83 i ≤ 9 := by
  by_cases q : i < 20
  · rw [yM_p (a := 83) (n := 20) rfl q]
    exact I.b (a1 := 83) (a2 := 83) (j1 := 0) (j2 := 20) (lo := 0) (hi := 9) (by decide +kernel) (r := 83) (j := i) (by decide) (by decide) (by omega) (by omega)
  · rw [yM_o (by decide) (by decide) (by show 20 ≤ i; omega)]
    exact ⟨by decide, by decide⟩
end YST
end
