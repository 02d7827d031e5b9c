/-! the model's way of finding the least days: rounds over all roads -/
section ZBF
variable {W : Nat → Nat → Int} {D w w' : Nat → Int} {A n k x y : Nat}
def zRc (D : Nat → Int) (t : Int) : Nat → Nat
  | 0 => 0
  | n + 1 => zRc D t n + (if D n < t then 1 else 0)
/-- how many are nearer -/
def zRk (D : Nat → Int) (v : Nat) : Nat := zRc D (D v) 8
theorem zRc_le {t u : Int} (h : t ≤ u) : ∀ n, zRc D t n ≤ zRc D u n
  | 0 => Nat.le_refl _
  | n + 1 => by
    have := zRc_le h n
    unfold zRc
    split <;> split <;> omega
theorem zRc_lt {t u : Int} (h : t ≤ u) {c : Nat} (h1 : ¬ D c < t) (h2 : D c < u) : ∀ n, c < n → zRc D t n < zRc D u n
  | 0, hc => by omega
  | n + 1, hc => by
    unfold zRc
    by_cases q : c = n
    · subst q
      have := zRc_le (D := D) h c
      rw [if_neg h1, if_pos h2]
      omega
    · have := zRc_lt h h1 h2 n (by omega)
      split <;> split <;> omega
theorem zRc_0 {t : Int} (h : ∀ u : Nat, u < n → ¬ D u < t) : zRc D t n = 0 := by
  induction n with
  | zero => rfl
  | succ m ih =>
    unfold zRc
    rw [ih (fun u hu => h u (by omega)), if_neg (h m (by omega))]
theorem zRc_m {t : Int} {m : Nat} : ∀ n, (∀ u : Nat, u < n → D u < t → u < m) → zRc D t n ≤ m ∧ zRc D t n ≤ n
  | 0, _ => ⟨Nat.zero_le _, Nat.le_refl _⟩
  | n + 1, h => by
    have := zRc_m (t := t) (m := m) n (fun u hu => h u (by omega))
    unfold zRc
    split
    · have := h n (by omega) ‹_›
      omega
    · omega
theorem zRk_lt {u v : Nat} (hu : u < 8) (h : D u < D v) : zRk D u < zRk D v := zRc_lt (by omega) (by omega) h 8 hu
/-- what is known of the days from A -/
def zGd (W : Nat → Nat → Int) (D : Nat → Int) (A n : Nat) : Prop :=
  (A < n ∧ n ≤ 8) ∧ D A = 0 ∧ (∀ v : Nat, v < 8 → 0 ≤ D v) ∧ (∀ u v : Nat, u < 8 → v < 8 → D v ≤ D u + W u v) ∧
  (∀ v : Nat, v < 8 → v ≠ A → D v < 1000000 → ∃ c : Nat, c < 8 ∧ c ≠ v ∧ W c v < 1000000 ∧ D c + W c v ≤ D v) ∧
  (∀ u v : Nat, u < 8 → v < 8 → u ≠ v → 1 ≤ W u v ∧ (W u v < 1000000 → u < n ∧ v < n))
/-- what stands in way, at round k, from x, to y -/
def zBf (W : Nat → Nat → Int) (D : Nat → Int) (n k x y : Nat) (w : Nat → Int) : Prop :=
  (∀ v : Nat, v < n → w v = -1 ∨ (0 ≤ w v ∧ D v ≤ w v)) ∧
  (∀ v : Nat, v < n → D v < 1000000 → zRk D v ≤ k → w v = D v) ∧
  (∀ v : Nat, v < n → D v < 1000000 → zRk D v ≤ k + 1 → ∀ c : Nat, c < n → c ≠ v → W c v < 1000000 → D c + W c v = D v → (c < x ∨ (c = x ∧ v < y)) → w v = D v)
theorem zBf.init (G : zGd W D A n) (hw : ∀ v : Nat, v < n → w v = if v = A then 0 else -1) : zBf W D n 0 0 0 w := by
  obtain ⟨⟨g1, g2⟩, g3, g4, g5, g6, g7⟩ := G
  refine ⟨fun v hv => ?_, fun v hv hl hr => ?_, fun v hv hl hr c hc hne h1 h2 h3 => by omega⟩
  · rw [hw v hv]
    split
    · rename_i e
      subst e
      omega
    · exact Or.inl rfl
  · rw [hw v hv]
    split
    · rename_i e
      subst e
      omega
    · exfalso
      rename_i e
      obtain ⟨c, c1, c2, c3, c4⟩ := g6 v (by omega) e hl
      have p1 := g4 c c1
      have p2 := (g7 c v c1 (by omega) c2).1
      have : zRk D A < zRk D v := zRk_lt (by omega) (by omega)
      omega
/-- x is settled, if y is to be settled by it -/
theorem zBf.pre (G : zGd W D A n) (H : zBf W D n k x y w) (hx : x < n) (hy : y < n) (hne : x ≠ y) (hl : D y < 1000000) (hr : zRk D y ≤ k + 1) (h2 : D x + W x y = D y) : w x = D x := by
  obtain ⟨⟨g1, g2⟩, g3, g4, g5, g6, g7⟩ := G
  have p := (g7 x y (by omega) (by omega) hne).1
  have q : zRk D x < zRk D y := zRk_lt (by omega) (by omega)
  exact H.2.1 x hx (by omega) (by omega)
theorem zBf.sk {d : Int} (G : zGd W D A n) (H : zBf W D n k x y w) (hx : x < n) (hy : y < n) (hd : W x y = if x = y then 0 else if d = 0 then 1000000 else d) (hc : w x = -1 ∨ d = 0 ∨ (w x ≠ -1 ∧ w y ≠ -1 ∧ w y ≤ w x + d)) : zBf W D n k x (y + 1) w := by
  refine ⟨H.1, H.2.1, fun v hv hl hr c hc' hne h1 h2 h3 => ?_⟩
  by_cases z : c = x ∧ v = y
  · obtain ⟨rfl, rfl⟩ := z
    have p := H.pre G hx hy hne hl hr h2
    rw [if_neg hne] at hd
    have g4 := G.2.2.1 c (by have := G.1.2; omega)
    have s := H.1 v hy
    by_cases z0 : d = 0
    · rw [if_pos z0] at hd
      omega
    · rw [if_neg z0] at hd
      omega
  · exact H.2.2 v hv hl hr c hc' hne h1 h2 (by omega)
theorem zBf.rl {d : Int} (G : zGd W D A n) (H : zBf W D n k x y w) (hx : x < n) (hy : y < n) (hd : W x y = if x = y then 0 else if d = 0 then 1000000 else d) (hd0 : d ≠ 0) (hne : x ≠ y) (h1 : w x ≠ -1) (h2 : w y = -1 ∨ w x + d < w y) (e1 : w' y = w x + d) (e2 : ∀ v : Nat, v ≠ y → w' v = w v) : zBf W D n k x (y + 1) w' := by
  rw [if_neg hne, if_neg hd0] at hd
  have g8 := G.1.2
  have tr := G.2.2.2.1 x y (by omega) (by omega)
  have s := H.1 y hy
  have sx := H.1 x hx
  have gy := G.2.2.1 y (by omega)
  have pw := (G.2.2.2.2.2 x y (by omega) (by omega) hne).1
  refine ⟨fun v hv => ?_, fun v hv hl hr => ?_, fun v hv hl hr c hc' hne' k1 k2 k3 => ?_⟩
  · by_cases z : v = y
    · subst z
      rw [e1]
      omega
    · rw [e2 v z]
      exact H.1 v hv
  · have o := H.2.1 v hv hl hr
    by_cases z : v = y
    · subst z
      omega
    · rw [e2 v z]
      exact o
  · by_cases z : v = y
    · subst z
      by_cases zc : c = x
      · subst zc
        have p := H.pre G hx hy hne hl hr k2
        rw [e1]
        omega
      · have o := H.2.2 v hv hl hr c hc' hne' k1 k2 (by omega)
        omega
    · rw [e2 v z]
      exact H.2.2 v hv hl hr c hc' hne' k1 k2 (by omega)
theorem zBf.nx (H : zBf W D n k x y w) (hy : n ≤ y) : zBf W D n k (x + 1) 0 w :=
  ⟨H.1, H.2.1, fun v hv hl hr c hc hne h1 h2 h3 => H.2.2 v hv hl hr c hc hne h1 h2 (by omega)⟩
theorem zBf.nk (G : zGd W D A n) (H : zBf W D n k x y w) (hx : n ≤ x) : zBf W D n (k + 1) 0 0 w := by
  refine ⟨H.1, fun v hv hl hr => ?_, fun v hv hl hr c hc hne h1 h2 h3 => by omega⟩
  obtain ⟨⟨g1, g2⟩, g3, g4, g5, g6, g7⟩ := G
  by_cases e : v = A
  · subst e
    refine H.2.1 v hv hl ?_
    have : zRk D v = 0 := zRc_0 (fun u hu => by have := g4 u hu; omega)
    omega
  · obtain ⟨c, c1, c2, c3, c4⟩ := g6 v (by omega) e hl
    have c5 := ((g7 c v c1 (by omega) c2).2 c3).1
    have t := g5 c v c1 (by omega)
    exact H.2.2 v hv hl hr c c5 c2 c3 (by omega) (by omega)
theorem zBf.fin (G : zGd W D A n) (H : zBf W D n k x y w) (hk : n ≤ k) {v : Nat} (hv : v < n) (hw : w v < 1000000) : w v = if D v < 1000000 then D v else -1 := by
  obtain ⟨⟨g1, g2⟩, g3, g4, g5, g6, g7⟩ := G
  split
  · rename_i hl
    refine H.2.1 v hv hl (Nat.le_trans (zRc_m (m := n) 8 (fun u hu hd => ?_)).1 hk)
    by_cases e : u = A
    · omega
    · obtain ⟨c, c1, c2, c3, c4⟩ := g6 u hu e (by omega)
      exact ((g7 c u c1 hu c2).2 c3).2
  · have := H.1 v hv
    omega
/-- out of what class and model have alike -/
theorem zRO.gd {h : Hp} (R : zRO h) {A n : Nat} (hA : A < n) (hn : (n : Int) = fld h 37 1) (hn8 : n ≤ 8) : zGd (zLa h) (zLe h A) A n := by
  obtain ⟨r1, ⟨f1, f2, f3, f4⟩, r3⟩ := R
  refine ⟨⟨hA, hn8⟩, f2 A (by omega), fun v hv => (f1 A v (by omega) hv).1, fun u v hu hv => ?_, fun v hv hne hl => f4 A v (by omega) hv (fun z => hne z.symm) hl, fun u v hu hv hne => ?_⟩
  · have := f3 A v u (by omega) hv hu hu
    have := (f1 u v hu hv).2.1
    omega
  · obtain ⟨d1, d2⟩ := r3 u v hu hv
    rw [if_neg hne] at d1
    by_cases z : fld h (48 + (u : Int)) v = 0
    · rw [if_pos z] at d1
      omega
    · rw [if_neg z] at d1
      have d2 := d2 z
      omega
/-- what is alike of roads stays -/
def zkRO (ms : Zms) : Bool := zqN ms 7 7 0 64 && (zqN ms 8 8 0 64 && zqN ms 48 55 0 8)
theorem zRO.eq {h g : Hp} (P : zRO h) (a7 : ∀ a b : Nat, a < 8 → b < 8 → zLa g a b = zLa h a b) (a8 : ∀ a b : Nat, a < 8 → b < 8 → zLe g a b = zLe h a b) (ad : ∀ a b : Nat, a < 8 → b < 8 → fld g (48 + (a : Int)) b = fld h (48 + (a : Int)) b) (hn : fld h 37 1 ≤ fld g 37 1) : zRO g := by
  obtain ⟨p1, p2, p3⟩ := P
  refine ⟨fun a b ha hb => by rw [a7 a b ha hb]; exact p1 a b ha hb, (p2.cg a7).cg2 a8 (Nat.le_refl _), fun a b ha hb => ?_⟩
  rw [a7 a b ha hb, ad a b ha hb]
  obtain ⟨d1, d2⟩ := p3 a b ha hb
  exact ⟨d1, fun z => by have := d2 z; omega⟩
theorem zRO.kp {h g : Hp} {ms : Zms} {c s : Int} (P : zRO h) (R : zXR ms c s h g) (e : zkRO ms = true) (hn : fld h 37 1 ≤ fld g 37 1) : zRO g := by
  unfold zkRO at e
  simp only [Bool.and_eq_true] at e
  obtain ⟨e1, e2, e3⟩ := e
  exact P.eq (fun a b ha hb => R.f e1 (r := 7) ⟨by decide, by decide⟩ ⟨Nat.zero_le _, by omega⟩ ⟨by decide, by decide⟩) (fun a b ha hb => R.f e2 (r := 8) ⟨by decide, by decide⟩ ⟨Nat.zero_le _, by omega⟩ ⟨by decide, by decide⟩) (fun a b ha hb => R.f e3 ⟨by omega, by omega⟩ ⟨Nat.zero_le _, by omega⟩ ⟨by omega, by omega⟩) hn
theorem zRO.mr {h g : Hp} {ms : Zms} (P : zRO h) (R : zMR ms h g) (e : zkRO ms = true) (hn : fld h 37 1 ≤ fld g 37 1) : zRO g := by
  unfold zkRO at e
  simp only [Bool.and_eq_true] at e
  obtain ⟨e1, e2, e3⟩ := e
  exact P.eq (fun a b ha hb => R.f e1 (r := 7) ⟨by decide, by decide⟩ ⟨Nat.zero_le _, by omega⟩) (fun a b ha hb => R.f e2 (r := 8) ⟨by decide, by decide⟩ ⟨Nat.zero_le _, by omega⟩) (fun a b ha hb => R.f e3 ⟨by omega, by omega⟩ ⟨Nat.zero_le _, by omega⟩) hn
/-- a road is laid on both sides -/
theorem zRO.rd {h h1 g : Hp} {ms ms' : Zms} {c s c' s' x a b : Int} (P : zRO h) (R : zXR ms c s h h1) (S : zXR ms' c' s' h1 g) (e1 : zqN ms 48 55 0 8 = true) (e2 : (zqN ms' 7 7 0 64 && zqN ms' 8 8 0 64) = true) (x1 : zLd h1) (x2 : zFw (zLa h1) (zLe h1) 8) (x3 : ∀ p q : Nat, p < 8 → q < 8 → zLa h1 p q = if (p = a.toNat ∧ q = b.toNat) ∨ (p = b.toNat ∧ q = a.toNat) then x else zLa h p q) (m : ∀ p q : Nat, p < 8 → q < 8 → fld g (48 + (p : Int)) q = if (p = a.toNat ∧ q = b.toNat) ∨ (p = b.toNat ∧ q = a.toNat) then x else fld h1 (48 + (p : Int)) q) (hx : 1 ≤ x ∧ x ≤ 9) (hab : 0 ≤ a ∧ a < fld h 37 1 ∧ 0 ≤ b ∧ b < fld h 37 1 ∧ a ≠ b) (hn : fld g 37 1 = fld h 37 1) : zRO g := by
  rw [Bool.and_eq_true] at e2
  have a7 : ∀ a b : Nat, a < 8 → b < 8 → zLa g a b = zLa h1 a b := fun a b ha hb => S.f e2.1 (r := 7) ⟨by decide, by decide⟩ ⟨Nat.zero_le _, by omega⟩ ⟨by decide, by decide⟩
  have a8 : ∀ a b : Nat, a < 8 → b < 8 → zLe g a b = zLe h1 a b := fun a b ha hb => S.f e2.2 (r := 8) ⟨by decide, by decide⟩ ⟨Nat.zero_le _, by omega⟩ ⟨by decide, by decide⟩
  have ad : ∀ a b : Nat, a < 8 → b < 8 → fld h1 (48 + (a : Int)) b = fld h (48 + (a : Int)) b := fun a b ha hb => R.f e1 ⟨by omega, by omega⟩ ⟨Nat.zero_le _, by omega⟩ ⟨by omega, by omega⟩
  refine ⟨fun p q hp hq => by rw [a7 p q hp hq]; exact x1 p q hp hq, (x2.cg a7).cg2 a8 (Nat.le_refl _), fun p q hp hq => ?_⟩
  rw [a7 p q hp hq, x3 p q hp hq, m p q hp hq, ad p q hp hq, hn]
  by_cases z : (p = a.toNat ∧ q = b.toNat) ∨ (p = b.toNat ∧ q = a.toNat)
  · rw [if_pos z, if_pos z, if_neg (by omega), if_neg (by omega)]
    exact ⟨rfl, fun _ => ⟨by omega, by omega, by omega, hx.1, hx.2⟩⟩
  · rw [if_neg z, if_neg z]
    exact P.2.2 p q hp hq
end ZBF
