/-! the sheets and what is in force, the class's and the model's -/
section SH
variable {h h0 h1 h2 h4 h5 g : Hp} {ms ms' : Zms} {c s c' s' x y m : Int} {k j n : Nat} {T : Bool × pQ × (Nat → Int)}
theorem zXR.du (R : zXR ms c s h g) {k n : Nat} (e : zun ms (1000 + k) = true) {r : Int} (hr : 365 < r) (hs : sh h r = some (k, n)) (h25 : k ≠ 25) : fld g r = fld h r := funext fun j => R.2.2.2.2.2.2.1 r k n j hr hs h25 (fun f hf hz => by
  have w := List.all_eq_true.mp e f hf
  rw [Bool.or_eq_true] at w
  rcases w with w | w
  · have := Nat.le_of_ble_eq_true w
    omega
  · have := Nat.le_of_ble_eq_true w
    omega)
/-- no place of those from a to b -/
def zuw (ms : Zms) (a b : Nat) : Bool := ms.all (fun q => Nat.blt q.2.1 a || Nat.blt b q.1)
theorem zXR.rw {a b : Nat} (R : zXR ms c s h g) (e : zuw ms a b = true) (h1 : 0 < a) (h2 : b ≤ 365) {r : Int} (k1 : (a : Int) ≤ r) (k2 : r ≤ (b : Int)) : fld g r = fld h r := funext fun j => R.2.1 r j (by omega) (by omega) (fun f hf hz => by
  have w := List.all_eq_true.mp e f hf
  rw [Bool.or_eq_true] at w
  rcases w with w | w
  · have := Nat.le_of_ble_eq_true w
    omega
  · have := Nat.le_of_ble_eq_true w
    omega)
/-- words and marks against rows and lengths -/
def zSr (W M : Nat → Int) (N : Nat) (R : Nat → Nat → Int) (L : Nat → Int) : Prop := ∀ d : Nat, d < 5 → (M d = -1 ∧ L d = 0) ∨ ∃ B l : Nat, M d = (B : Int) ∧ L d = (l : Int) ∧ 0 < l ∧ B + l < N ∧ W (B + l) = -21 ∧ ∀ k, k < l → mCd (R d) k (W (B + k))
theorem zSr.cg {W W2 M M2 L L2 : Nat → Int} {N : Nat} {R R2 : Nat → Nat → Int} (P : zSr W M N R L) (eM : ∀ d, d < 5 → M2 d = M d) (eL : ∀ d, d < 5 → L2 d = L d) (eR : ∀ d, d < 5 → R2 d = R d) (eW : (∃ d, d < 5 ∧ M d ≠ -1) → ∀ i, i < N → W2 i = W i) : zSr W2 M2 N R2 L2 := fun d hd => by
  rcases P d hd with ⟨p1, p2⟩ | ⟨B, l, p1, p2, p3, p4, p5, p6⟩
  · exact Or.inl ⟨(eM d hd).trans p1, (eL d hd).trans p2⟩
  · have w := eW ⟨d, hd, by omega⟩
    refine Or.inr ⟨B, l, (eM d hd).trans p1, (eL d hd).trans p2, p3, p4, (w _ p4).trans p5, fun k hk => ?_⟩
    rw [eR d hd, w _ (by omega)]
    exact p6 k hk
/-- a sheet's words -/
def zWo (h : Hp) (s : Nat) : Int := fld h (zv h 14 s) 1
def zMa (h : Hp) (s : Nat) : Int := fld h (zv h 14 s) 2
def zHa (h : Hp) (s : Nat) : Prop := ∃ d : Nat, d < 5 ∧ fld h (zMa h s) d ≠ -1
/-- one sheet -/
def zS1 (h : Hp) (s : Nat) : Prop := fld h (zv h 14 s) 0 = (s : Int) ∧ ∃ N : Nat, (sh h (zWo h s) = some (20, N) ∧ N ≤ 400) ∧ zSr (fld h (zWo h s)) (fld h (zMa h s)) N (fun d => fld h (101 + 6 * (s : Int) + (d : Int))) (fld h (155 + (s : Int))) ∧ (zHa h s → ∀ v : Nat, (v : Int) < fld h 2 2 → fld h (zv h 2 v) 16 ≠ zWo h s)
def zShe (h : Hp) : Prop := ∀ s : Nat, (s : Int) < fld h 14 2 → zS1 h s
theorem zS_g (C : CI h) {s : Nat} (hs : (s : Int) < fld h 14 2) : gS h (zv h 14 s) := (zv_g C (A := 14) (by decide) hs).2
theorem zV_g (C : CI h) {v : Nat} (hv : (v : Int) < fld h 2 2) : gV h (zv h 2 v) := (zv_g C (A := 2) (by decide) hv).2
theorem zS1.st {s : Nat} (P : zS1 h s) (eA : zv g 14 s = zv h 14 s) (eF : ∀ j : Nat, fld g (zv h 14 s) j = fld h (zv h 14 s) j) (eS : ∀ q p, sh h q = some p → sh g q = some p) (eM : fld g (zMa h s) = fld h (zMa h s)) (eW : zHa h s → fld g (zWo h s) = fld h (zWo h s)) (eR : ∀ d : Nat, d < 5 → fld g (101 + 6 * (s : Int) + (d : Int)) = fld h (101 + 6 * (s : Int) + (d : Int))) (eL : fld g (155 + (s : Int)) = fld h (155 + (s : Int))) (eV : zHa h s → ∀ v : Nat, (v : Int) < fld g 2 2 → fld g (zv g 2 v) 16 ≠ zWo h s) : zS1 g s := by
  obtain ⟨p0, N, p1, p2, p3⟩ := P
  have w1 : zWo g s = zWo h s := by unfold zWo; rw [eA, eF]
  have w2 : zMa g s = zMa h s := by unfold zMa; rw [eA, eF]
  have w3 : zHa g s → zHa h s := by
    rintro ⟨d, hd, z⟩
    rw [w2, eM] at z
    exact ⟨d, hd, z⟩
  unfold zS1
  rw [eA, eF, w1, w2, eM]
  exact ⟨p0, N, ⟨eS _ _ p1.1, p1.2⟩, p2.cg (fun _ _ => rfl) (fun d _ => congrFun eL d) eR (fun w i _ => congrFun (eW w) i), fun w => eV (w3 w)⟩
theorem zS_fin (R : zXR ms c s h g) {r : Int} {k n j : Nat} (hr : 365 < r) (hs : sh h r = some (k, n)) (e : zfin k j = true) : fld g r j = fld h r j := R.2.2.1 r k n j hr hs e
/-- the villages' price rows stay -/
theorem zV_16 (C : CI h) (R : zXR ms c s h g) (e : zun ms 2 = true) {v : Nat} (hv : (v : Int) < fld g 2 2) : (v : Int) < fld h 2 2 ∧ fld g (zv g 2 v) 16 = fld h (zv h 2 v) 16 := by
  rw [show fld g 2 2 = fld h 2 2 from R.vz (A := 2) (by decide) e] at hv
  have G := zV_g C hv
  refine ⟨hv, ?_⟩
  rw [R.v C (A := 2) (by decide) e hv]
  exact zS_fin R G.1 G.2.1 rfl
def zkSh (ms : Zms) : Bool := zun ms 14 && (zun ms 2 && (zun ms (1000 + 20) && (zuw ms 101 148 && zuw ms 155 162)))
theorem zS1.kp {u : Nat} (P : zS1 h u) (C : CI h) (hu : (u : Int) < fld h 14 2) (R : zXR ms c s h g) (e1 : zv g 14 u = zv h 14 u) (e2 : zun ms 2 = true) (e3 : zun ms (1000 + 20) = true) (eR : ∀ d : Nat, d < 5 → fld g (101 + 6 * (u : Int) + (d : Int)) = fld h (101 + 6 * (u : Int) + (d : Int))) (eL : fld g (155 + (u : Int)) = fld h (155 + (u : Int))) : zS1 g u := by
  have G := zS_g C hu
  obtain ⟨g1, g2, ⟨g3, N, g4⟩, g5, g6⟩ := G
  obtain ⟨p0, N2, p1, p2, p3⟩ := P
  refine zS1.st ⟨p0, N2, p1, p2, p3⟩ e1 (fun j => zS_fin R g1 g2 rfl) R.1 (R.du e3 g5 g6 (by decide)) (fun _ => R.du e3 g3 g4 (by decide)) eR eL (fun w v hv => ?_)
  obtain ⟨k1, k2⟩ := zV_16 C R e2 hv
  rw [k2]
  exact p3 w v k1
theorem zShe.kp (P : zShe h) (C : CI h) (R : zXR ms c s h g) (e : zkSh ms = true) : zShe g := by
  unfold zkSh at e
  simp only [Bool.and_eq_true] at e
  obtain ⟨e1, e2, e3, e4, e5⟩ := e
  intro u hu
  rw [show fld g 14 2 = fld h 14 2 from R.vz (A := 14) (by decide) e1] at hu
  have b := zLb_14 C
  exact (P u hu).kp C hu R (R.v C (A := 14) (by decide) e1 hu) e2 e3 (fun d hd => R.rw e4 (by decide) (by decide) (by omega) (by omega)) (R.rw e5 (by decide) (by decide) (by omega) (by omega))
/-! rows of numbers but the villages' prices stay -/
def zKw (h g : Hp) : Prop := (∀ q p, sh h q = some p → sh g q = some p) ∧ ∀ (q : Int) (n : Nat), 365 < q → sh h q = some (20, n) → (∀ v : Nat, (v : Int) < fld h 2 2 → fld h (zv h 2 v) 16 ≠ q) → fld g q = fld h q
theorem zKw.rf : zKw h h := ⟨fun _ _ z => z, fun _ _ _ _ _ => rfl⟩
theorem zKw.fr (K : zKw h h1) (Q : zXR ms c s h1 g) (e : zun ms (1000 + 20) = true) : zKw h g := ⟨fun q p z => Q.1 q p (K.1 q p z), fun q n h1 h2 h3 => (Q.du e h1 (K.1 _ _ h2) (by decide)).trans (K.2 q n h1 h2 h3)⟩
theorem zKw.tr (K : zKw h h1) (C : CI h) (R : zXR ms c s h h1) (e : zun ms 2 = true) (L : zKw h1 g) : zKw h g := ⟨fun q p z => L.1 q p (K.1 q p z), fun q n k1 k2 k3 => (L.2 q n k1 (K.1 _ _ k2) (fun v hv => by
  obtain ⟨z1, z2⟩ := zV_16 C R e hv
  rw [z2]
  exact k3 v z1)).trans (K.2 q n k1 k2 k3)⟩
theorem zKw.st {r : Int} {i : Nat} (K : zKw h h1) (C : CI h) (R : zXR ms c s h h1) (e : zun ms 2 = true) (F : ∀ q : Int, q ≠ fld h1 r 16 → fld g q = fld h1 q) (er : r = zv h1 2 i) (hi : (i : Int) < fld h1 2 2) (S : ∀ q p, sh h1 q = some p → sh g q = some p) : zKw h g := ⟨fun q p z => S q p (K.1 q p z), fun q n k1 k2 k3 => (F q (fun z => by
  obtain ⟨z1, z2⟩ := zV_16 C R e hi
  rw [er, z2] at z
  exact k3 i z1 z.symm)).trans (K.2 q n k1 k2 k3)⟩
theorem zShe.go (P : zShe h) (C : CI h) (R : zXR ms c s h g) (K : zKw h g) (e : (zun ms 14 && (zun ms 2 && (zuw ms 101 148 && zuw ms 155 162))) = true) : zShe g := by
  simp only [Bool.and_eq_true] at e
  obtain ⟨e1, e2, e4, e5⟩ := e
  intro u hu
  rw [show fld g 14 2 = fld h 14 2 from R.vz (A := 14) (by decide) e1] at hu
  have b := zLb_14 C
  obtain ⟨g1, g2, ⟨g3, N, g4⟩, g5, g6⟩ := zS_g C hu
  obtain ⟨p0, N2, p1, p2, p3⟩ := P u hu
  refine zS1.st ⟨p0, N2, p1, p2, p3⟩ (R.v C (A := 14) (by decide) e1 hu) (fun j => zS_fin R g1 g2 rfl) R.1 (K.2 _ 5 g5 g6 (fun v hv z => ?_)) (fun w => K.2 _ N g3 g4 (fun v hv z => p3 w v hv z)) (fun d hd => R.rw e4 (by decide) (by decide) (by omega) (by omega)) (R.rw e5 (by decide) (by decide) (by omega) (by omega)) (fun w v hv => ?_)
  · have G := (zV_g C hv).2.2.2
    rw [z] at G
    have q := Option.some.inj (G.symm.trans g6)
    have q2 : 157 = 5 := congrArg Prod.snd q
    omega
  · obtain ⟨k1, k2⟩ := zV_16 C R e2 hv
    rw [k2]
    exact p3 w v k1
/-- a village more -/
theorem zShe.vil {rr q : Int} (P : zShe h) (C : CI h) (R : zXR ms c s h h1) (D : zAd 2 h h1 rr) (e : (zun ms 14 && (zun ms (1000 + 20) && (zuw ms 101 148 && zuw ms 155 162))) = true) (eq : fld h1 rr 16 = q) (sq : sh h1 q = some (20, 157)) (cq : ∀ j : Nat, j < 157 → fld h1 q j = 10) : zShe h1 := by
  simp only [Bool.and_eq_true] at e
  obtain ⟨e1, e3, e4, e5⟩ := e
  intro u hu
  rw [show fld h1 14 2 = fld h 14 2 from R.vz (A := 14) (by decide) e1] at hu
  have b := zLb_14 C
  obtain ⟨g1, g2, ⟨g3, N, g4⟩, g5, g6⟩ := zS_g C hu
  obtain ⟨p0, N2, p1, p2, p3⟩ := P u hu
  refine zS1.st ⟨p0, N2, p1, p2, p3⟩ (R.v C (A := 14) (by decide) e1 hu) (fun j => zS_fin R g1 g2 rfl) R.1 (R.du e3 g5 g6 (by decide)) (fun _ => R.du e3 g3 g4 (by decide)) (fun d hd => R.rw e4 (by decide) (by decide) (by omega) (by omega)) (R.rw e5 (by decide) (by decide) (by omega) (by omega)) (fun w v hv z => ?_)
  rcases D.cs C (by decide) hv with ⟨k1, k2⟩ | ⟨k1, k2⟩
  · have G := zV_g C k1
    rw [k2, zS_fin R G.1 G.2.1 rfl] at z
    exact p3 w v k1 z
  · rw [k2, eq] at z
    obtain ⟨d, hd, hM⟩ := w
    rcases p2 d hd with ⟨y1, y2⟩ | ⟨B, l, y1, y2, y3, y4, y5, y6⟩
    · exact hM y1
    · have w1 := R.1 _ _ p1.1
      rw [← z, sq] at w1
      have w2 : 157 = N2 := congrArg Prod.snd (Option.some.inj w1)
      have w3 : fld h1 (zWo h u) (B + l) = -21 := (congrFun (R.du e3 g3 g4 (by decide)) (B + l)).trans y5
      rw [← z, cq _ (by omega)] at w3
      omega
/-! a sheet made -/
def zSo (T : Bool × pQ × (Nat → Int)) (h g : Hp) (A a : Int) : Prop := fld g A 0 = a ∧ sh g (fld g A 1) = some (20, T.2.1.2.1) ∧ sh h (fld g A 1) = none ∧ (∀ i : Nat, i < T.2.1.2.1 → fld g (fld g A 1) i = T.2.1.2.2 i) ∧ (∀ d : Nat, d < 5 → fld g (fld g A 2) d = T.2.2 d) ∧ T.2.1.2.1 ≤ 400
theorem zSo.mk {a r : Int} (X : fld h4 11 = T.2.1.2.2 ∧ fld h4 9 6 = ((T.2.1.2.1 : Nat) : Int) ∧ rGb T.2.2 h4) (S : zSc h4 h5 a r) (G : gS h5 r) (D : zAdded h5 14 r g) (C5 : CI h5) (e : fld h5 14 2 = m) (ha : a = m) (R : ∀ q p, sh h q = some p → sh h4 q = some p) (hb : fld h4 9 6 ≤ 400) : zSo T h g (zv g 14 m.toNat) m := by
  obtain ⟨x1, x2, x3⟩ := X
  obtain ⟨v, w, s1, s2, s3, s4, ⟨n, s5, s6⟩, s7, s8, s9⟩ := S
  have er : zv g 14 m.toNat = r := by rw [← e]; exact D.2.2.2.2.1
  have fr : fld g r = fld h5 r := zAdded.o C5 (by decide) D G.2.1 (by decide) G.1
  have fv : fld g v = fld h5 v := zAdded.o C5 (by decide) D s5 (by decide) s1
  have gw : 365 < w ∧ sh h5 w = some (20, 5) := by rw [← s4]; exact G.2.2.2
  have fw : fld g w = fld h5 w := zAdded.o C5 (by decide) D gw.2 (by decide) gw.1
  have en : n = T.2.1.2.1 := by omega
  subst en
  unfold zSo
  rw [er, fr, s2, s3, s4]
  refine ⟨ha, D.2.1.1 _ _ s5, ?_, fun i hi => ?_, fun d hd => ?_, by omega⟩
  · cases z : sh h v with
    | none => rfl
    | some p => exact absurd (R _ _ z) (by rw [s9]; exact fun z => by cases z)
  · rw [fv, s7 i (by omega), x1]
  · rw [fw, s8 d hd]
    exact x3 d hd
theorem zSo.kp {A a : Int} (S : zSo T h g A a) (G : gS g A) (R : zXR ms c s g h1) (e : zun ms (1000 + 20) = true) : zSo T h h1 A a := by
  obtain ⟨s1, s2, s3, s4, s5, s6⟩ := S
  obtain ⟨g1, g2, ⟨g3, N, g4⟩, g5, g6⟩ := G
  have f : ∀ j, fld h1 A j = fld g A j := fun j => zS_fin R g1 g2 rfl
  unfold zSo
  rw [f, f, f]
  refine ⟨s1, R.1 _ _ s2, s3, fun i hi => ?_, fun d hd => ?_, s6⟩
  · rw [R.du e g3 g4 (by decide)]
    exact s4 i hi
  · rw [R.du e g5 g6 (by decide)]
    exact s5 d hd
def zXs (T : Bool × pQ × (Nat → Int)) (p : Int) (h g : Hp) : Prop := (∀ i : Nat, (i : Int) < fld h 14 2 → zv g 14 i = zv h 14 i) ∧ ((p = -1 ∧ fld h 14 2 < 8 ∧ fld g 14 2 = fld h 14 2 + 1 ∧ zSo T h g (zv g 14 (fld h 14 2).toNat) (fld h 14 2)) ∨ ((p ≠ -1 ∨ 8 ≤ fld h 14 2) ∧ fld g 14 2 = fld h 14 2))
/-! the model's copy -/
def mJo (h g : Hp) (s : Int) : Prop := (∀ r : Int, 101 ≤ r → r ≤ 148 → (r < 101 + 6 * s ∨ 106 + 6 * s ≤ r) → fld g r = fld h r) ∧ ∀ r : Int, 155 ≤ r → r ≤ 162 → r ≠ 155 + s → fld g r = fld h r
def mJc (h : Hp) (s c : Int) : Prop := ∀ d : Nat, (d : Int) < c → fld h (155 + s) d = fld h 163 d ∧ ∀ i : Nat, (i : Int) < 2 * fld h 163 d → fld h (101 + 6 * s + (d : Int)) i = fld h (149 + (d : Int)) i
def mJi (h : Hp) (s c i : Int) : Prop := fld h (155 + s) c.toNat = fld h 163 c.toNat ∧ ∀ j : Nat, (j : Int) < i → fld h (101 + 6 * s + c) j = fld h (149 + c) j
def zMr (s : Int) (T : Bool × pQ × (Nat → Int)) (g : Hp) : Prop := zSr T.2.1.2.2 T.2.2 T.2.1.2.1 (fun d => fld g (101 + 6 * s + (d : Int))) (fld g (155 + s))
theorem mE.gd {t : pT} {n : Nat} {cc : Nat → Int} (E : mE t n g (pRead t n cc)) (p : pFa t n cc = -1) : mG (pRead t n cc).2.2 (pRead t n cc).2.1 g := by
  rcases E with ⟨e1, e2, e3⟩ | ⟨e1, e2⟩
  · exact e3
  · rw [pFa_f e1] at p
    omega
theorem mG.eq {b : Nat → Int} {q : pQ} (G : mG b q h) (e1 : ∀ r : Int, 149 ≤ r → r ≤ 153 → fld g r = fld h r) (e2 : fld g 163 = fld h 163) : mG b q g := by
  intro d hd
  rw [e2, e1 _ (by omega) (by omega)]
  exact G d hd
theorem fld_o {r q : Int} (e : g = wr h r j x) (hq : q ≠ r) : fld g q = fld h q := by
  funext i
  rw [e]
  exact fld_wr (Or.inl hq)
theorem mJo.rf : mJo h h s := ⟨fun _ _ _ _ => rfl, fun _ _ _ _ => rfl⟩
theorem mJo.w {r : Int} (J : mJo h h1 s) (e : g = wr h1 r j x) (hr : r = 37 ∨ r = 155 + s ∨ (101 + 6 * s ≤ r ∧ r < 106 + 6 * s)) (hs : 0 ≤ s ∧ s < 8) : mJo h g s := ⟨fun q k1 k2 k3 => (fld_o e (by omega)).trans (J.1 q k1 k2 k3), fun q k1 k2 k3 => (fld_o e (by omega)).trans (J.2 q k1 k2 k3)⟩
theorem mJo.fr (J : mJo h h1 s) (R : zMR ms h1 g) (e : (zuw ms 101 148 && zuw ms 155 162) = true) : mJo h g s := by
  rw [Bool.and_eq_true] at e
  have f : ∀ (a b : Nat), zuw ms a b = true → ∀ r : Int, (a : Int) ≤ r → r ≤ (b : Int) → fld g r = fld h1 r := fun a b e r k1 k2 => funext fun j => R.2.2.2 _ j (fun f hf hz => by
    have w := List.all_eq_true.mp e f hf
    rw [Bool.or_eq_true] at w
    rcases w with w | w
    · have := Nat.le_of_ble_eq_true w
      omega
    · have := Nat.le_of_ble_eq_true w
      omega)
  exact ⟨fun q k1 k2 k3 => (f 101 148 e.1 q k1 k2).trans (J.1 q k1 k2 k3), fun q k1 k2 k3 => (f 155 162 e.2 q k1 k2).trans (J.2 q k1 k2 k3)⟩
theorem mJo.all (R : zMR ms h g) (e : (zuw ms 101 148 && zuw ms 155 162) = true) : (∀ r : Int, 101 ≤ r → r ≤ 148 → fld g r = fld h r) ∧ ∀ r : Int, 155 ≤ r → r ≤ 162 → fld g r = fld h r := by
  have J1 : mJo h g (-100) := mJo.rf.fr R e
  exact ⟨fun r k1 k2 => J1.1 r k1 k2 (by omega), fun r k1 k2 => J1.2 r k1 k2 (by omega)⟩
theorem mJc.w {r : Int} (J : mJc h s c) (e : g = wr h r j x) (hr : r = 37 ∨ (r = 155 + s ∧ (j : Int) = c) ∨ r = 101 + 6 * s + c) (hs : 0 ≤ s ∧ s < 8) (hc : 0 ≤ c ∧ c < 5) : mJc g s c := by
  intro d hd
  obtain ⟨j1, j2⟩ := J d hd
  have f3 : fld g 163 = fld h 163 := fld_o e (by omega)
  have f4 : fld g (149 + (d : Int)) = fld h (149 + (d : Int)) := fld_o e (by omega)
  have f5 : fld g (101 + 6 * s + (d : Int)) = fld h (101 + 6 * s + (d : Int)) := fld_o e (by omega)
  rw [f3, f4, f5]
  refine ⟨?_, j2⟩
  rw [← j1, e]
  exact fld_wr (by omega)
theorem mJc.w5 (J : mJc h s 5) (e : g = wr h 37 j x) (hs : 0 ≤ s ∧ s < 8) : mJc g s 5 := by
  intro d hd
  obtain ⟨j1, j2⟩ := J d hd
  have f3 : fld g 163 = fld h 163 := fld_o e (by omega)
  have f4 : fld g (149 + (d : Int)) = fld h (149 + (d : Int)) := fld_o e (by omega)
  have f5 : fld g (101 + 6 * s + (d : Int)) = fld h (101 + 6 * s + (d : Int)) := fld_o e (by omega)
  have f6 : fld g (155 + s) = fld h (155 + s) := fld_o e (by omega)
  rw [f3, f4, f5, f6]
  exact ⟨j1, j2⟩
theorem mJi.z {r : Int} (I : zI h) (e : g = wr h r c.toNat x) (hr : r = 155 + s) (hx : x = fld h 163 c.toNat) (hs : 0 ≤ s ∧ s < 8) (hc : 0 ≤ c ∧ c < 5) : mJi g s c 0 := by
  subst hr
  refine ⟨?_, fun j hj => by omega⟩
  have f3 : fld g 163 = fld h 163 := fld_o e (by omega)
  rw [f3, e, fld_wr_eq (I.s (a1 := 155) (a2 := 163) (k := 20) (n := 5) (by decide +kernel) (by omega) (by omega)) (by omega)]
  exact hx
theorem mJi.w {r i : Int} (I : zI h) (J : mJi h s c i) (e : g = wr h r i.toNat x) (hr : r = 101 + 6 * s + c) (hx : x = fld h (149 + c) i.toNat) (hs : 0 ≤ s ∧ s < 8) (hc : 0 ≤ c ∧ c < 5) (hi : 0 ≤ i ∧ i < 840) : mJi g s c (i + 1) := by
  subst hr
  obtain ⟨j1, j2⟩ := J
  have f3 : fld g 163 = fld h 163 := fld_o e (by omega)
  have f4 : fld g (149 + c) = fld h (149 + c) := fld_o e (by omega)
  have f5 : fld g (155 + s) = fld h (155 + s) := fld_o e (by omega)
  unfold mJi
  rw [f3, f4, f5]
  refine ⟨j1, fun j hj => ?_⟩
  by_cases z : j = i.toNat
  · obtain ⟨-, -, k3⟩ := I.c2 (s := s) (c := c) (by omega) (by omega)
    rw [z, e, fld_wr_eq k3 (by omega)]
    exact hx
  · rw [e, fld_wr (Or.inr z)]
    exact j2 j (by omega)
theorem mJc.e {i : Int} (J : mJc h s c) (K : mJi h s c i) (hc : 0 ≤ c ∧ c < 5) (hi : 2 * fld h 163 c.toNat ≤ i) : mJc h s (c + 1) := by
  intro d hd
  by_cases z : (d : Int) < c
  · exact J d z
  · have e : (d : Int) = c := by omega
    have e2 : c.toNat = d := by omega
    obtain ⟨k1, k2⟩ := K
    rw [e2] at k1 hi
    rw [← e] at k2
    exact ⟨k1, fun i hi2 => k2 i (by omega)⟩
theorem zMr.mk (J : mJc h s 5) (G : mG T.2.2 T.2.1 h) : zMr s T h := by
  intro d hd
  obtain ⟨j1, j2⟩ := J d (by omega)
  rcases G d hd with ⟨g1, g2⟩ | ⟨B, L, g1, g2, g3, g4, g5, g6⟩
  · exact Or.inl ⟨g1, j1.trans g2⟩
  · refine Or.inr ⟨B, L, g1, j1.trans g2, g3, g4, g5, fun k hk => ?_⟩
    have w := g6 k hk
    have y1 : fld h (101 + 6 * s + (d : Int)) (2 * k) = fld h (149 + (d : Int)) (2 * k) := j2 _ (by rw [g2]; omega)
    have y2 : fld h (101 + 6 * s + (d : Int)) (2 * k + 1) = fld h (149 + (d : Int)) (2 * k + 1) := j2 _ (by rw [g2]; omega)
    show mCd (fld h (101 + 6 * s + (d : Int))) k _
    unfold mCd at w ⊢
    rw [y1, y2]
    exact w
def zMs (T : Bool × pQ × (Nat → Int)) (p : Int) (h g : Hp) : Prop := (p = -1 ∧ fld h 37 52 < 8 ∧ mJo h g (fld h 37 52) ∧ zMr (fld h 37 52) T g) ∨ ((p ≠ -1 ∨ 8 ≤ fld h 37 52) ∧ (∀ r : Int, 101 ≤ r → r ≤ 148 → fld g r = fld h r) ∧ ∀ r : Int, 155 ≤ r → r ≤ 162 → fld g r = fld h r)
/-- both calls -/
theorem zShe.sheet {p : Int} (P : zShe h) (C : CI h) (C1 : CI h1) (Q : zXR ms c s h h1) (Z : zXR ms' c' s' h1 g) (e : (zun ms 2 && (zun ms (1000 + 20) && (zuw ms 101 148 && zuw ms 155 162))) = true) (e' : (zun ms' 14 && (zun ms' 2 && zun ms' (1000 + 20))) = true) (hn : fld h 14 2 = fld h 37 52) (hm : fld h1 37 52 = fld h 37 52) (X : zXs T p h h1) (M : zMs T p h1 g) : zShe g := by
  simp only [Bool.and_eq_true] at e e'
  obtain ⟨e2, e3, e4, e5⟩ := e
  obtain ⟨d1, d2, d3⟩ := e'
  have b := zLb_14 C
  obtain ⟨x0, x⟩ := X
  intro u hu
  rw [show fld g 14 2 = fld h1 14 2 from Z.vz (A := 14) (by decide) d1] at hu
  have old : (u : Int) < fld h 14 2 → zS1 h1 u := fun k => (P u k).kp C k Q (x0 u k) e2 e3 (fun d hd => Q.rw e4 (by decide) (by decide) (by omega) (by omega)) (Q.rw e5 (by decide) (by decide) (by omega) (by omega))
  rcases M with ⟨m1, m2, m3, m4⟩ | ⟨m1, m2, m3⟩
  · rcases x with ⟨y1, y2, y3, y4⟩ | ⟨y1, y2⟩
    · by_cases k : (u : Int) < fld h 14 2
      · exact (old k).kp C1 hu Z (Z.v C1 (A := 14) (by decide) d1 hu) d2 d3 (fun d hd => m3.1 _ (by omega) (by omega) (by omega)) (m3.2 _ (by omega) (by omega) (by omega))
      · have eu : (u : Int) = fld h 14 2 := by omega
        have eu2 : (fld h 14 2).toNat = u := by omega
        rw [eu2, ← eu] at y4
        rw [show fld h1 37 52 = (u : Int) by omega] at m4
        have G := zS_g C1 hu
        have S := y4.kp G Z d3
        obtain ⟨s1, s2, s3, s4, s5, s6⟩ := S
        have eA : zv g 14 u = zv h1 14 u := Z.v C1 (A := 14) (by decide) d1 hu
        unfold zS1 zHa zWo zMa
        rw [eA]
        refine ⟨s1, _, ⟨s2, s6⟩, m4.cg s5 (fun _ _ => rfl) (fun _ _ => rfl) (fun _ i hi => s4 i hi), fun _ v hv z => ?_⟩
        obtain ⟨k1, k2⟩ := zV_16 C1 Z d2 hv
        obtain ⟨k3, k4⟩ := zV_16 C Q e2 k1
        rw [k2, k4] at z
        have w := (zV_g C k3).2.2.2
        rw [z, s3] at w
        cases w
    · exfalso
      omega
  · have hq : (u : Int) < fld h 14 2 := by
      rcases x with ⟨y1, y2, y3, y4⟩ | ⟨y1, y2⟩
      · exfalso
        omega
      · omega
    exact (old hq).kp C1 hu Z (Z.v C1 (A := 14) (by decide) d1 hu) d2 d3 (fun d hd => m2 _ (by omega) (by omega)) (m3 _ (by omega) (by omega))
/-! what is in force -/
def zFo (h : Hp) : Prop := ∀ k : Nat, (k : Int) < fld h 13 1 → (0 ≤ fld h 164 k ∧ fld h 164 k < fld h 14 2) ∧ fld h 15 k = zv h 14 (fld h 164 k).toNat ∧ fld h 16 k = fld h 165 k ∧ 0 ≤ fld h 165 k
theorem zFo.st (P : zFo h) (en : fld g 13 1 = fld h 13 1) (e1 : fld g 15 = fld h 15) (e2 : fld g 16 = fld h 16) (e3 : fld g 164 = fld h 164) (e4 : fld g 165 = fld h 165) (eN : fld h 14 2 ≤ fld g 14 2) (ev : ∀ i : Nat, (i : Int) < fld h 14 2 → zv g 14 i = zv h 14 i) : zFo g := by
  intro k hk
  rw [en] at hk
  obtain ⟨⟨p0, p1⟩, p2, p3, p4⟩ := P k hk
  rw [e1, e2, e3, e4]
  exact ⟨⟨p0, by omega⟩, by rw [ev _ (by omega)]; exact p2, p3, p4⟩
def zkFo (ms : Zms) : Bool := zun ms 14 && (zun ms 15 && (zun ms 16 && (zun ms 164 && (zun ms 165 && zqN ms 13 13 1 2))))
theorem zFo.kp (P : zFo h) (C : CI h) (R : zXR ms c s h g) (e : zkFo ms = true) : zFo g := by
  unfold zkFo at e
  simp only [Bool.and_eq_true] at e
  obtain ⟨e1, e2, e3, e4, e5, e6⟩ := e
  exact P.st (R.f e6 ⟨by decide, by decide⟩ ⟨by decide, by decide⟩ ⟨by decide, by decide⟩) (R.fa (a := 15) e2 (by decide)) (R.fa (a := 16) e3 (by decide)) (R.fa (a := 164) e4 (by decide)) (R.fa (a := 165) e5 (by decide)) (by have w : fld g 14 2 = fld h 14 2 := R.vz (A := 14) (by decide) e1; omega) (fun i hi => R.v C (A := 14) (by decide) e1 hi)
theorem zFo.sheet {p : Int} (P : zFo h) (C1 : CI h1) (Q : zXR ms c s h h1) (Z : zXR ms' c' s' h1 g) (e : (zun ms 15 && (zun ms 16 && (zun ms 164 && (zun ms 165 && zqN ms 13 13 1 2)))) = true) (e' : zkFo ms' = true) (X : zXs T p h h1) : zFo g := by
  simp only [Bool.and_eq_true] at e
  obtain ⟨e2, e3, e4, e5, e6⟩ := e
  refine zFo.kp (P.st (Q.f e6 ⟨by decide, by decide⟩ ⟨by decide, by decide⟩ ⟨by decide, by decide⟩) (Q.fa (a := 15) e2 (by decide)) (Q.fa (a := 16) e3 (by decide)) (Q.fa (a := 164) e4 (by decide)) (Q.fa (a := 165) e5 (by decide)) ?_ X.1) C1 Z e'
  rcases X.2 with ⟨y1, y2, y3, y4⟩ | ⟨y1, y2⟩ <;> omega
theorem zFo.force {a b : Int} (P : zFo h) (C : CI h) (C1 : CI h1) (Q : zXR ms c s h h1) (Z : zXR ms' c' s' h1 g) (e : (zun ms 14 && (zun ms 164 && zun ms 165)) = true) (e' : (zun ms' 14 && (zun ms' 15 && (zun ms' 16 && zqN ms' 13 13 1 2))) = true) (hn : fld h 13 1 = fld h1 37 53) (b0 : 0 ≤ fld h 13 1) (ha : 0 ≤ a ∧ a < fld h 14 2) (hb : 0 ≤ b) (x1 : fld h1 13 1 = fld h 13 1 + 1) (x2 : fld h1 15 = zu (fld h 15) (fld h 13 1).toNat (zv h 14 a.toNat)) (x3 : fld h1 16 = zu (fld h 16) (fld h 13 1).toNat b) (m1 : fld g 164 = zu (fld h1 164) (fld h1 37 53).toNat a) (m2 : fld g 165 = zu (fld h1 165) (fld h1 37 53).toNat b) : zFo g := by
  simp only [Bool.and_eq_true] at e e'
  obtain ⟨q1, q2, q3⟩ := e
  obtain ⟨z1, z2, z3, z4⟩ := e'
  intro k hk
  rw [Z.f z4 (r := 13) ⟨by decide, by decide⟩ ⟨by decide, by decide⟩ ⟨by decide, by decide⟩, x1] at hk
  have f1 : fld g 15 = fld h1 15 := Z.fa (a := 15) z2 (by decide)
  have f2 : fld g 16 = fld h1 16 := Z.fa (a := 16) z3 (by decide)
  have f3 : fld h1 164 = fld h 164 := Q.fa (a := 164) q2 (by decide)
  have f4 : fld h1 165 = fld h 165 := Q.fa (a := 165) q3 (by decide)
  have f5 : fld h1 14 2 = fld h 14 2 := Q.vz (A := 14) (by decide) q1
  have f6 : fld g 14 2 = fld h1 14 2 := Z.vz (A := 14) (by decide) z1
  have fv : ∀ i : Nat, (i : Int) < fld h 14 2 → zv g 14 i = zv h 14 i := fun i hi => (Z.v C1 (A := 14) (by decide) z1 (show (i : Int) < fld h1 14 2 by omega)).trans (Q.v C (A := 14) (by decide) q1 hi)
  rw [f1, f2, x2, x3, m1, m2, f3, f4, ← hn]
  by_cases w : k = (fld h 13 1).toNat
  · rw [w, zu_eq, zu_eq, zu_eq, zu_eq]
    exact ⟨⟨ha.1, by omega⟩, (fv _ (by omega)).symm, rfl, hb⟩
  · obtain ⟨⟨p0, p1⟩, p2, p3, p4⟩ := P k (by omega)
    rw [zu_ne w, zu_ne w, zu_ne w, zu_ne w]
    exact ⟨⟨p0, by omega⟩, by rw [fv _ (by omega)]; exact p2, p3, p4⟩
/-! why -/
def zFrn (h : Hp) (a : Int) : Prop := zFrc h a ∧ ∀ k : Nat, (k : Int) < fld h 13 1 → fld h (fld h 15 k) 0 = fld h 164 k
theorem zFrn_of {a : Int} (C : CI h) (P : zShe h) (F : zFo h) (ha : 0 ≤ a ∧ a ≤ 4) : zFrn h a := by
  refine ⟨fun k hk => ?_, fun k hk => ?_⟩
  · obtain ⟨⟨p0, p1⟩, p2, p3, p4⟩ := F k hk
    have hs : (((fld h 164 k).toNat : Nat) : Int) = fld h 164 k := by omega
    have G := zS_g C (s := (fld h 164 k).toNat) (by omega)
    obtain ⟨-, N, -, w, -⟩ := P (fld h 164 k).toNat (by omega)
    rw [p2]
    refine ⟨G.1, p3, p4, ?_⟩
    have w := w a.toNat (by omega)
    rw [hs] at w
    unfold zMa at w
    rcases w with ⟨w1, w2⟩ | ⟨B, l, w1, w2, w3, -⟩ <;> omega
  · obtain ⟨⟨p0, p1⟩, p2, -, -⟩ := F k hk
    rw [p2]
    have w := (P (fld h 164 k).toNat (by omega)).1
    omega
def zWhy (h : Hp) (a b : Int) : Int := if (0 ≤ a ∧ a ≤ 4) ∧ 0 ≤ b ∧ b ≤ 155 then pWhy (fld h 164) (fld h 165) (fun s => fld h (155 + s) a.toNat) b (fld h 13 1).toNat else -1
theorem zWhy_o {a b : Int} (q : ¬ ((0 ≤ a ∧ a ≤ 4) ∧ 0 ≤ b ∧ b ≤ 155)) : -1 = zWhy h a b := (if_neg q).symm
theorem zWhy_n {a b : Int} (q : (0 ≤ a ∧ a ≤ 4) ∧ 0 ≤ b ∧ b ≤ 155) (z : zBw h a b (fld h 13 1).toNat = -1) : -1 = zWhy h a b := by
  unfold zWhy
  rw [if_pos q]
  exact pWhy_n rfl z
theorem zWhy_y {a b r v : Int} (q : (0 ≤ a ∧ a ≤ 4) ∧ 0 ≤ b ∧ b ≤ 155) (F : zFrn h a) (z : 0 ≤ zBw h a b (fld h 13 1).toNat ∧ r = fld h 15 (zBw h a b (fld h 13 1).toNat).toNat) (e : v = fld h r 0) : v = zWhy h a b := by
  unfold zWhy
  rw [if_pos q]
  have b0 := pBw_b (fs := fld h 164) (ff := fld h 165) (Lc := fun s => fld h (155 + s) a.toNat) (w := b) (fld h 13 1).toNat
  have b1 : zBw h a b (fld h 13 1).toNat < ((fld h 13 1).toNat : Nat) := b0.2
  have w := F.2 (zBw h a b (fld h 13 1).toNat).toNat (by omega)
  have p := pWhy_y (fs := fld h 164) (ff := fld h 165) (Lc := fun s => fld h (155 + s) a.toNat) (w := b) (n := (fld h 13 1).toNat) (z := zBw h a b (fld h 13 1).toNat) rfl (by omega)
  rw [← p, e, z.2, w]
theorem zWhy_m {a b v : Int} (q : (0 ≤ a ∧ a ≤ 4) ∧ 0 ≤ b ∧ b ≤ 155) (e : v = pWhy (fld h 164) (fld h 165) (fun s => fld h (155 + s) a.toNat) b (fld h 37 53).toNat) (hn : fld h 13 1 = fld h 37 53) : v = zWhy h a b := by
  unfold zWhy
  rw [if_pos q, hn]
  exact e
end SH
