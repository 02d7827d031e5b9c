/-! what a clause answers: stacks against the pure run -/
section EE
variable {N c : Nat → Int} {p : eT} {h g : Hp} {A d x y z : Int} {i k m n L : Nat} {P : Int → Prop}
abbrev eP0 : eT := ((fun _ => 0), 0)
theorem eRn_s (p : eT) : eRn N c 0 (m + 1) p = eSt N (c m) (eRn N c 0 m p) := by
  show eSt N (c (0 + m)) _ = _
  rw [Nat.zero_add]
theorem eSt_le : (eSt N x p).2 ≤ p.2 + 1 := by
  unfold eSt
  split
  · exact Nat.le_refl _
  · split
    · exact Nat.le_refl _
    · split
      · show p.2 ≤ p.2 + 1
        omega
      · show p.2 - 1 ≤ p.2 + 1
        omega
theorem eRn_le : ∀ m : Nat, (eRn N c 0 m eP0).2 ≤ m
  | 0 => Nat.le_refl _
  | m + 1 => by
    have q := eRn_le m
    have w := eSt_le (N := N) (x := c m) (p := eRn N c 0 m eP0)
    rw [eRn_s]
    omega
theorem eSg.ok (S : eSg N c P 0 L) (hm : m < L) : eOk (c m) (eRn N c 0 m eP0) := by
  have w := ((S.2 (fun _ => 0) 0).1 m (by omega)).1
  rw [Nat.zero_add] at w
  exact w
theorem eSg.fin (S : eSg N c P 0 L) : (eRn N c 0 L eP0).2 = 1 ∧ P ((eRn N c 0 L eP0).1 0) := by
  obtain ⟨-, w1, w2, -⟩ := S.2 (fun _ => 0) 0
  rw [Nat.sub_zero] at w1 w2
  exact ⟨w1, w2⟩
/-- a stack in a row of numbers -/
def eV (h : Hp) (A : Int) (p : eT) (d : Int) : Prop := d = (p.2 : Int) ∧ ∀ r, r < p.2 → fld h A r = p.1 r
theorem eV_0 : eV h A eP0 0 := ⟨rfl, fun r hr => absurd hr (Nat.not_lt_zero _)⟩
theorem eV.pu (V : eV h A p d) (e : g = wr h A i x) (s : sh h A = some (20, n)) (hi : i = d.toNat) (hd : d < n) : eV g A (zu p.1 p.2 x, p.2 + 1) (d + 1) := by
  obtain ⟨v1, v2⟩ := V
  have hi : i = p.2 := by omega
  subst hi
  refine ⟨by show d + 1 = ((p.2 + 1 : Nat) : Int); omega, fun r hr => ?_⟩
  have hr : r < p.2 + 1 := hr
  show fld g A r = zu p.1 p.2 x r
  rw [e]
  by_cases w : r = p.2
  · rw [w, zu_eq]
    exact fld_wr_eq s (by omega)
  · rw [zu_ne w, fld_wr (Or.inr w)]
    exact v2 r (by omega)
theorem eV.num (V : eV h A p d) (e : g = wr h A i x) (s : sh h A = some (20, n)) (hi : i = d.toNat) (hd : d < n) (hy : 0 ≤ y) (hx : x = y) : eV g A (eSt N y p) (d + 1) := by
  subst hx
  unfold eSt
  rw [if_pos hy]
  exact V.pu e s hi hd
theorem eV.nam (V : eV h A p d) (e : g = wr h A i x) (s : sh h A = some (20, n)) (hi : i = d.toNat) (hd : d < n) (hy : -13 ≤ y ∧ y < 0) (hx : x = N (-1 - y).toNat) : eV g A (eSt N y p) (d + 1) := by
  subst hx
  unfold eSt
  rw [if_neg (by omega), if_pos hy.1]
  exact V.pu e s hi hd
theorem eV.not (V : eV h A p d) (e : g = wr h A i x) (s : sh h A = some (20, n)) (hi : i = (d - 1).toNat) (hd : d ≤ n) (hp : 1 ≤ p.2) (hy : y = -20) (hx : x = 1 - fld h A (d - 1).toNat) : eV g A (eSt N y p) d := by
  obtain ⟨v1, v2⟩ := V
  have hi : i = p.2 - 1 := by omega
  subst hi
  unfold eSt
  rw [if_neg (by omega), if_neg (by omega), if_pos hy]
  refine ⟨v1, fun r hr => ?_⟩
  have hr : r < p.2 := hr
  show fld g A r = zu p.1 (p.2 - 1) (1 - p.1 (p.2 - 1)) r
  rw [e]
  by_cases w : r = p.2 - 1
  · rw [w, zu_eq, fld_wr_eq s (by omega), hx, show (d - 1).toNat = p.2 - 1 by omega, v2 _ (by omega)]
  · rw [zu_ne w, fld_wr (Or.inr w)]
    exact v2 r (by omega)
theorem eV.bin (V : eV h A p d) (e : g = wr h A i x) (s : sh h A = some (20, n)) (hi : i = (d - 2).toNat) (hd : d ≤ n) (hp : 2 ≤ p.2) (hy : y < -13 ∧ y ≠ -20) (hx : x = eJn (-y) (fld h A (d - 2).toNat) (fld h A (d - 1).toNat)) : eV g A (eSt N y p) (d - 1) := by
  obtain ⟨v1, v2⟩ := V
  have hi : i = p.2 - 2 := by omega
  subst hi
  unfold eSt
  rw [if_neg (by omega), if_neg (by omega), if_neg hy.2]
  refine ⟨by show d - 1 = ((p.2 - 1 : Nat) : Int); omega, fun r hr => ?_⟩
  have hr : r < p.2 - 1 := hr
  show fld g A r = zu p.1 (p.2 - 2) (eJn (-y) (p.1 (p.2 - 2)) (p.1 (p.2 - 1))) r
  rw [e]
  by_cases w : r = p.2 - 2
  · rw [w, zu_eq, fld_wr_eq s (by omega), hx, show (d - 2).toNat = p.2 - 2 by omega, show (d - 1).toNat = p.2 - 1 by omega, v2 _ (by omega), v2 _ (by omega)]
  · rw [zu_ne w, fld_wr (Or.inr w)]
    exact v2 r (by omega)
/-- what a step finds -/
theorem eV.t1 (V : eV h A p d) (hp : 1 ≤ p.2) : fld h A (d - 1).toNat = p.1 (p.2 - 1) := by
  have v := V.1
  rw [show (d - 1).toNat = p.2 - 1 by omega]
  exact V.2 _ (by omega)
theorem eV.t2 (V : eV h A p d) (hp : 2 ≤ p.2) : fld h A (d - 2).toNat = p.1 (p.2 - 2) := by
  have v := V.1
  rw [show (d - 2).toNat = p.2 - 2 by omega]
  exact V.2 _ (by omega)
theorem eOk.not (O : eOk (-20) p) : 1 ≤ p.2 ∧ eBit (p.1 (p.2 - 1)) := by
  rcases O with o | ⟨o1, o2, o3⟩ | ⟨o, -⟩ | ⟨o, -⟩ <;> first | omega | exact ⟨o2, o3⟩
theorem eOk.nw (O : eOk y p) : y ≠ -21 := by
  rcases O with o | ⟨o, -⟩ | ⟨o, -⟩ | ⟨o, -⟩ <;> omega
theorem eBit.num (B : eBit x) : eNum x := by
  unfold eBit at B
  unfold eNum
  omega
/-- signs of two, as the class joins them -/
def eOp (y : Int) : Prop := y = -18 ∨ y = -19 ∨ y = -43 ∨ y = -45 ∨ y = -42 ∨ y = -47 ∨ y = -60 ∨ y = -62 ∨ y = -61
theorem eOp.neg (O : eOp y) : -y = 18 ∨ -y = 19 ∨ -y = 42 ∨ -y = 43 ∨ -y = 45 ∨ -y = 47 ∨ -y = 60 ∨ -y = 61 ∨ -y = 62 := by
  unfold eOp at O
  omega
/-- the model's signs -/
def mOp (op v : Int) : Prop := (op = 110 ∧ 0 ≤ v) ∨ (op = 118 ∧ 0 ≤ v ∧ v ≤ 12) ∨ (op = 33 ∨ op = 38 ∨ op = 124 ∨ op = 43 ∨ op = 45 ∨ op = 42 ∨ op = 47 ∨ op = 60 ∨ op = 62 ∨ op = 61)
theorem mCd.op {F : Nat → Int} {j : Nat} {x : Int} (M : mCd F j x) : mOp (F (2 * j)) (F (2 * j + 1)) := M.2
theorem mOp.nn {op v : Int} (O : mOp op v) (e : op = 110) : 0 ≤ v := by
  unfold mOp at O
  omega
theorem mOp.v {op v : Int} (O : mOp op v) (e : op = 118) : 0 ≤ v ∧ v ≤ 12 := by
  unfold mOp at O
  omega
theorem mOp.b {op v : Int} (O : mOp op v) (n1 : op ≠ 110) (n2 : op ≠ 118) (n3 : op ≠ 33) : op = 38 ∨ op = 124 ∨ op = 43 ∨ op = 45 ∨ op = 42 ∨ op = 47 ∨ op = 60 ∨ op = 62 ∨ op = 61 := by
  unfold mOp at O
  omega
theorem eOk.bin (O : eOk y p) (hy : y < -13 ∧ y ≠ -20) : 2 ≤ p.2 ∧ (eNum (p.1 (p.2 - 2)) ∧ eNum (p.1 (p.2 - 1))) ∧ ((y = -18 ∨ y = -19) → eBit (p.1 (p.2 - 2)) ∧ eBit (p.1 (p.2 - 1))) ∧ eOp y := by
  unfold eOp
  rcases O with o | ⟨o1, o2, o3⟩ | ⟨o1, o2, o3, o4⟩ | ⟨o1, o2, o3, o4⟩
  · omega
  · omega
  · exact ⟨o2, ⟨o3.num, o4.num⟩, fun _ => ⟨o3, o4⟩, by omega⟩
  · exact ⟨o2, ⟨o3, o4⟩, fun _ => by omega, by omega⟩
theorem l_or_b {a b z : Int} (ha : eBit a) (hb : eBit b) (e : z = l_or a b) : z = i_or a b ∧ (z = 0 ∨ z = 1) := by
  obtain ⟨-, w1, -, w2⟩ := l_bit ha hb
  exact ⟨e.trans w1, by rw [e, w1]; exact w2⟩
theorem l_and_b {a b z : Int} (ha : eBit a) (hb : eBit b) (e : z = l_and a b) : z = i_and a b ∧ (z = 0 ∨ z = 1) := by
  obtain ⟨w1, -, w2, -⟩ := l_bit ha hb
  exact ⟨e.trans w1, by rw [e, w1]; exact w2⟩
/-! codes of the model's rows -/
theorem eEq_n {v : Int} (e : x = 110) : eEn x v = v := if_pos e
theorem eEq_v {v : Int} (e : x = 118) : eEn x v = -1 - v := by subst e; rfl
theorem eEq_x {v : Int} (e : x = 33) : eEn x v = -20 := by subst e; rfl
def eMs (op : Int) : Int := if op = 38 then 19 else if op = 124 then 18 else op
theorem eEn_m {v : Int} (e : x = 38 ∨ x = 124 ∨ x = 43 ∨ x = 45 ∨ x = 42 ∨ x = 47 ∨ x = 60 ∨ x = 62 ∨ x = 61) : eEn x v = -(eMs x) ∧ eMs x ≠ 20 ∧ 13 < eMs x := by
  rcases e with rfl | rfl | rfl | rfl | rfl | rfl | rfl | rfl | rfl <;> exact ⟨rfl, by decide, by decide⟩
def mCc (h : Hp) (s c : Int) : Nat → Int := fun k => eEn (fld h (101 + 6 * s + c) (2 * k)) (fld h (101 + 6 * s + c) (2 * k + 1))
/-- all clauses of the model's sheets can be run -/
def zCk (h : Hp) : Prop := ∀ s c : Int, 0 ≤ s → s < fld h 37 52 → 0 ≤ c → c < 5 → 0 < fld h (155 + s) c.toNat → (fld h (155 + s) c.toNat < 400 ∧ (∀ N, eNs N → eSg N (mCc h s c) (if c < 3 then eNum else eBit) 0 (fld h (155 + s) c.toNat).toNat)) ∧ ∀ k : Nat, (k : Int) < fld h (155 + s) c.toNat → mCd (fld h (101 + 6 * s + c)) k (mCc h s c k)
/-- the sheet that counts now -/
def zWn (h : Hp) (c w : Int) : Int := pWhy (fld h 164) (fld h 165) (fun s => fld h (155 + s) c.toNat) w (fld h 37 53).toNat
def zTl (h : Hp) (c w : Int) (N : Nat → Int) : Int := if zWn h c w = -1 then (if c = 0 ∨ c = 2 then 0 else 1) else (eRn N (mCc h (zWn h c w) c) 0 (fld h (155 + zWn h c w) c.toNat).toNat eP0).1 0
theorem pBw_l {fs ff : Nat → Int} {Lc : Int → Int} {w : Int} : ∀ n : Nat, pBw fs ff Lc w n ≠ -1 → 0 < Lc (fs (pBw fs ff Lc w n).toNat)
  | 0, h => absurd rfl h
  | n + 1, h => by
    unfold pBw at h ⊢
    split
    · rename_i q
      rw [Int.toNat_natCast]
      exact q.2.1
    · rename_i q
      rw [if_neg q] at h
      exact pBw_l n h
/-- the sheet that counts has the clause -/
theorem zWn_l {c w : Int} (hF : ∀ k : Nat, (k : Int) < fld h 37 53 → 0 ≤ fld h 164 k ∧ fld h 164 k < fld h 37 52) (hw : zWn h c w ≠ -1) : 0 ≤ zWn h c w ∧ zWn h c w < fld h 37 52 ∧ 0 < fld h (155 + zWn h c w) c.toNat := by
  unfold zWn pWhy at hw ⊢
  have b := pBw_b (fs := fld h 164) (ff := fld h 165) (Lc := fun s => fld h (155 + s) c.toNat) (w := w) (fld h 37 53).toNat
  split at hw
  · exact absurd rfl hw
  · rename_i q
    rw [if_neg q]
    have l := pBw_l (fs := fld h 164) (ff := fld h 165) (Lc := fun s => fld h (155 + s) c.toNat) (w := w) (fld h 37 53).toNat q
    have w := hF (pBw (fld h 164) (fld h 165) (fun s => fld h (155 + s) c.toNat) w (fld h 37 53).toNat).toNat (by omega)
    exact ⟨w.1, w.2, l⟩
theorem zTl_n {c w : Int} (e : zWn h c w = -1) : zTl h c w N = if c = 0 ∨ c = 2 then 0 else 1 := if_pos e
theorem zTl_y {c w : Int} (e : zWn h c w ≠ -1) : zTl h c w N = (eRn N (mCc h (zWn h c w) c) 0 (fld h (155 + zWn h c w) c.toNat).toNat eP0).1 0 := if_neg e
end EE
section EX
variable {h g : Hp} {a r w : Int}
theorem zWn_n (hn : fld h 13 1 = fld h 37 53) (z : zBw h a w (fld h 13 1).toNat = -1) : zWn h a w = -1 := by
  unfold zWn pWhy
  rw [← hn]
  exact if_pos z
/-- the class's sheet that counts, as the model's rows have it -/
theorem zShe.run (C : CI h) (P : zShe h) (F : zFo h) (K : zCk h) (hN : eNs (fld h 17)) (ha : 0 ≤ a ∧ a ≤ 4) (hn : fld h 13 1 = fld h 37 53) (hs : fld h 14 2 = fld h 37 52) (z : 0 ≤ zBw h a w (fld h 13 1).toNat ∧ r = fld h 15 (zBw h a w (fld h 13 1).toNat).toNat) : zWn h a w ≠ -1 ∧ ∃ B L N : Nat, fld h (fld h r 2) a.toNat = (B : Int) ∧ sh h (fld h r 1) = some (20, N) ∧ (B + L < N ∧ N ≤ 1000 ∧ L < 400) ∧ (∀ k : Nat, k < L → fld h (fld h r 1) (B + k) = mCc h (zWn h a w) a k) ∧ fld h (fld h r 1) (B + L) = -21 ∧ eSg (fld h 17) (mCc h (zWn h a w) a) (if a < 3 then eNum else eBit) 0 L ∧ L = (fld h (155 + zWn h a w) a.toNat).toNat := by
  obtain ⟨z0, z1⟩ := z
  have b := pBw_b (fs := fld h 164) (ff := fld h 165) (Lc := fun s => fld h (155 + s) a.toNat) (w := w) (fld h 13 1).toNat
  have b1 : zBw h a w (fld h 13 1).toNat < ((fld h 13 1).toNat : Nat) := b.2
  have l : 0 < fld h (155 + fld h 164 (zBw h a w (fld h 13 1).toNat).toNat) a.toNat := pBw_l (fs := fld h 164) (ff := fld h 165) (Lc := fun s => fld h (155 + s) a.toNat) (w := w) (fld h 13 1).toNat (by show zBw h a w (fld h 13 1).toNat ≠ -1; omega)
  have e : zWn h a w = fld h 164 (zBw h a w (fld h 13 1).toNat).toNat := by
    unfold zWn pWhy
    rw [← hn]
    exact if_neg (show zBw h a w (fld h 13 1).toNat ≠ -1 by omega)
  obtain ⟨⟨f0, f1⟩, f2, -, -⟩ := F (zBw h a w (fld h 13 1).toNat).toNat (by omega)
  rw [← e] at l f0 f1 f2
  have es : (((zWn h a w).toNat : Nat) : Int) = zWn h a w := by omega
  have ea : ((a.toNat : Nat) : Int) = a := by omega
  obtain ⟨-, N, ⟨p1, pN⟩, p2, -⟩ := P (zWn h a w).toNat (by omega)
  obtain ⟨⟨k1, k2⟩, -⟩ := K (zWn h a w) a f0 (by omega) ha.1 (by omega) l
  have er : r = zv h 14 (zWn h a w).toNat := z1.trans f2
  have p2 := p2 a.toNat (by omega)
  dsimp only at p2
  rw [es, ea] at p2
  unfold zMa zWo at p2
  unfold zWo at p1
  rw [← er] at p1 p2
  rcases p2 with ⟨w1, w2⟩ | ⟨B, L, w1, w2, w3, w4, w5, w6⟩
  · exfalso
    omega
  · have eL : L = (fld h (155 + zWn h a w) a.toNat).toNat := by omega
    refine ⟨by omega, B, L, N, w1, p1, ⟨w4, by omega, by omega⟩, fun k hk => (w6 k hk).1.symm, w5, ?_, eL⟩
    rw [eL]
    exact k2 _ hN
end EX
