/-! what clauses ask by the tables alone -/
section YQ
variable {h g h1 : Hp} {S T : zT} {k v i n : Nat} {x y a b w c z : Int} {ms : Zms} {N M : Nat → Int}
/-- what answers: a clause, a week, names -/
abbrev qT : Type := Int → Int → (Nat → Int) → Int
variable {q : qT}
def yNm0 (w : Int) : Nat → Int := zu (zu (fun _ => 0) 0 w) 1 (w / 13 % 4)
def yIdl (S : zT) (k : Nat) (a : Int) : Int := S 39 (4 * k + a.toNat)
def yNmH (S : zT) (k : Nat) (N : Nat → Int) : Nat → Int := zu (zu (zu (zu (zu N 2 (S 83 k)) 3 (S 80 k)) 4 (S 81 k)) 5 (S 82 k)) 10 (yIdl S (S 79 k).toNat (S 37 0 / 13 % 4))
def yDut (q : qT) (S : zT) (v : Nat) : Int := max (q 2 (S 37 0) (zu (yNm0 (S 37 0)) 12 (S 71 v))) 0
def yOwe (q : qT) (S : zT) (k : Nat) : Int := max (q 0 (S 37 0) (yNmH S k (yNm0 (S 37 0)))) 0
/-- names told alike, so far as they are read -/
def n13 (r : Int) (h : Hp) (N : Nat → Int) : Prop := ∀ j : Nat, j < 13 → fld h r j = N j
theorem n13.zu {r : Int} (H : n13 r h N) (e : fld g r = zu (fld h r) i x) (hx : x = y) : n13 r g (zu N i y) := fun j hj => by
  rw [e, hx]
  by_cases z : j = i
  · rw [z, zu_eq, zu_eq]
  · rw [zu_ne z, zu_ne z]
    exact H j hj
theorem n13.kp {r : Int} (H : n13 r h N) (e : fld g r = fld h r) : n13 r g N := fun j hj => by
  rw [e]
  exact H j hj
theorem n13.cg {r : Int} (H : n13 r h N) (e : N = M) : n13 r h M := e ▸ H
theorem n13.ns {r : Int} (H : n13 r h N) (e : eNs N) : eNs (fld h r) := fun j hj => by
  rw [H j hj]
  exact e j hj
/-- the answer rests on the names told alone -/
theorem zTl_N (H : ∀ j, j < 13 → N j = M j) : zTl h c w N = zTl h c w M := by
  unfold zTl
  rw [eRn_N H]
theorem n13.tl {r : Int} (H : n13 r h N) : zTl g c w (fld h r) = zTl g c w N := zTl_N H
/-- the model's rows of sheets stay: so the answers -/
def zkTl (ms : Zms) : Bool := zuw ms 101 148 && (zuw ms 155 162 && (zun ms 164 && (zun ms 165 && zqN ms 37 37 53 54)))
theorem zTl_of (e1 : ∀ r : Int, 101 ≤ r → r ≤ 148 → fld g r = fld h r) (e2 : ∀ r : Int, 155 ≤ r → r ≤ 162 → fld g r = fld h r) (e3 : fld g 164 = fld h 164) (e4 : fld g 165 = fld h 165) (e5 : fld g 37 53 = fld h 37 53) (hF : ∀ k : Nat, (k : Int) < fld h 37 53 → 0 ≤ fld h 164 k ∧ fld h 164 k < 8) (hc : 0 ≤ c ∧ c ≤ 4) : zTl g c w N = zTl h c w N := by
  have e : zWn g c w = zWn h c w := by
    unfold zWn pWhy
    rw [e3, e4, e5]
    have p : pBw (fld h 164) (fld h 165) (fun s => fld g (155 + s) c.toNat) w (fld h 37 53).toNat = pBw (fld h 164) (fld h 165) (fun s => fld h (155 + s) c.toNat) w (fld h 37 53).toNat := pBw_cg _ (fun k hk => by
      have f := hF k (by omega)
      refine ⟨rfl, ?_⟩
      show 0 < fld g (155 + fld h 164 k) c.toNat ↔ 0 < fld h (155 + fld h 164 k) c.toNat
      rw [e2 _ (by omega) (by omega)])
    rw [p]
  by_cases z : zWn h c w = -1
  · rw [zTl_n z, zTl_n (e.trans z)]
  · rw [zTl_y z, zTl_y (by rw [e]; exact z), e]
    have b := pBw_b (fs := fld h 164) (ff := fld h 165) (Lc := fun s => fld h (155 + s) c.toNat) (w := w) (fld h 37 53).toNat
    have f : 0 ≤ zWn h c w ∧ zWn h c w < 8 := by
      unfold zWn pWhy at z ⊢
      split at z
      · exact absurd rfl z
      · rename_i u
        rw [if_neg u]
        exact hF _ (by omega)
    have r : mCc g (zWn h c w) c = mCc h (zWn h c w) c := by
      unfold mCc
      rw [e1 _ (by omega) (by omega)]
    rw [r, e2 _ (by omega) (by omega)]
/-- what evaluation rests on -/
def zRq (q : qT) (h : Hp) : Prop := (zShe h ∧ zFo h ∧ zCk h) ∧ (fld h 13 1 = fld h 37 53 ∧ fld h 14 2 = fld h 37 52) ∧ ∀ c w N, 0 ≤ c → c ≤ 4 → zTl h c w N = q c w N
def zkRq (ms : Zms) : Bool := zkSh ms && (zkFo ms && (zqN ms 37 37 52 54 && (zun ms 164 && zun ms 165)))
theorem zCk.of (K : zCk h) (e1 : ∀ r : Int, 101 ≤ r → r ≤ 148 → fld g r = fld h r) (e2 : ∀ r : Int, 155 ≤ r → r ≤ 162 → fld g r = fld h r) (e3 : fld g 37 52 = fld h 37 52) (h8 : fld h 37 52 ≤ 8) : zCk g := by
  intro s c s0 s1 c0 c1 hl
  rw [e3] at s1
  have r1 := e1 (101 + 6 * s + c) (by omega) (by omega)
  have r2 := e2 (155 + s) (by omega) (by omega)
  have m : mCc g s c = mCc h s c := by
    unfold mCc
    rw [r1]
  rw [r2] at hl ⊢
  rw [r1, m]
  exact K s c s0 s1 c0 c1 hl
theorem zFo.bd (F : zFo h) (C : CI h) (n1 : fld h 13 1 = fld h 37 53) : ∀ k : Nat, (k : Int) < fld h 37 53 → 0 ≤ fld h 164 k ∧ fld h 164 k < 8 := fun k hk => by
  have w := (F k (by omega)).1
  have b := zLb_14 C
  omega
theorem zRq.fr (P : zRq q h) (C : CI h) (R : zXR ms c z h g) (e : zkRq ms = true) : zRq q g := by
  obtain ⟨⟨p1, p2, p3⟩, ⟨p4, p5⟩, p6⟩ := P
  unfold zkRq at e
  simp only [Bool.and_eq_true] at e
  obtain ⟨e1, e2, e3, e4, e5⟩ := e
  have k1 := e1
  unfold zkSh at k1
  simp only [Bool.and_eq_true] at k1
  obtain ⟨k1, -, -, k4, k5⟩ := k1
  have k6 := e2
  unfold zkFo at k6
  simp only [Bool.and_eq_true] at k6
  obtain ⟨-, -, -, -, -, k7⟩ := k6
  have f1 : fld g 37 52 = fld h 37 52 := R.f e3 ⟨by decide, by decide⟩ ⟨by decide, by decide⟩ ⟨by decide, by decide⟩
  have f2 : fld g 37 53 = fld h 37 53 := R.f e3 ⟨by decide, by decide⟩ ⟨by decide, by decide⟩ ⟨by decide, by decide⟩
  have f3 : fld g 13 1 = fld h 13 1 := R.f k7 ⟨by decide, by decide⟩ ⟨by decide, by decide⟩ ⟨by decide, by decide⟩
  have f4 : fld g 14 2 = fld h 14 2 := R.vz (A := 14) (by decide) k1
  have b := zLb_14 C
  have r1 : ∀ r : Int, 101 ≤ r → r ≤ 148 → fld g r = fld h r := fun r u v => R.rw k4 (by decide) (by decide) u v
  have r2 : ∀ r : Int, 155 ≤ r → r ≤ 162 → fld g r = fld h r := fun r u v => R.rw k5 (by decide) (by decide) u v
  refine ⟨⟨p1.kp C R e1, p2.kp C R e2, p3.of r1 r2 f1 (by omega)⟩, ⟨by omega, by omega⟩, fun c w N c0 c1 => ?_⟩
  rw [← p6 c w N c0 c1]
  exact zTl_of r1 r2 (R.fa (a := 164) e4 (by decide)) (R.fa (a := 165) e5 (by decide)) f2 (p2.bd C p4) ⟨c0, c1⟩
end YQ
section YG
variable {S T : zT} {q : qT} {k v i j : Nat} {x y a b c w d : Int} {h : Hp} {N : Nat → Int}
/-- bounds that stay -/
def yOK (S : zT) : Prop := ((0 ≤ S 37 0 ∧ S 37 0 ≤ 156) ∧ (0 ≤ S 37 1 ∧ S 37 1 ≤ 8) ∧ (0 ≤ S 37 2 ∧ S 37 2 ≤ 20) ∧ (0 ≤ S 37 64 ∧ S 37 64 ≤ 300)) ∧
  (∀ k : Nat, (k : Int) < S 37 2 → (0 ≤ S 80 k ∧ S 80 k ≤ 5) ∧ (0 ≤ S 81 k ∧ S 81 k ≤ 9) ∧ (0 ≤ S 82 k ∧ S 82 k ≤ 5) ∧ (0 ≤ S 83 k ∧ S 83 k ≤ 9) ∧ (0 ≤ S 79 k ∧ S 79 k < S 37 1)) ∧
  (∀ v : Nat, (v : Int) < S 37 1 → (1 ≤ S 71 v ∧ S 71 v ≤ 99) ∧ ∀ s : Nat, s < 4 → 0 ≤ S 39 (4 * v + s) ∧ S 39 (4 * v + s) ≤ 40) ∧
  (∀ l : Nat, (l : Int) < S 37 64 → (0 ≤ S 172 l ∧ S 172 l ≤ 60) ∧ (0 ≤ S 173 l ∧ S 173 l ≤ 300) ∧ (0 ≤ S 170 l ∧ S 170 l < S 37 2))
theorem yOK.s (K : yOK S) : (0 ≤ S 37 0 ∧ S 37 0 ≤ 156) ∧ (0 ≤ S 37 1 ∧ S 37 1 ≤ 8) ∧ (0 ≤ S 37 2 ∧ S 37 2 ≤ 20) ∧ (0 ≤ S 37 64 ∧ S 37 64 ≤ 300) := K.1
theorem yOK.ho (K : yOK S) (hk : (k : Int) < S 37 2) : (0 ≤ S 80 k ∧ S 80 k ≤ 5) ∧ (0 ≤ S 81 k ∧ S 81 k ≤ 9) ∧ (0 ≤ S 82 k ∧ S 82 k ≤ 5) ∧ (0 ≤ S 83 k ∧ S 83 k ≤ 9) ∧ (0 ≤ S 79 k ∧ S 79 k < S 37 1) := K.2.1 k hk
theorem yOK.vi (K : yOK S) (hv : (v : Int) < S 37 1) : (1 ≤ S 71 v ∧ S 71 v ≤ 99) ∧ ∀ s : Nat, s < 4 → 0 ≤ S 39 (4 * v + s) ∧ S 39 (4 * v + s) ≤ 40 := K.2.2.1 v hv
theorem yOK.id (K : yOK S) (hv : (v : Int) < S 37 1) (ha : 0 ≤ a ∧ a ≤ 3) : 0 ≤ yIdl S v a ∧ yIdl S v a ≤ 40 := (K.vi hv).2 a.toNat (by omega)
/-- what it rests on -/
def yKt (a i : Nat) : Prop := (a = 37 ∧ (i = 0 ∨ i = 1 ∨ i = 2 ∨ i = 64)) ∨ a = 39 ∨ a = 71 ∨ a = 79 ∨ a = 80 ∨ a = 81 ∨ a = 82 ∨ a = 83 ∨ a = 170 ∨ a = 172 ∨ a = 173
theorem yOK.ag (K : yOK S) (H : ∀ a i, yKt a i → T a i = S a i) : yOK T := by
  have s0 := H 37 0 (Or.inl ⟨rfl, by omega⟩)
  have s1 := H 37 1 (Or.inl ⟨rfl, by omega⟩)
  have s2 := H 37 2 (Or.inl ⟨rfl, by omega⟩)
  have s3 := H 37 64 (Or.inl ⟨rfl, by omega⟩)
  have t : ∀ a i, a = 39 ∨ a = 71 ∨ a = 79 ∨ a = 80 ∨ a = 81 ∨ a = 82 ∨ a = 83 ∨ a = 170 ∨ a = 172 ∨ a = 173 → T a i = S a i := fun a i e => H a i (Or.inr e)
  obtain ⟨k1, k2, k3, k4⟩ := K
  refine ⟨by rw [s0, s1, s2, s3]; exact k1, fun k hk => ?_, fun v hv => ?_, fun l hl => ?_⟩
  · rw [t 80 k (by omega), t 81 k (by omega), t 82 k (by omega), t 83 k (by omega), t 79 k (by omega), s1]
    exact k2 k (by omega)
  · rw [t 71 v (by omega)]
    refine ⟨(k3 v (by omega)).1, fun s hs => ?_⟩
    rw [t 39 _ (by omega)]
    exact (k3 v (by omega)).2 s hs
  · rw [t 172 l (by omega), t 173 l (by omega), t 170 l (by omega), s2]
    exact k4 l (by omega)
theorem yOK.zss {a i : Nat} (K : yOK S) (e : ¬ yKt a i) : yOK (zs S a i x) := K.ag (fun b j hb => by
  rw [zs_if]
  refine if_neg (fun z => e ?_)
  rw [← z.1, ← z.2]
  exact hb)
theorem yKt_n {a i : Nat} (e : (a ≠ 37 ∧ a ≠ 39 ∧ a ≠ 71) ∧ (a < 79 ∨ 83 < a) ∧ (a ≠ 170 ∧ a ≠ 172 ∧ a ≠ 173)) : ¬ yKt a i := by
  unfold yKt
  omega
theorem eNum_of (h : -1000 ≤ x ∧ x ≤ 1000) : eNum x := by
  unfold eNum
  omega
theorem eNs_zu (H : eNs N) (hx : -1000 ≤ x ∧ x ≤ 1000) : eNs (zu N i x) := fun j hj => by
  by_cases z : j = i
  · rw [z, zu_eq]
    exact eNum_of hx
  · rw [zu_ne z]
    exact H j hj
theorem eNs_nm0 (K : yOK S) : eNs (yNm0 (S 37 0)) := eNs_zu (eNs_zu eNs_0 (by have := K.s; omega)) (by have := K.s; omega)
theorem eNs_dut (K : yOK S) (hv : (v : Int) < S 37 1) : eNs (zu (yNm0 (S 37 0)) 12 (S 71 v)) := eNs_zu (eNs_nm0 K) (by have := (K.vi hv).1; omega)
theorem eNs_nmh (K : yOK S) (H : eNs N) (hk : (k : Int) < S 37 2) : eNs (yNmH S k N) := by
  have w := K.ho hk
  have u := K.id (v := (S 79 k).toNat) (a := S 37 0 / 13 % 4) (by omega) (by omega)
  exact eNs_zu (eNs_zu (eNs_zu (eNs_zu (eNs_zu H (by omega)) (by omega)) (by omega)) (by omega)) (by omega)
theorem zTl_num (K : zCk h) (hF : ∀ k : Nat, (k : Int) < fld h 37 53 → 0 ≤ fld h 164 k ∧ fld h 164 k < fld h 37 52) (hN : eNs N) (hc : 0 ≤ c ∧ c < 3) : eNum (zTl h c w N) := by
  by_cases z : zWn h c w = -1
  · rw [zTl_n z]
    split <;> exact eNum_of (by omega)
  · rw [zTl_y z]
    have l := zWn_l hF z
    have k := ((K (zWn h c w) c l.1 l.2.1 hc.1 (by omega) l.2.2).1.2 N hN).fin.2
    rw [if_pos hc.2] at k
    exact k
theorem zTl_bit (K : zCk h) (hF : ∀ k : Nat, (k : Int) < fld h 37 53 → 0 ≤ fld h 164 k ∧ fld h 164 k < fld h 37 52) (hN : eNs N) (hc : 3 ≤ c ∧ c ≤ 4) : eBit (zTl h c w N) := by
  by_cases z : zWn h c w = -1
  · rw [zTl_n z, if_neg (by omega)]
    exact Or.inr rfl
  · rw [zTl_y z]
    have l := zWn_l hF z
    have k := ((K (zWn h c w) c l.1 l.2.1 (by omega) (by omega) l.2.2).1.2 N hN).fin.2
    rw [if_neg (by omega)] at k
    exact k
theorem zRq.bd (P : zRq q h) : ∀ k : Nat, (k : Int) < fld h 37 53 → 0 ≤ fld h 164 k ∧ fld h 164 k < fld h 37 52 := fun k hk => by
  have w := (P.1.2.1 k (by have := P.2.1.1; omega)).1
  have u := P.2.1.2
  omega
theorem zRq.num (P : zRq q h) (hN : eNs N) (hc : 0 ≤ c ∧ c < 3) : eNum (q c w N) := by
  rw [← P.2.2 c w N hc.1 (by omega)]
  exact zTl_num P.1.2.2 P.bd hN hc
theorem zRq.bit (P : zRq q h) (hN : eNs N) (hc : 3 ≤ c ∧ c ≤ 4) : eBit (q c w N) := by
  rw [← P.2.2 c w N (by omega) hc.2]
  exact zTl_bit P.1.2.2 P.bd hN hc
theorem yC_39 {s : Nat} (hk : (k : Int) < fld h 2 2) (hs : s < 4) (h8 : fld h 2 2 ≤ 8) : yC h 39 (4 * k + s) = zid (fld h (zv h 2 k) 1) s := by
  show (if 4 * k + s < 32 ∧ (((4 * k + s) / 4 : Nat) : Int) < fld h 2 2 then zid (fld h (zv h 2 ((4 * k + s) / 4)) 1) ((4 * k + s) % 4) else 0) = _
  rw [show (4 * k + s) / 4 = k by omega, show (4 * k + s) % 4 = s by omega, if_pos ⟨by omega, hk⟩]
/-- what a house likes -/
def yCho (S : zT) (v : Nat) (a b : Int) : Int := if 0 < w32 (S 67 v + S 68 v) ∧ S 70 v ≤ a then (if (0 < S 69 v ∧ w32 (S 71 v + b) ≤ a) ∧ w32 (w32 (S 71 v + b) + S 72 v) < S 70 v then 1 else 0) else (if 0 < S 69 v ∧ w32 (S 71 v + b) ≤ a then 1 else -1)
def ySlH (S : zT) (v : Nat) : zT := if 0 < S 67 v then zs (zs (zs S 67 v (w32 (S 67 v - 1))) 73 v (w32 (S 73 v + S 70 v))) 76 v (w32 (S 76 v + 1)) else zs (zs S 68 v (w32 (S 68 v - 1))) 73 v (w32 (S 73 v + S 70 v))
def ySlM (S : zT) (v : Nat) : zT := zs (zs (zs S 69 v (w32 (S 69 v - 1))) 73 v (w32 (S 73 v + S 71 v))) 77 v (w32 (S 77 v + 1))
def yBya (S : zT) (k : Nat) (c d : Int) : zT := if c = 0 then zs (zs (ySlH S (S 79 k).toNat) 84 k (w32 (S 84 k - S 70 (S 79 k).toNat))) 87 k (w32 (S 87 k + 1)) else if c = 1 then zs (zs (zs (ySlM S (S 79 k).toNat) 84 k (w32 (S 84 k - w32 (S 71 (S 79 k).toNat + d)))) 88 k (w32 (S 88 k + 1))) 37 38 (w32 (S 37 38 + d)) else zs S 86 k (w32 (S 86 k + 1))
def yByd (S : zT) (k : Nat) (d : Int) : zT := yBya S k (yCho S (S 79 k).toNat (S 84 k) d) d
def yByh (q : qT) (S : zT) (k : Nat) : zT := yByd S k (yDut q S (S 79 k).toNat)
def yBys (q : qT) (S : zT) : Nat → zT
  | 0 => S
  | k + 1 => if (yBys q S k 37 0 + yBys q S k 83 k) % 4 = 0 then yByh q (yBys q S k) k else yBys q S k
theorem yBys_s : yBys q S (k + 1) = if (yBys q S k 37 0 + yBys q S k 83 k) % 4 = 0 then yByh q (yBys q S k) k else yBys q S k := rfl
def yByA (q : qT) (S : zT) : zT := yBys q S (S 37 2).toNat
theorem ySlH_n {a : Nat} (e : (a ≠ 67 ∧ a ≠ 76) ∧ (a ≠ 73 ∧ a ≠ 68)) : ySlH S v a i = S a i := by
  obtain ⟨⟨e1, e2⟩, e3, e4⟩ := e
  unfold ySlH
  split
  · rw [zs_na e2, zs_na e3, zs_na e1]
  · rw [zs_na e3, zs_na e4]
theorem ySlM_n {a : Nat} (e : a ≠ 69 ∧ a ≠ 77 ∧ a ≠ 73) : ySlM S v a i = S a i := by
  obtain ⟨e1, e2, e3⟩ := e
  unfold ySlM
  rw [zs_na e2, zs_na e3, zs_na e1]
/-- buying leaves most tables -/
theorem yByd_n {a : Nat} (e : (a ≠ 67 ∧ a ≠ 76 ∧ a ≠ 73 ∧ a ≠ 68) ∧ (a ≠ 69 ∧ a ≠ 77 ∧ a ≠ 84 ∧ a ≠ 87) ∧ (a ≠ 88 ∧ a ≠ 86) ∧ (a ≠ 37 ∨ i ≠ 38)) : yByd S k d a i = S a i := by
  obtain ⟨⟨e1, e2, e3, e4⟩, ⟨e5, e6, e7, e8⟩, ⟨e9, e10⟩, e11⟩ := e
  unfold yByd yBya
  split
  · rw [zs_na e8, zs_na e7, ySlH_n ⟨⟨e1, e2⟩, e3, e4⟩]
  · split
    · rw [zs_if, if_neg (by omega), zs_na e9, zs_na e7, ySlM_n ⟨e5, e6, e3⟩]
    · rw [zs_na e10]
theorem yBys_n {a : Nat} (e : (a ≠ 67 ∧ a ≠ 76 ∧ a ≠ 73 ∧ a ≠ 68) ∧ (a ≠ 69 ∧ a ≠ 77 ∧ a ≠ 84 ∧ a ≠ 87) ∧ (a ≠ 88 ∧ a ≠ 86) ∧ (a ≠ 37 ∨ i ≠ 38)) : ∀ k : Nat, yBys q S k a i = S a i
  | 0 => rfl
  | k + 1 => by
    rw [yBys_s]
    split
    · exact (yByd_n e).trans (yBys_n e k)
    · exact yBys_n e k
theorem yKt_b {a i : Nat} (e : yKt a i) : (a ≠ 67 ∧ a ≠ 76 ∧ a ≠ 73 ∧ a ≠ 68) ∧ (a ≠ 69 ∧ a ≠ 77 ∧ a ≠ 84 ∧ a ≠ 87) ∧ (a ≠ 88 ∧ a ≠ 86) ∧ (a ≠ 37 ∨ i ≠ 38) := by
  unfold yKt at e
  omega
theorem yOK.bys (K : yOK S) (k : Nat) : yOK (yBys q S k) := K.ag (fun _ _ e => yBys_n (yKt_b e) k)
end YG
section YM
variable {h g : Hp} {S : zT} {q : qT} {k v : Nat} {a c w d : Int} {N : Nat → Int} {ms : Zms}
/-- zeros so far -/
theorem zr_w {r k : Int} {n : Nat} (H : ∀ j : Nat, (j : Int) < k → fld h r j = 0) (e : g = wr h r k.toNat 0) (s : sh h r = some (20, n)) (hk : 0 ≤ k ∧ k < n) : ∀ j : Nat, (j : Int) < k + 1 → fld g r j = 0 := fun j hj => by
  rw [e]
  by_cases z : j = k.toNat
  · rw [z]
    exact fld_wr_eq s (by omega)
  · rw [fld_wr (Or.inr z)]
    exact H j (by omega)
/-- what evaluation rests on, in the model -/
def mRq (q : qT) (h : Hp) : Prop := zCk h ∧ (∀ k : Nat, (k : Int) < fld h 37 53 → 0 ≤ fld h 164 k ∧ fld h 164 k < fld h 37 52) ∧ (0 ≤ fld h 37 52 ∧ fld h 37 52 ≤ 8) ∧ ∀ c w N, 0 ≤ c → c ≤ 4 → zTl h c w N = q c w N
def zkMq (ms : Zms) : Bool := (zuw ms 101 148 && zuw ms 155 162) && (zun ms 164 && (zun ms 165 && zqN ms 37 37 52 54))
theorem zMR.rw {a b : Nat} (R : zMR ms h g) (e : zuw ms a b = true) {r : Int} (k1 : (a : Int) ≤ r) (k2 : r ≤ (b : Int)) : fld g r = fld h r := funext fun j => R.2.2.2 _ j (fun f hf hz => by
  have w := List.all_eq_true.mp e f hf
  rw [Bool.or_eq_true] at w
  rcases w with w | w
  · have := Nat.le_of_ble_eq_true w
    omega
  · have := Nat.le_of_ble_eq_true w
    omega)
theorem zMR.un {a : Nat} (R : zMR ms h g) (e : zun ms a = true) : fld g (a : Int) = fld h (a : Int) := R.rw (a := a) (b := a) e (Int.le_refl _) (Int.le_refl _)
theorem mRq.fr (P : mRq q h) (R : zMR ms h g) (e : zkMq ms = true) : mRq q g := by
  obtain ⟨p1, p2, p3, p4⟩ := P
  unfold zkMq at e
  simp only [Bool.and_eq_true] at e
  obtain ⟨⟨e1, e2⟩, e3, e4, e5⟩ := e
  have f1 : fld g 37 52 = fld h 37 52 := R.f e5 ⟨by decide, by decide⟩ ⟨by decide, by decide⟩
  have f2 : fld g 37 53 = fld h 37 53 := R.f e5 ⟨by decide, by decide⟩ ⟨by decide, by decide⟩
  have f3 : fld g 164 = fld h 164 := R.un (a := 164) e3
  have f4 : fld g 165 = fld h 165 := R.un (a := 165) e4
  have r1 : ∀ r : Int, 101 ≤ r → r ≤ 148 → fld g r = fld h r := fun r u v => R.rw e1 u v
  have r2 : ∀ r : Int, 155 ≤ r → r ≤ 162 → fld g r = fld h r := fun r u v => R.rw e2 u v
  refine ⟨p1.of r1 r2 f1 p3.2, fun k hk => ?_, by omega, fun c w N c0 c1 => ?_⟩
  · rw [f3, f1]
    exact p2 k (by omega)
  · rw [← p4 c w N c0 c1]
    exact zTl_of r1 r2 f3 f4 f2 (fun k hk => by have := p2 k hk; omega) ⟨c0, c1⟩
theorem mRq.num (P : mRq q h) (hN : eNs N) (hc : 0 ≤ c ∧ c < 3) : eNum (q c w N) := by
  rw [← P.2.2.2 c w N hc.1 (by omega)]
  exact zTl_num P.1 P.2.1 hN hc
theorem mRq.bit (P : mRq q h) (hN : eNs N) (hc : 3 ≤ c ∧ c ≤ 4) : eBit (q c w N) := by
  rw [← P.2.2.2 c w N (by omega) hc.2]
  exact zTl_bit P.1 P.2.1 hN hc
def yCh0 (S : zT) (k : Nat) : Int := if 0 < w32 (S 67 (S 79 k).toNat + S 68 (S 79 k).toNat) ∧ S 70 (S 79 k).toNat ≤ S 84 k then 1 else 0
def yCm0 (S : zT) (k : Nat) (d : Int) : Int := if 0 < S 69 (S 79 k).toNat ∧ w32 (S 71 (S 79 k).toNat + d) ≤ S 84 k then 1 else 0
def yCm1 (q : qT) (S : zT) (k : Nat) : Int := yCm0 S k (yDut q S (S 79 k).toNat)
theorem yCh0_c : (yCh0 S k = 1 ∧ 0 < w32 (S 67 (S 79 k).toNat + S 68 (S 79 k).toNat) ∧ S 70 (S 79 k).toNat ≤ S 84 k) ∨ (yCh0 S k = 0 ∧ (w32 (S 67 (S 79 k).toNat + S 68 (S 79 k).toNat) ≤ 0 ∨ S 84 k < S 70 (S 79 k).toNat)) := by
  unfold yCh0
  split
  · rename_i z
    exact Or.inl ⟨rfl, z⟩
  · exact Or.inr ⟨rfl, by omega⟩
theorem yCm1_c : (yCm1 q S k = 1 ∧ 0 < S 69 (S 79 k).toNat ∧ w32 (S 71 (S 79 k).toNat + yDut q S (S 79 k).toNat) ≤ S 84 k) ∨ (yCm1 q S k = 0 ∧ (S 69 (S 79 k).toNat ≤ 0 ∨ S 84 k < w32 (S 71 (S 79 k).toNat + yDut q S (S 79 k).toNat))) := by
  unfold yCm1 yCm0
  split
  · rename_i z
    exact Or.inl ⟨rfl, z⟩
  · exact Or.inr ⟨rfl, by omega⟩
def yLikA (q : qT) (S : zT) (a : Int) : Int := if 0 ≤ a ∧ a < S 37 2 then yCho S (S 79 a.toNat).toNat (S 84 a.toNat) (yDut q S (S 79 a.toNat).toNat) else -1
end YM
section YD
variable {S : zT} {q : qT} {k v i : Nat} {x : Int}
/-- dues -/
def yDu1 (q : qT) (S : zT) (k : Nat) : zT := if 0 < S 80 k then zs S 93 k (w32 (S 93 k + yOwe q S k)) else S
def yDus (q : qT) (S : zT) : Nat → zT
  | 0 => S
  | k + 1 => yDu1 q (yDus q S k) k
def yDuA (q : qT) (S : zT) : zT := yDus q S (S 37 2).toNat
theorem yDus_n {a : Nat} (e : a ≠ 93) : ∀ k : Nat, yDus q S k a i = S a i
  | 0 => rfl
  | k + 1 => by
    show yDu1 q (yDus q S k) k a i = _
    unfold yDu1
    split
    · rw [zs_na e]
      exact yDus_n e k
    · exact yDus_n e k
theorem yOK.dus (K : yOK S) (k : Nat) : yOK (yDus q S k) := K.ag (fun a i e => yDus_n (by unfold yKt at e; omega) k)
/-- mill prices -/
def yMl1 (S : zT) (v : Nat) : zT := zs (zs (zs S 71 v (if S 77 v < S 78 v then max (S 71 v - 1) 1 else min (S 71 v + 1) 99)) 77 v 0) 78 v (S 77 v)
def yMls (S : zT) : Nat → zT
  | 0 => S
  | v + 1 => yMl1 (yMls S v) v
def yMlA (S : zT) : zT := yMls S (S 37 1).toNat
theorem yMl1_n {a : Nat} (e : a ≠ 71 ∧ a ≠ 77 ∧ a ≠ 78) : yMl1 S v a i = S a i := by
  unfold yMl1
  rw [zs_na e.2.2, zs_na e.2.1, zs_na e.1]
theorem yOK.ml1 (K : yOK S) (hv : (v : Int) < S 37 1) : yOK (yMl1 S v) := by
  have b := (K.vi hv).1
  have K2 : yOK (zs S 71 v (if S 77 v < S 78 v then max (S 71 v - 1) 1 else min (S 71 v + 1) 99)) := by
    refine ⟨by rw [zs_na (by decide), zs_na (by decide), zs_na (by decide), zs_na (by decide)]; exact K.1, fun k hk => ?_, fun u hu => ?_, fun l hl => ?_⟩
    · rw [zs_na (by decide)] at hk
      rw [zs_na (by decide), zs_na (by decide), zs_na (by decide), zs_na (by decide), zs_na (by decide), zs_na (by decide)]
      exact K.2.1 k hk
    · rw [zs_na (by decide)] at hu
      refine ⟨?_, fun s hs => by rw [zs_na (by decide)]; exact (K.vi hu).2 s hs⟩
      by_cases z : u = v
      · rw [z, zs_eq]
        split <;> omega
      · rw [zs_ni z]
        exact (K.vi hu).1
    · rw [zs_na (by decide)] at hl
      rw [zs_na (by decide), zs_na (by decide), zs_na (by decide), zs_na (by decide)]
      exact K.2.2.2 l hl
  exact (K2.zss (yKt_n (by decide))).zss (yKt_n (by decide))
theorem yMls_n {a : Nat} (e : a ≠ 71 ∧ a ≠ 77 ∧ a ≠ 78) : ∀ k : Nat, yMls S k a i = S a i
  | 0 => rfl
  | k + 1 => (yMl1_n e).trans (yMls_n e k)
theorem yOK.mls (K : yOK S) : ∀ k : Nat, (k : Int) ≤ S 37 1 → yOK (yMls S k)
  | 0, _ => K
  | k + 1, h => (K.mls k (by omega)).ml1 (by rw [yMls_n (by decide)]; omega)
end YD
section YS
variable {S : zT} {q : qT}
/-- as a season ends -/
def ySea (q : qT) (S : zT) : zT := yMlA (yDuA q S)
end YS
section YW
variable {S : zT} {v u n i k : Nat} {h g : Hp} {ms : Zms} {c z x r : Int}
/-- a row told so far -/
theorem rw_w {r k x : Int} {f : Nat → Int} {n : Nat} (H : ∀ j : Nat, (j : Int) < k → fld h r j = f j) (e : g = wr h r k.toNat x) (s : sh h r = some (20, n)) (hk : 0 ≤ k ∧ k < n) (hx : x = f k.toNat) : ∀ j : Nat, (j : Int) < k + 1 → fld g r j = f j := fun j hj => by
  rw [e]
  by_cases z : j = k.toNat
  · rw [z, fld_wr_eq s (by omega)]
    exact hx
  · rw [fld_wr (Or.inr z)]
    exact H j (by omega)
/-- the word of village v, behind so many others -/
def yWm (S : zT) (v : Nat) : Nat → Int
  | 0 => max (w32 (S 72 v - 1)) 0
  | u + 1 => if 0 < S 48 (8 * v + u) then max (yWm S v u) (w32 (S 72 u - 2)) else yWm S v u
theorem yWm_0 : yWm S v 0 = max (w32 (S 72 v - 1)) 0 := rfl
theorem yWm_s : yWm S v (u + 1) = if 0 < S 48 (8 * v + u) then max (yWm S v u) (w32 (S 72 u - 2)) else yWm S v u := rfl
def yWds (S : zT) (n : Nat) : Nat → zT
  | 0 => S
  | v + 1 => zs (yWds S n v) 72 v (yWm S v n)
theorem yWds_s : yWds S n (v + 1) = zs (yWds S n v) 72 v (yWm S v n) := rfl
def yWrA (S : zT) : zT := yWds S (S 37 1).toNat (S 37 1).toNat
theorem yWds_n {a : Nat} (e : a ≠ 72) : ∀ k : Nat, yWds S n k a i = S a i
  | 0 => rfl
  | k + 1 => (zs_na e).trans (yWds_n e k)
theorem yOK.wds (K : yOK S) (k : Nat) : yOK (yWds S n k) := K.ag (fun a i e => yWds_n (by unfold yKt at e; omega) k)
/-- the class's roads as they lie -/
def zLw (h : Hp) : Prop := ∀ a b : Nat, a < 8 → b < 8 → (a = b ∧ fld h 7 (8 * a + b) = 0) ∨ (a ≠ b ∧ 1 ≤ fld h 7 (8 * a + b) ∧ fld h 7 (8 * a + b) ≤ 1000000)
theorem zLw.fr (W : zLw h) (R : zXR ms c z h g) (e : zun ms 7 = true) : zLw g := fun a b ha hb => by
  rw [show fld g 7 = fld h 7 from R.fa (a := 7) e (by decide)]
  exact W a b ha hb
theorem zLw.yc {a b : Nat} (W : zLw h) (ha : a < 8) (hb : b < 8) : (a = b ∧ yC h 48 (8 * a + b) = 0) ∨ (a ≠ b ∧ ((fld h 7 (8 * a + b) = 1000000 ∧ yC h 48 (8 * a + b) = 0) ∨ (fld h 7 (8 * a + b) < 1000000 ∧ 0 < yC h 48 (8 * a + b)))) := by
  have e : yC h 48 (8 * a + b) = if fld h 7 (8 * a + b) = 1000000 then 0 else fld h 7 (8 * a + b) := if_pos (show 8 * a + b < 64 by omega)
  rw [e]
  rcases W a b ha hb with ⟨w1, w2⟩ | ⟨w1, w2, w3⟩
  · left
    rw [w2]
    exact ⟨w1, rfl⟩
  · right
    refine ⟨w1, ?_⟩
    by_cases q : fld h 7 (8 * a + b) = 1000000
    · rw [if_pos q]
      exact Or.inl ⟨q, rfl⟩
    · rw [if_neg q]
      exact Or.inr ⟨by omega, by omega⟩
end YW
section YL
variable {S : zT} {n i k v l : Nat} {a b c d : Int}
def ySmC (S : zT) : Nat → Int
  | 0 => 0
  | v + 1 => w32 (ySmC S v + S 66 v)
theorem ySmC_s : ySmC S (v + 1) = w32 (ySmC S v + S 66 v) := rfl
def ySmL (S : zT) : Nat → Int
  | 0 => 0
  | l + 1 => w32 (ySmL S l + S 175 l)
theorem ySmL_s : ySmL S (l + 1) = w32 (ySmL S l + S 175 l) := rfl
def ySmCA (S : zT) : Int := ySmC S (S 37 1).toNat
def ySmLA (S : zT) : Int := ySmL S (S 37 64).toNat
/-- a week's numbers -/
def yClo (S : zT) (n : Nat) (b c d : Int) : zT := zs (zs (zs (zs (zs (zs (zs S 206 (6 * n) b) 206 (6 * n + 1) c) 206 (6 * n + 2) d) 206 (6 * n + 3) (S 37 69)) 206 (6 * n + 4) (S 37 70)) 206 (6 * n + 5) (w32 (S 37 71 + c))) 37 71 (w32 (S 37 71 + c))
end YL
section YB
variable {S T : zT} {n k v i : Nat} {a : Int}
def yNt (S : zT) (k : Nat) (a : Int) : zT := zs S 57 (157 * k + a.toNat) (S 71 k)
/-- as a week begins -/
def yBg1 (S : zT) (n : Nat) : Nat → zT
  | 0 => S
  | v + 1 => zs (yBg1 S n v) 57 (157 * v + n) (yBg1 S n v 71 v)
theorem yBg1_s : yBg1 S n (v + 1) = zs (yBg1 S n v) 57 (157 * v + n) (yBg1 S n v 71 v) := rfl
def yBg2 (S : zT) : Nat → zT
  | 0 => S
  | k + 1 => zs (yBg2 S k) 92 k 0
theorem yBg2_s : yBg2 S (k + 1) = zs (yBg2 S k) 92 k 0 := rfl
def yBgA (S : zT) : zT := yBg2 (yBg1 S (S 37 0).toNat (S 37 1).toNat) (S 37 2).toNat
theorem yBg1_n {a : Nat} (e : a ≠ 57) : ∀ v : Nat, yBg1 S n v a i = S a i
  | 0 => rfl
  | v + 1 => (zs_na e).trans (yBg1_n e v)
theorem yBg2_n {a : Nat} (e : a ≠ 92) : ∀ v : Nat, yBg2 S v a i = S a i
  | 0 => rfl
  | v + 1 => (zs_na e).trans (yBg2_n e v)
end YB
