/-! clauses and the whole reading, the class's and the model's -/
section CL
variable {sc : List Int} {h g h1 h2 : Hp} {t : pT} {n p k m i : Nat} {s u : pQ} {b b2 : Nat → Int} {x v : Int} {ms : Zms} {c z : Int} {T : Bool × pQ × (Nat → Int)}
/-- all depths, the class -/
theorem zrgram (sc : List Int) : ∀ (d : Nat) (a : Int), d ≤ 8 → a = 8 - (d : Int) → rX sc (25 * d + 22) 241 a (fun t n => pSum t n d) ∧ rX sc (25 * d + 23) 281 a (fun t n => pHo t n d) ∧ rX sc (25 * d + 25) 242 a (fun t n => pEi t n d)
  | 0, a, _, ha => by
    have ha : a = 8 := by omega
    subst ha
    have ho : ((8 : Int) < 8 ∧ false = true) ∨ ((8 : Int) ≤ 8 ∧ false = false) := Or.inr ⟨by decide, rfl⟩
    have e1 : ∀ (t : pT) (n : Nat), pG n pNo := fun _ n => pG_no
    exact ⟨x241_q 8 0 (by omega) false (fun _ _ => pNo) ho e1 (fun h => by omega), x281_q 8 0 (by omega) false (fun _ _ => pNo) ho e1 (fun h => by omega) (fun _ _ => pNo) (fun _ _ => pNo) e1 e1 (fun h => by omega) (fun h => by omega), x242_q 8 0 (by omega) false (fun _ _ => pNo) ho e1 (fun h => by omega) (fun _ _ => pNo) (fun _ _ => pNo) e1 e1 (fun h => by omega) (fun h => by omega)⟩
  | d + 1, a, hd, ha => by
    obtain ⟨k1, k2, k3⟩ := zrgram sc d (a + 1) (by omega) (by omega)
    have q1 := rX.up (show 25 * d + 22 ≤ 25 * (d + 1) by omega) k1
    have q2 := rX.up (show 25 * d + 23 ≤ 25 * (d + 1) by omega) k2
    have q3 := rX.up (show 25 * d + 25 ≤ 25 * (d + 1) by omega) k3
    have ho : (a < 8 ∧ true = true) ∨ ((8 : Int) ≤ a ∧ true = false) := Or.inl ⟨by omega, rfl⟩
    have g1 : ∀ (t : pT) (n : Nat), pG n (pSum t n d) := fun _ _ => pG_sum d
    have g2 : ∀ (t : pT) (n : Nat), pG n (pHo t n d) := fun _ _ => pG_ho d
    have g3 : ∀ (t : pT) (n : Nat), pG n (pEi t n d) := fun _ _ => pG_ei d
    exact ⟨x241_q a (25 * (d + 1)) (by omega) true (fun t n => pSum t n d) ho g1 (fun _ => q1), x281_q a (25 * (d + 1)) (by omega) true (fun t n => pSum t n d) ho g1 (fun _ => q1) (fun t n => pHo t n d) (fun t n => pEi t n d) g2 g3 (fun _ => q2) (fun _ => q3), x242_q a (25 * (d + 1)) (by omega) true (fun t n => pSum t n d) ho g1 (fun _ => q1) (fun t n => pHo t n d) (fun t n => pEi t n d) g2 g3 (fun _ => q2) (fun _ => q3)⟩
theorem zr_sum (sc : List Int) : rX sc 230 241 0 (fun t n => pSum t n 8) := rX.up (by decide) (zrgram sc 8 0 (by decide) (by decide)).1
theorem zr_either (sc : List Int) : rX sc 230 242 0 (fun t n => pEi t n 8) := rX.up (by decide) (zrgram sc 8 0 (by decide) (by decide)).2.2
/-- all depths, the model -/
theorem zmgram (sc : List Int) : ∀ (d : Nat) (a : Int), d ≤ 8 → a = 8 - (d : Int) → mX sc (25 * d + 22) 248 a (fun t n => pSum t n d) ∧ mX sc (25 * d + 23) 286 a (fun t n => pHo t n d) ∧ mX sc (25 * d + 25) 249 a (fun t n => pEi t n d)
  | 0, a, _, ha => by
    have ha : a = 8 := by omega
    subst ha
    have ho : ((8 : Int) < 8 ∧ false = true) ∨ ((8 : Int) ≤ 8 ∧ false = false) := Or.inr ⟨by decide, rfl⟩
    have e1 : ∀ (t : pT) (n : Nat), pG n pNo := fun _ n => pG_no
    exact ⟨m248_q 8 0 (by omega) false (fun _ _ => pNo) ho e1 (fun h => by omega), m286_q 8 0 (by omega) false (fun _ _ => pNo) ho e1 (fun h => by omega) (fun _ _ => pNo) (fun _ _ => pNo) e1 e1 (fun h => by omega) (fun h => by omega), m249_q 8 0 (by omega) false (fun _ _ => pNo) ho e1 (fun h => by omega) (fun _ _ => pNo) (fun _ _ => pNo) e1 e1 (fun h => by omega) (fun h => by omega)⟩
  | d + 1, a, hd, ha => by
    obtain ⟨k1, k2, k3⟩ := zmgram sc d (a + 1) (by omega) (by omega)
    have q1 := mX.up (show 25 * d + 22 ≤ 25 * (d + 1) by omega) k1
    have q2 := mX.up (show 25 * d + 23 ≤ 25 * (d + 1) by omega) k2
    have q3 := mX.up (show 25 * d + 25 ≤ 25 * (d + 1) by omega) k3
    have ho : (a < 8 ∧ true = true) ∨ ((8 : Int) ≤ a ∧ true = false) := Or.inl ⟨by omega, rfl⟩
    have g1 : ∀ (t : pT) (n : Nat), pG n (pSum t n d) := fun _ _ => pG_sum d
    have g2 : ∀ (t : pT) (n : Nat), pG n (pHo t n d) := fun _ _ => pG_ho d
    have g3 : ∀ (t : pT) (n : Nat), pG n (pEi t n d) := fun _ _ => pG_ei d
    exact ⟨m248_q a (25 * (d + 1)) (by omega) true (fun t n => pSum t n d) ho g1 (fun _ => q1), m286_q a (25 * (d + 1)) (by omega) true (fun t n => pSum t n d) ho g1 (fun _ => q1) (fun t n => pHo t n d) (fun t n => pEi t n d) g2 g3 (fun _ => q2) (fun _ => q3), m249_q a (25 * (d + 1)) (by omega) true (fun t n => pSum t n d) ho g1 (fun _ => q1) (fun t n => pHo t n d) (fun t n => pEi t n d) g2 g3 (fun _ => q2) (fun _ => q3)⟩
theorem zm_sum (sc : List Int) : mX sc 230 248 0 (fun t n => pSum t n 8) := mX.up (by decide) (zmgram sc 8 0 (by decide) (by decide)).1
theorem zm_either (sc : List Int) : mX sc 230 249 0 (fun t n => pEi t n 8) := mX.up (by decide) (zmgram sc 8 0 (by decide) (by decide)).2.2
/-- a word's number -/
theorem pFd_b (t : pT) (p l : Nat) : ∀ (L : List (List Int)) (k : Nat), -1 ≤ pFd t p l L k ∧ pFd t p l L k < (k : Int) + L.length
  | [], k => ⟨Int.le_refl _, by show (-1 : Int) < (k : Int) + (0 : Nat); omega⟩
  | w :: r, k => by
    have q := pFd_b t p l r (k + 1)
    show -1 ≤ (if _ then _ else _) ∧ (if _ then _ else _) < _
    rw [List.length_cons]
    split <;> omega
theorem pV_w (h : pK t n p = 1) : -1 ≤ pV t n p ∧ pV t n p ≤ 20 := by
  obtain ⟨h1, h2⟩ := pK_lt1.mp h
  unfold pV pWd
  rw [if_pos h2]
  have q := pFd_b t p (pEn t n p - p) pWs 0
  have l : pWs.length = 21 := rfl
  omega
/-- the ways through a clause -/
def pCc (t : pT) (n : Nat) (s : pQ) (b : Nat → Int) : Prop := pK t n s.1 = 1 ∧ 13 ≤ pV t n s.1 ∧ pV t n s.1 ≤ 17 ∧ b (pV t n s.1 - 13).toNat = -1
def pBo (t : pT) (n : Nat) (s : pQ) : pR := pCb t n (pV t n s.1 - 13) (pA t n s)
theorem pCls_no (h : ¬ pCc t n s b) : pCls t n s b = (false, s, b) := if_neg h
theorem pCls_f (h : pCc t n s b) (h1 : ¬ (pBo t n s).1 = true) : pCls t n s b = (false, (pBo t n s).2, zu b (pV t n s.1 - 13).toNat s.2.1) := (if_pos h).trans (if_neg h1)
theorem pCls_s (h : pCc t n s b) (h1 : (pBo t n s).1 = true) (h2 : pK t n (pBo t n s).2.1 ≠ 59) : pCls t n s b = (false, (pBo t n s).2, zu b (pV t n s.1 - 13).toNat s.2.1) := (if_pos h).trans ((if_pos h1).trans (if_neg h2))
theorem pCls_t (h : pCc t n s b) (h1 : (pBo t n s).1 = true) (h2 : pK t n (pBo t n s).2.1 = 59) : pCls t n s b = (true, pW (-21) (pA t n (pBo t n s).2), zu b (pV t n s.1 - 13).toNat s.2.1) := (if_pos h).trans ((if_pos h1).trans (if_pos h2))
/-- where the clauses begin, in the class -/
def rGb (b : Nat → Int) (h : Hp) : Prop := ∀ c, c < 5 → fld h 12 c = b c
theorem rGb.fr (G : rGb b h) (R : zXR ms c z h g) (e : zqN ms 12 12 0 5 = true) : rGb b g := fun k hk => by
  have q : fld g 12 k = fld h 12 k := R.f e ⟨by decide, by decide⟩ ⟨by omega, by omega⟩ ⟨by decide, by decide⟩
  rw [q]
  exact G k hk
theorem rGb.wt (G : rGb b h) (e : g = wr h 12 i x) (s : sh h 12 = some (20, 5)) (hi : i < 5) : rGb (zu b i x) g := fun k hk => by
  by_cases z : k = i
  · rw [z, zu_eq, e]
    exact fld_wr_eq s hi
  · rw [zu_ne z, e, fld_wr (Or.inr z)]
    exact G k hk
theorem rQ.fr (Q : rQ t n h s) (R : zXR ms c z h g) (e : (zqN ms 9 9 2 7 && zun ms 11) = true) : rQ t n g s := by
  rw [Bool.and_eq_true] at e
  obtain ⟨q1, q2, q3⟩ := Q
  obtain ⟨k1, k2, k3, k4, k5⟩ := q1
  have f : ∀ j, 2 ≤ j → j < 7 → fld g 9 j = fld h 9 j := fun j j1 j2 => R.f e.1 ⟨by decide, by decide⟩ ⟨j1, j2⟩ ⟨by decide, by decide⟩
  exact ⟨⟨(f 3 (by decide) (by decide)).trans k1, k2, (f 2 (by decide) (by decide)).trans k3, (f 4 (by decide) (by decide)).trans k4, fun y => (f 5 (by decide) (by decide)).trans (k5 y)⟩, (f 6 (by decide) (by decide)).trans q2, (R.fa (a := 11) e.2 (by decide)).trans q3⟩
def rC (t : pT) (n : Nat) (g : Hp) (x : Int) (r : Bool × pQ × (Nat → Int)) : Prop := rQ t n g r.2.1 ∧ rW n r.2.1 ∧ rGb r.2.2 g ∧ ((x = 1 ∧ r.1 = true) ∨ (x = 0 ∧ r.1 = false))
theorem rC_f (Q : rQ t n g s) (W : rW n s) (G : rGb b g) : rC t n g 0 (false, s, b) := ⟨Q, W, G, Or.inr ⟨rfl, rfl⟩⟩
theorem rC_t (Q : rQ t n g s) (W : rW n s) (G : rGb b g) : rC t n g 1 (true, s, b) := ⟨Q, W, G, Or.inl ⟨rfl, rfl⟩⟩
theorem rC.b1 {r : Bool × pQ × (Nat → Int)} (R : rC t n g x r) (e : x ≠ 0) : r.1 = true := by
  rcases R.2.2.2 with ⟨_, y⟩ | ⟨y, _⟩
  · exact y
  · exact absurd y e
theorem rC.b0 {r : Bool × pQ × (Nat → Int)} (R : rC t n g x r) (e : x = 0) : ¬ (r.1 = true) := by
  rcases R.2.2.2 with ⟨y, _⟩ | ⟨_, y⟩
  · omega
  · rw [y]; exact Bool.false_ne_true
def rD (t : pT) (n : Nat) (h : Hp) (m : Nat) (T : Bool × pQ × (Nat → Int)) : Prop := ∃ (q : pQ) (b : Nat → Int), rQ t n h q ∧ rW n q ∧ rGb b h ∧ T = pRd t n m q b
theorem pRd_z (e : m = 0 ∨ pK t n s.1 = 0) : pRd t n m s b = (true, s, b) := by
  cases m with
  | zero => rfl
  | succ m => exact if_pos (e.resolve_left (by omega))
theorem pRd_n (e : m = k + 1) (h0 : pK t n s.1 ≠ 0) (h1 : (pCls t n s b).1 = true) : pRd t n m s b = pRd t n k (pCls t n s b).2.1 (pCls t n s b).2.2 := by
  subst e
  exact (if_neg h0).trans (if_pos h1)
theorem pRd_f (e : m = k + 1) (h0 : pK t n s.1 ≠ 0) (h1 : ¬ (pCls t n s b).1 = true) : pRd t n m s b = pCls t n s b := by
  subst e
  exact (if_neg h0).trans (if_neg h1)
theorem pFa_t {c0 : Nat → Int} (e : (pRead t n c0).1 = true) : pFa t n c0 = -1 := if_pos e
theorem pFa_f {c0 : Nat → Int} (e : ¬ (pRead t n c0).1 = true) : pFa t n c0 = (((pRead t n c0).2.1.1 : Nat) : Int) := if_neg e
/-! the model's clauses -/
def mG (b : Nat → Int) (s : pQ) (h : Hp) : Prop := ∀ c, c < 5 → (b c = -1 ∧ fld h 163 c = 0) ∨ ∃ B L : Nat, b c = (B : Int) ∧ fld h 163 c = (L : Int) ∧ 0 < L ∧ B + L < s.2.1 ∧ s.2.2 (B + L) = -21 ∧ ∀ k, k < L → mCd (fld h (149 + (c : Int))) k (s.2.2 (B + k))
theorem mG.fr (G : mG b s h) (R : zMR ms h g) (e : (zqN ms 163 163 0 5 && (zqN ms 37 37 47 48 && ms.all (fun q => Nat.blt q.2.1 149 || Nat.blt 153 q.1)) || (zqN ms 163 163 0 5 && ms.all (fun q => Nat.blt q.2.1 149 || Nat.blt 153 q.1))) = true) : mG b s g := by
  have e2 : zqN ms 163 163 0 5 = true ∧ ms.all (fun q => Nat.blt q.2.1 149 || Nat.blt 153 q.1) = true := by
    simp only [Bool.or_eq_true, Bool.and_eq_true] at e
    rcases e with ⟨e1, -, e3⟩ | ⟨e1, e3⟩
    · exact ⟨e1, e3⟩
    · exact ⟨e1, e3⟩
  have q : ∀ r : Int, 149 ≤ r → r ≤ 153 → fld g r = fld h r := by
    intro r k1 k2
    refine funext (fun j => R.2.2.2 _ j (fun f hf hz => ?_))
    have e := List.all_eq_true.mp e2.2 f hf
    rw [Bool.or_eq_true] at e
    rcases e with e | e
    · have := Nat.le_of_ble_eq_true e
      omega
    · have := Nat.le_of_ble_eq_true e
      omega
  intro k hk
  have f : fld g 163 k = fld h 163 k := R.f e2.1 ⟨by decide, by decide⟩ ⟨by omega, by omega⟩
  rw [f, q _ (by omega) (by omega)]
  exact G k hk
/-- a clause more -/
theorem mG.add {c0 : Nat} {h3 : Hp} (G : mG b s h) (O : mO h h1) (hc : fld h 37 47 = (c0 : Int)) (h0 : c0 < 5) (e163 : fld h1 163 = fld h 163) (u1 : s.2.1 ≤ u.2.1) (u2 : ∀ i, i < s.2.1 → u.2.2 i = s.2.2 i) (Q : mQ t n s.2.1 h1 u) (hL : s.2.1 < u.2.1) (e : h2 = wr h1 163 c0 x) (hx : x = fld h1 37 45) (hs : sh h1 163 = some (20, 5)) (r3 : ∀ r : Int, 149 ≤ r → r ≤ 153 → fld h3 r = fld h2 r) (f3 : ∀ k, k < 5 → fld h3 163 k = fld h2 163 k) : mG (zu b c0 s.2.1) (pW (-21) (pA t n u)) h3 := by
  obtain ⟨q1, q2, q3, q4⟩ := Q
  have rr : ∀ r : Int, 149 ≤ r → r ≤ 153 → fld h3 r = fld h1 r := fun r k1 k2 => (r3 r k1 k2).trans (funext fun j => by rw [e]; exact fld_wr (Or.inl (by omega)))
  intro k hk
  show (zu b c0 s.2.1 k = -1 ∧ _) ∨ ∃ B L : Nat, zu b c0 s.2.1 k = (B : Int) ∧ fld h3 163 k = (L : Int) ∧ 0 < L ∧ B + L < u.2.1 + 1 ∧ zu u.2.2 u.2.1 (-21) (B + L) = -21 ∧ ∀ j, j < L → mCd (fld h3 (149 + (k : Int))) j (zu u.2.2 u.2.1 (-21) (B + j))
  by_cases z : k = c0
  · subst z
    right
    refine ⟨s.2.1, u.2.1 - s.2.1, zu_eq, ?_, by omega, by omega, ?_, fun j hj => ?_⟩
    · rw [f3 k hk, e, fld_wr_eq hs hk, hx, q3]
      omega
    · rw [show s.2.1 + (u.2.1 - s.2.1) = u.2.1 by omega, zu_eq]
    · rw [zu_ne (by omega), rr _ (by omega) (by omega)]
      have y := q4 (s.2.1 + j) (by omega) (by omega)
      rw [O.1, hc, show s.2.1 + j - s.2.1 = j by omega] at y
      exact y
  · have f : fld h3 163 k = fld h 163 k := by rw [f3 k hk, e, fld_wr (Or.inr z), e163]
    have r : fld h3 (149 + (k : Int)) = fld h (149 + (k : Int)) := (rr _ (by omega) (by omega)).trans (O.2 _ (by omega) (by omega) (by rw [hc]; omega))
    rw [zu_ne z, f, r]
    rcases G k hk with y | ⟨B, L, y1, y2, y3, y4, y5, y6⟩
    · exact Or.inl y
    · right
      refine ⟨B, L, y1, y2, y3, by omega, ?_, fun j hj => ?_⟩
      · rw [zu_ne (by omega), u2 _ (by omega)]
        exact y5
      · rw [zu_ne (by omega), u2 _ (by omega)]
        exact y6 j hj
/-- a clause reads on, and leaves room -/
theorem pCls_W (W : rW n s) (h : (pCls t n s b).1 = true) : rW n (pCls t n s b).2.1 ∧ s.1 < (pCls t n s b).2.1.1 := by
  by_cases c1 : pCc t n s b
  · have V := W.a (t := t) (by have := c1.1; omega)
    by_cases c2 : (pBo t n s).1 = true
    · by_cases c3 : pK t n (pBo t n s).2.1 = 59
      · rw [pCls_t c1 c2 c3]
        have VB : rV n (pBo t n s).2 := V.fn (pG_cb (t := t) (pV t n s.1 - 13))
        have V2 := VB.wk.a (t := t) (by omega)
        refine ⟨V2.pw, ?_⟩
        have g := pG_cb (t := t) (n := n) (pV t n s.1 - 13) (pA t n s) V.2
        have b1 := pNx_b (t := t) W.2
        have b2 := pNx_b (t := t) VB.2
        have g1 : pNx t n s.1 ≤ (pBo t n s).2.1 := g.1
        have l := pK_lt (t := t) (n := n) (p := s.1) (by have := c1.1; omega)
        show s.1 < pNx t n (pBo t n s).2.1
        omega
      · rw [pCls_s c1 c2 c3] at h
        cases h
    · rw [pCls_f c1 c2] at h
      cases h
  · rw [pCls_no c1] at h
    cases h
/-- what was read -/
def mE (t : pT) (n : Nat) (g : Hp) (r : Bool × pQ × (Nat → Int)) : Prop := (r.1 = true ∧ fld g 37 44 = -1 ∧ mG r.2.2 r.2.1 g) ∨ (¬ r.1 = true ∧ fld g 37 44 = ((r.2.1.1 : Nat) : Int))
theorem mE.fx {c0 : Nat → Int} (E : mE t n g (pRead t n c0)) : fld g 37 44 = pFa t n c0 := by
  rcases E with ⟨e1, e2, -⟩ | ⟨e1, e2⟩
  · rw [pFa_t e1]; exact e2
  · rw [pFa_f e1]; exact e2
def mD (t : pT) (n : Nat) (h : Hp) (T : Bool × pQ × (Nat → Int)) : Prop := ∃ (m : Nat) (q : pQ) (b : Nat → Int), mTk t n h q.1 ∧ mG b q h ∧ rW n q ∧ fld h 37 44 = -1 ∧ n ≤ q.1 + m ∧ T = pRd t n m q b
end CL
