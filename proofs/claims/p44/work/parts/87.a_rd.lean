/-! joined: 87.a_rd 87.b_js 87.c_xr 87.c_xs 87.d_rg 87.e_xg 88.a_rm 88.b_mr -/
section
/-! the class's reader and the pure reading -/
section RD
variable {h g h1 : Hp} {t : pT} {n p q m k i : Nat} {s u : pQ} {x v o1 o2 w : Int} {ms : Zms} {c z : Int} {f : pQ → pR} {T r : pR}
/-- the bytes are t, n of them -/
def rB (t : pT) (n : Nat) (h : Hp) : Prop := fld h 9 0 = (n : Int) ∧ n ≤ 400 ∧ ∀ i : Nat, i < n → (0 ≤ fld h 10 i ∧ fld h 10 i ≤ 255) ∧ t i = i_byt (fld h 10 i)
theorem rB.fr (B : rB t n h) (R : zXR ms c z h g) (e : (zqN ms 9 9 0 1 && zqN ms 10 10 0 400) = true) : rB t n g := by
  rw [Bool.and_eq_true] at e
  obtain ⟨b1, b2, b3⟩ := B
  have q1 : fld g 9 0 = fld h 9 0 := R.f e.1 (by first | decide | exact ⟨by decide, by decide⟩) (by first | decide | exact ⟨by decide, by decide⟩) (by first | decide | exact ⟨by decide, by decide⟩)
  refine ⟨q1.trans b1, b2, fun i hi => ?_⟩
  have q2 : fld g 10 i = fld h 10 i := R.f e.2 (by first | decide | exact ⟨by decide, by decide⟩) (by first | omega | exact ⟨by omega, by omega⟩) (by first | decide | exact ⟨by decide, by decide⟩)
  rw [q2]
  exact b3 i hi
theorem rB.bl (B : rB t n h) (hi : i < n) : (t i = fld h 10 i ∧ fld h 10 i ≤ 127 ∧ 0 ≤ fld h 10 i) ∨ (t i < 0 ∧ 128 ≤ fld h 10 i ∧ fld h 10 i ≤ 255) := by
  obtain ⟨⟨b1, b2⟩, b3⟩ := B.2.2 i hi
  unfold i_byt at b3
  omega
theorem rB.let (B : rB t n h) (hi : i < n) : pLet (t i) = true ↔ 97 ≤ fld h 10 i ∧ fld h 10 i ≤ 122 := by
  have q := B.bl hi
  rw [pLet_t]
  constructor <;> intro z <;> omega
theorem rB.dig (B : rB t n h) (hi : i < n) : pDig (t i) = true ↔ 48 ≤ fld h 10 i ∧ fld h 10 i ≤ 57 := by
  have q := B.bl hi
  rw [pDig_t]
  constructor <;> intro z <;> omega
theorem rB.bla (B : rB t n h) (hi : i < n) : pBla (t i) = true ↔ fld h 10 i = 32 ∨ fld h 10 i = 10 := by
  have q := B.bl hi
  rw [pBla_t]
  constructor <;> intro z <;> omega
theorem pNu_s (t : pT) : ∀ (f p : Nat) (v : Int), pNu t (f + 1) p v = min (pNu t f p v * 10 + t (p + f) - 48) 10000
  | 0, p, v => rfl
  | f + 1, p, v => by
    show pNu t (f + 1) (p + 1) (min (v * 10 + t p - 48) 10000) = _
    rw [pNu_s t f (p + 1) _, show p + 1 + f = p + (f + 1) by omega]
    rfl
/-- the token at p is the one that is looked at -/
def rTok (t : pT) (n : Nat) (h : Hp) (p : Nat) : Prop := fld h 9 3 = (p : Int) ∧ p ≤ n ∧ fld h 9 2 = ((pEn t n p : Nat) : Int) ∧ fld h 9 4 = pK t n p ∧ (pK t n p = 1 ∨ pK t n p = 2 → fld h 9 5 = pV t n p)
theorem rTok.fr (K : rTok t n h p) (R : zXR ms c z h g) (e : zqN ms 9 9 2 6 = true) : rTok t n g p := by
  obtain ⟨k1, k2, k3, k4, k5⟩ := K
  have q2 : fld g 9 2 = fld h 9 2 := R.f e (by first | decide | exact ⟨by decide, by decide⟩) (by first | decide | exact ⟨by decide, by decide⟩) (by first | decide | exact ⟨by decide, by decide⟩)
  have q3 : fld g 9 3 = fld h 9 3 := R.f e (by first | decide | exact ⟨by decide, by decide⟩) (by first | decide | exact ⟨by decide, by decide⟩) (by first | decide | exact ⟨by decide, by decide⟩)
  have q4 : fld g 9 4 = fld h 9 4 := R.f e (by first | decide | exact ⟨by decide, by decide⟩) (by first | decide | exact ⟨by decide, by decide⟩) (by first | decide | exact ⟨by decide, by decide⟩)
  have q5 : fld g 9 5 = fld h 9 5 := R.f e (by first | decide | exact ⟨by decide, by decide⟩) (by first | decide | exact ⟨by decide, by decide⟩) (by first | decide | exact ⟨by decide, by decide⟩)
  exact ⟨q3.trans k1, k2, q2.trans k3, q4.trans k4, fun z => q5.trans (k5 z)⟩
/-- what the reader holds: a token, so many codes, the codes -/
def rQ (t : pT) (n : Nat) (h : Hp) (s : pQ) : Prop := rTok t n h s.1 ∧ fld h 9 6 = ((s.2.1 : Nat) : Int) ∧ fld h 11 = s.2.2
theorem rQ.kd (Q : rQ t n h s) : fld h 9 4 = pK t n s.1 := Q.1.2.2.2.1
theorem rQ.vl (Q : rQ t n h s) (k : pK t n s.1 = 1 ∨ pK t n s.1 = 2) : fld h 9 5 = pV t n s.1 := Q.1.2.2.2.2 k
theorem rQ.wt (Q : rQ t n h s) (R : zXR ms c z h g) (e : zqN ms 9 9 2 6 = true) (hk : fld g 11 = zu (fld h 11) k x) (e1 : (k : Int) = fld h 9 6) (e2 : fld g 9 6 = fld h 9 6 + 1) : rQ t n g (pW x s) := by
  obtain ⟨q1, q2, q3⟩ := Q
  refine ⟨q1.fr R e, ?_, ?_⟩
  · show fld g 9 6 = ((s.2.1 + 1 : Nat) : Int)
    omega
  · show fld g 11 = zu s.2.2 s.2.1 x
    rw [hk, q3, show k = s.2.1 by omega]
/-- there is room for what is written -/
def rW (n : Nat) (s : pQ) : Prop := s.2.1 ≤ s.1 ∧ s.1 ≤ n
def rV (n : Nat) (s : pQ) : Prop := s.2.1 < s.1 ∧ s.1 ≤ n
theorem rV.wk (V : rV n s) : rW n s := ⟨Nat.le_of_lt V.1, V.2⟩
theorem rV.pw (V : rV n s) : rW n (pW x s) := ⟨V.1, V.2⟩
theorem rV.lt (V : rV n s) (B : rB t n h) (Q : rQ t n h s) : fld h 9 6 < 400 := by
  have a := B.2.1
  have b := Q.2.1
  obtain ⟨v1, v2⟩ := V
  omega
theorem rW.lt (W : rW n s) (B : rB t n h) (Q : rQ t n h s) (k : pK t n s.1 ≠ 0) : fld h 9 6 < 400 := by
  have a := B.2.1
  have b := Q.2.1
  have d := pK_lt k
  obtain ⟨v1, v2⟩ := W
  omega
theorem rW.a (W : rW n s) (k : pK t n s.1 ≠ 0) : rV n (pA t n s) := by
  obtain ⟨v1, v2⟩ := W
  have d := pK_lt k
  have b := pNx_b (t := t) v2
  exact ⟨show s.2.1 < pNx t n s.1 by omega, b.2.1⟩
theorem rW.fn (W : rW n s) (H : pG n f) : rW n (f s).2 := by
  obtain ⟨v1, v2⟩ := W
  have b := H s v2
  exact ⟨by omega, b.2.1⟩
theorem rV.fn (V : rV n s) (H : pG n f) : rV n (f s).2 := by
  obtain ⟨v1, v2⟩ := V
  have b := H s v2
  exact ⟨by omega, b.2.1⟩
/-- an answer and what it leaves -/
def rR (t : pT) (n : Nat) (g : Hp) (x : Int) (r : pR) : Prop := rQ t n g r.2 ∧ ((x = 1 ∧ r.1 = true) ∨ (x = 0 ∧ r.1 = false))
theorem rR_t (Q : rQ t n g s) : rR t n g 1 (true, s) := ⟨Q, Or.inl ⟨rfl, rfl⟩⟩
theorem rR_f (Q : rQ t n g s) : rR t n g 0 (false, s) := ⟨Q, Or.inr ⟨rfl, rfl⟩⟩
theorem rR.ze (R : rR t n g x r) (e : x = 0) : rR t n g 0 r := e ▸ R
theorem rR.b1 (R : rR t n g x r) (e : x ≠ 0) : r.1 = true := by
  rcases R.2 with ⟨_, z⟩ | ⟨z, _⟩
  · exact z
  · exact absurd z e
theorem rR.b0 (R : rR t n g x r) (e : x = 0) : ¬ (r.1 = true) := by
  rcases R.2 with ⟨z, _⟩ | ⟨_, z⟩
  · omega
  · rw [z]; exact Bool.false_ne_true
/-! the ways through a part of the grammar -/
variable {o : Bool} {sub hol eit sum : pQ → pR}
theorem pFac_num (h1 : pK t n s.1 = 2) (h2 : pV t n s.1 ≤ 9999) : pFac t n o sub s = (true, pA t n (pW (pV t n s.1) s)) := by
  unfold pFac
  rw [if_pos ⟨h1, h2⟩]
theorem pFac_wd (h1 : pK t n s.1 = 1) (h2 : 0 ≤ pV t n s.1 ∧ pV t n s.1 ≤ 12) : pFac t n o sub s = (true, pA t n (pW (-1 - pV t n s.1) s)) := by
  unfold pFac
  rw [if_neg (by omega), if_pos ⟨h1, h2.1, h2.2⟩]
theorem pFac_par (h0 : o = true) (h1 : pK t n s.1 = 40) (h2 : (sub (pA t n s)).1 = true) (h3 : pK t n (sub (pA t n s)).2.1 = 41) : pFac t n o sub s = (true, pA t n (sub (pA t n s)).2) := by
  unfold pFac
  rw [if_neg (by omega), if_neg (by omega), if_pos ⟨h0, h1⟩, if_pos h2, if_pos h3]
theorem pFac_pn (h0 : o = true) (h1 : pK t n s.1 = 40) (h2 : (sub (pA t n s)).1 = true) (h3 : pK t n (sub (pA t n s)).2.1 ≠ 41) : pFac t n o sub s = (false, (sub (pA t n s)).2) := by
  unfold pFac
  rw [if_neg (by omega), if_neg (by omega), if_pos ⟨h0, h1⟩, if_pos h2, if_neg h3]
theorem pFac_pf (h0 : o = true) (h1 : pK t n s.1 = 40) (h2 : ¬ (sub (pA t n s)).1 = true) : pFac t n o sub s = sub (pA t n s) := by
  unfold pFac
  rw [if_neg (by omega), if_neg (by omega), if_pos ⟨h0, h1⟩, if_neg h2]
theorem pFac_no (h1 : ¬ (pK t n s.1 = 2 ∧ pV t n s.1 ≤ 9999)) (h2 : ¬ (pK t n s.1 = 1 ∧ 0 ≤ pV t n s.1 ∧ pV t n s.1 ≤ 12)) (h3 : ¬ (o = true ∧ pK t n s.1 = 40)) : pFac t n o sub s = (false, s) := by
  unfold pFac
  rw [if_neg h1, if_neg h2, if_neg h3]
theorem pHol_n1 (h1 : pK t n s.1 = 1) (h2 : pV t n s.1 = 20) (h0 : o = true) (h3 : (hol (pA t n s)).1 = true) : pHol t n o hol eit sum s = (true, pW (-20) (hol (pA t n s)).2) := by
  unfold pHol
  rw [if_pos ⟨h1, h2⟩, if_pos h0, if_pos h3]
theorem pHol_n0 (h1 : pK t n s.1 = 1) (h2 : pV t n s.1 = 20) (h0 : o = true) (h3 : ¬ (hol (pA t n s)).1 = true) : pHol t n o hol eit sum s = hol (pA t n s) := by
  unfold pHol
  rw [if_pos ⟨h1, h2⟩, if_pos h0, if_neg h3]
theorem pHol_nd (h1 : pK t n s.1 = 1) (h2 : pV t n s.1 = 20) (h0 : ¬ o = true) : pHol t n o hol eit sum s = (false, s) := by
  unfold pHol
  rw [if_pos ⟨h1, h2⟩, if_neg h0]
theorem pHol_b1 (h1 : pK t n s.1 = 91) (h0 : o = true) (h3 : (eit (pA t n s)).1 = true) (h4 : pK t n (eit (pA t n s)).2.1 = 93) : pHol t n o hol eit sum s = (true, pA t n (eit (pA t n s)).2) := by
  unfold pHol
  rw [if_neg (by omega), if_pos h1, if_pos h0, if_pos h3, if_pos h4]
theorem pHol_bn (h1 : pK t n s.1 = 91) (h0 : o = true) (h3 : (eit (pA t n s)).1 = true) (h4 : pK t n (eit (pA t n s)).2.1 ≠ 93) : pHol t n o hol eit sum s = (false, (eit (pA t n s)).2) := by
  unfold pHol
  rw [if_neg (by omega), if_pos h1, if_pos h0, if_pos h3, if_neg h4]
theorem pHol_b0 (h1 : pK t n s.1 = 91) (h0 : o = true) (h3 : ¬ (eit (pA t n s)).1 = true) : pHol t n o hol eit sum s = eit (pA t n s) := by
  unfold pHol
  rw [if_neg (by omega), if_pos h1, if_pos h0, if_neg h3]
theorem pHol_bd (h1 : pK t n s.1 = 91) (h0 : ¬ o = true) : pHol t n o hol eit sum s = (false, s) := by
  unfold pHol
  rw [if_neg (by omega), if_pos h1, if_neg h0]
theorem pHol_s0 (h1 : ¬ (pK t n s.1 = 1 ∧ pV t n s.1 = 20)) (h2 : pK t n s.1 ≠ 91) (h3 : ¬ (sum s).1 = true) : pHol t n o hol eit sum s = sum s := by
  unfold pHol
  rw [if_neg h1, if_neg h2, if_neg h3]
theorem pHol_sn (h1 : ¬ (pK t n s.1 = 1 ∧ pV t n s.1 = 20)) (h2 : pK t n s.1 ≠ 91) (h3 : (sum s).1 = true) (h4 : ¬ (pK t n (sum s).2.1 = 60 ∨ pK t n (sum s).2.1 = 62 ∨ pK t n (sum s).2.1 = 61)) : pHol t n o hol eit sum s = (false, (sum s).2) := by
  unfold pHol
  rw [if_neg h1, if_neg h2, if_pos h3, if_neg h4]
theorem pHol_s1 (h1 : ¬ (pK t n s.1 = 1 ∧ pV t n s.1 = 20)) (h2 : pK t n s.1 ≠ 91) (h3 : (sum s).1 = true) (h4 : pK t n (sum s).2.1 = 60 ∨ pK t n (sum s).2.1 = 62 ∨ pK t n (sum s).2.1 = 61) (h5 : (sum (pA t n (sum s).2)).1 = true) : pHol t n o hol eit sum s = (true, pW (-(pK t n (sum s).2.1)) (sum (pA t n (sum s).2)).2) := by
  unfold pHol
  rw [if_neg h1, if_neg h2, if_pos h3, if_pos h4, if_pos h5]
theorem pHol_s2 (h1 : ¬ (pK t n s.1 = 1 ∧ pV t n s.1 = 20)) (h2 : pK t n s.1 ≠ 91) (h3 : (sum s).1 = true) (h4 : pK t n (sum s).2.1 = 60 ∨ pK t n (sum s).2.1 = 62 ∨ pK t n (sum s).2.1 = 61) (h5 : ¬ (sum (pA t n (sum s).2)).1 = true) : pHol t n o hol eit sum s = sum (pA t n (sum s).2) := by
  unfold pHol
  rw [if_neg h1, if_neg h2, if_pos h3, if_pos h4, if_neg h5]
/-! loops -/
def rL (t : pT) (n : Nat) (h : Hp) (x : Int) (m : Nat) (F : Nat → pQ → pR) (T : pR) : Prop := ∃ q : pQ, rQ t n h q ∧ rW n q ∧ ((x = 1 ∧ T = F m q) ∨ (x = 0 ∧ T = (false, q)))
theorem pR_f {r : pR} (h : r.1 = false) : r = (false, r.2) := by rw [← h]
theorem rL_0 {F : Nat → pQ → pR} (R : rR t n g x (f s)) (W : rW n (f s).2) : rL t n g x m F (if (f s).1 = true then F m (f s).2 else f s) := by
  refine ⟨(f s).2, R.1, W, ?_⟩
  rcases R.2 with ⟨a, b⟩ | ⟨a, b⟩
  · exact Or.inl ⟨a, if_pos b⟩
  · refine Or.inr ⟨a, ?_⟩
    rw [b, if_neg (by decide)]
    exact pR_f b
theorem rL_t {F : Nat → pQ → pR} (Q : rQ t n g s) (W : rW n s) (e : T = F m s) : rL t n g 1 m F T := ⟨s, Q, W, Or.inl ⟨rfl, e⟩⟩
theorem rL_f {F : Nat → pQ → pR} (Q : rQ t n g s) (W : rW n s) (e : T = (false, s)) : rL t n g 0 m F T := ⟨s, Q, W, Or.inr ⟨rfl, e⟩⟩
theorem rL_x {F : Nat → pQ → pR} (Q : rQ t n h s) (O : (x = 1 ∧ T = F m s) ∨ (x = 0 ∧ T = (false, s))) (e : x = 0 ∨ F m s = (true, s)) : rR t n h x T := by
  rcases O with ⟨a, b⟩ | ⟨a, b⟩
  · rcases e with e | e
    · omega
    · rw [b, e, a]
      exact rR_t Q
  · rw [b, a]
    exact rR_f Q
theorem pLp_z (e : m = 0 ∨ ¬ (pK t n s.1 = o1 ∨ pK t n s.1 = o2)) : pLp t n o1 o2 f m s = (true, s) := by
  cases m with
  | zero => rfl
  | succ m =>
    unfold pLp
    rw [if_neg (by omega)]
theorem pLp_n (e : m = k + 1) (h1 : pK t n s.1 = o1 ∨ pK t n s.1 = o2) (h2 : (f (pA t n s)).1 = true) (hv : v = pK t n s.1) : pLp t n o1 o2 f m s = pLp t n o1 o2 f k (pW (-v) (f (pA t n s)).2) := by
  subst e hv
  show (if _ then _ else _) = _
  rw [if_pos h1, if_pos h2]
theorem pLp_f (e : m = k + 1) (h1 : pK t n s.1 = o1 ∨ pK t n s.1 = o2) (h2 : ¬ (f (pA t n s)).1 = true) : pLp t n o1 o2 f m s = (false, (f (pA t n s)).2) := by
  subst e
  show (if _ then _ else _) = _
  rw [if_pos h1, if_neg h2]
  exact pR_f (by revert h2; cases (f (pA t n s)).1 <;> simp)
theorem pLw_z (e : m = 0 ∨ ¬ (pK t n s.1 = 1 ∧ pV t n s.1 = w)) : pLw t n w f m s = (true, s) := by
  cases m with
  | zero => rfl
  | succ m =>
    unfold pLw
    rw [if_neg (by omega)]
theorem pLw_n (e : m = k + 1) (h1 : pK t n s.1 = 1 ∧ pV t n s.1 = w) (h2 : (f (pA t n s)).1 = true) : pLw t n w f m s = pLw t n w f k (pW (-w) (f (pA t n s)).2) := by
  subst e
  show (if _ then _ else _) = _
  rw [if_pos h1, if_pos h2]
theorem pLw_f (e : m = k + 1) (h1 : pK t n s.1 = 1 ∧ pV t n s.1 = w) (h2 : ¬ (f (pA t n s)).1 = true) : pLw t n w f m s = (false, (f (pA t n s)).2) := by
  subst e
  show (if _ then _ else _) = _
  rw [if_pos h1, if_neg h2]
  exact pR_f (by revert h2; cases (f (pA t n s)).1 <;> simp)
theorem x_one {T : pR} {F : Nat → pQ → pR} (O : (x = 1 ∧ T = F m s) ∨ (x = 0 ∧ T = (false, s))) (e : x ≠ 0) : T = F m s := by
  rcases O with ⟨_, b⟩ | ⟨a, _⟩
  · exact b
  · exact absurd a e
/-- a part of the grammar, by its depth -/
def msxA9 : Zms := [(9, 9, 2, 6)]
def rX (sc : List Int) (D y : Nat) (a : Int) (F : pT → Nat → pQ → pR) : Prop := ∀ h : Hp, CI h → ∀ (t : pT) (n : Nat) (s : pQ), rB t n h → rQ t n h s → rW n s → zwC sc D y [(2, 9), (0, a)] h (zwRt 0 (fun x g => CI g ∧ zXR msxK (0) (0) h g ∧ (0 ≤ x ∧ x ≤ 1) ∧ rR t n g x (F t n s)))
theorem rX.up {sc : List Int} {D D' y : Nat} {a : Int} {F : pT → Nat → pQ → pR} (hD : D ≤ D') (H : rX sc D y a F) : rX sc D' y a F := fun h C t n s B Q W => zwC_up hD (H h C t n s B Q W)
/-! words -/
theorem rWd_len : (zby (-10)).length = 114 := by decide +kernel
/-- how many words end ahead of k, and where the word at k begins -/
def rNo (k : Nat) : Nat := ((zby (-10)).take k).count 32
def rSt (k : Nat) : Nat := ((List.range k).filter (fun j => (zby (-10)).getD j 0 == 32)).foldl (fun _ j => j + 1) 0
def rWs (k : Nat) : List Int := pWs.getD (rNo k) []
theorem rWd_ok : (List.range 114).all (fun k => ((zby (-10)).getD k 0 == 32) == (decide (k = rSt k + (rWs k).length)) && (decide (rSt k ≤ k) && (decide (rNo k < 21) && (decide (rNo (k + 1) = rNo k + (if (zby (-10)).getD k 0 = 32 then 1 else 0)) && (decide (rSt (k + 1) = (if (zby (-10)).getD k 0 = 32 then k + 1 else rSt k)) && (decide (k ≤ rSt k + (rWs k).length) && (List.range (rWs k).length).all (fun j => (zby (-10)).getD (rSt k + j) 0 == (rWs k).getD j 0 && (decide (97 ≤ (rWs k).getD j 0) && (decide ((rWs k).getD j 0 ≤ 122) && decide (rSt k + j < 114)))))))))) = true := by decide +kernel
theorem rWd_end : rNo 114 = 21 ∧ rSt 114 = 114 ∧ rNo 0 = 0 ∧ rSt 0 = 0 ∧ pWs.length = 21 := by decide +kernel
theorem rWd_at (hk : k < 114) : ((zby (-10)).getD k 0 = 32 ↔ k = rSt k + (rWs k).length) ∧ rSt k ≤ k ∧ rNo k < 21 ∧ rNo (k + 1) = rNo k + (if (zby (-10)).getD k 0 = 32 then 1 else 0) ∧ rSt (k + 1) = (if (zby (-10)).getD k 0 = 32 then k + 1 else rSt k) ∧ k ≤ rSt k + (rWs k).length ∧ ∀ j, j < (rWs k).length → (zby (-10)).getD (rSt k + j) 0 = (rWs k).getD j 0 ∧ 97 ≤ (rWs k).getD j 0 ∧ (rWs k).getD j 0 ≤ 122 ∧ rSt k + j < 114 := by
  have q := List.all_eq_true.mp rWd_ok k (List.mem_range.mpr hk)
  simp only [Bool.and_eq_true, decide_eq_true_eq] at q
  obtain ⟨q1, q2, q3, q4, q5, q6, q7⟩ := q
  refine ⟨?_, q2, q3, q4, q5, q6, fun j hj => ?_⟩
  · have q1 := eq_of_beq q1
    constructor
    · intro z
      rw [beq_iff_eq.mpr z] at q1
      exact of_decide_eq_true q1.symm
    · intro z
      rw [decide_eq_true z] at q1
      exact beq_iff_eq.mp q1
  · have w := List.all_eq_true.mp q7 j (List.mem_range.mpr hj)
    simp only [Bool.and_eq_true, decide_eq_true_eq, beq_iff_eq] at w
    exact w
/-- a word stands there -/
def rSp (h : Hp) (n : Nat) (a b c : Int) : Prop := ∀ j : Nat, (j : Int) < c → a + j < 114 ∧ b + j < n ∧ (zby (-10)).getD (a + j).toNat 0 = fld h 10 (b + j).toNat
theorem pEq_iff (t : pT) : ∀ (w : List Int) (p : Nat), pEq t p w = true ↔ ∀ j, j < w.length → t (p + j) = w.getD j 0
  | [], p => ⟨fun _ j hj => absurd hj (Nat.not_lt_zero _), fun _ => rfl⟩
  | a :: r, p => by
    show (decide (t p = a) && pEq t (p + 1) r) = true ↔ _
    rw [Bool.and_eq_true, decide_eq_true_eq, pEq_iff t r (p + 1)]
    constructor
    · rintro ⟨h1, h2⟩ j hj
      cases j with
      | zero => exact h1
      | succ j =>
        have := h2 j (by simpa using hj)
        rw [show p + (j + 1) = p + 1 + j by omega]
        exact this
    · intro H
      refine ⟨H 0 (by simp), fun j hj => ?_⟩
      have := H (j + 1) (by simpa using hj)
      rw [show p + 1 + j = p + (j + 1) by omega]
      exact this
theorem rSp_eq (B : rB t n h) {l : Int} (hk : k < 114) (hl : ((rWs k).length : Int) = l) (hp : (p : Int) + l ≤ n) : rSp h n (rSt k : Nat) (p : Nat) l ↔ pEq t p (rWs k) = true := by
  obtain ⟨-, -, -, -, -, -, w⟩ := rWd_at hk
  rw [pEq_iff]
  constructor
  · intro H j hj
    obtain ⟨a1, a2, a3⟩ := H j (by omega)
    obtain ⟨b1, b2, b3, b4⟩ := w j hj
    rw [show ((rSt k : Nat) : Int) + (j : Int) = ((rSt k + j : Nat) : Int) by omega, show ((p : Nat) : Int) + (j : Int) = ((p + j : Nat) : Int) by omega, Int.toNat_natCast, Int.toNat_natCast, b1] at a3
    have q := B.bl (i := p + j) (by omega)
    omega
  · intro H j hj
    obtain ⟨b1, b2, b3, b4⟩ := w j (by omega)
    have e := H j (by omega)
    have q := B.bl (i := p + j) (by omega)
    refine ⟨by omega, by omega, ?_⟩
    rw [show ((rSt k : Nat) : Int) + (j : Int) = ((rSt k + j : Nat) : Int) by omega, show ((p : Nat) : Int) + (j : Int) = ((p + j : Nat) : Int) by omega, Int.toNat_natCast, Int.toNat_natCast, b1]
    omega
theorem pFd_drop (t : pT) (p l : Nat) (h : k < pWs.length) : pFd t p l (pWs.drop k) k = if (pWs.getD k []).length = l ∧ pEq t p (pWs.getD k []) = true then (k : Int) else pFd t p l (pWs.drop (k + 1)) (k + 1) := by
  rw [List.drop_eq_getElem_cons h]
  show (if _ then _ else _) = _
  rw [List.getD_eq_getElem?_getD, List.getElem?_eq_getElem h]
  rfl
/-! signs -/
theorem rSg_ok : zby (-11) = [43, 45, 42, 47, 40, 41, 91, 93, 60, 62, 61, 59] := by decide +kernel
theorem rSg (c : Int) : pSig c = true ↔ ∃ i : Nat, i < (zby (-11)).length ∧ (zby (-11)).getD i 0 = c := by
  rw [pSig_t, rSg_ok]
  constructor
  · intro z
    rcases z with z | z | z | z | z | z | z | z | z | z | z | z
    · exact ⟨0, by decide, z.symm⟩
    · exact ⟨1, by decide, z.symm⟩
    · exact ⟨2, by decide, z.symm⟩
    · exact ⟨3, by decide, z.symm⟩
    · exact ⟨4, by decide, z.symm⟩
    · exact ⟨5, by decide, z.symm⟩
    · exact ⟨6, by decide, z.symm⟩
    · exact ⟨7, by decide, z.symm⟩
    · exact ⟨8, by decide, z.symm⟩
    · exact ⟨9, by decide, z.symm⟩
    · exact ⟨10, by decide, z.symm⟩
    · exact ⟨11, by decide, z.symm⟩
  · rintro ⟨i, hi, e⟩
    have hi : i < 12 := hi
    have q : i = 0 ∨ i = 1 ∨ i = 2 ∨ i = 3 ∨ i = 4 ∨ i = 5 ∨ i = 6 ∨ i = 7 ∨ i = 8 ∨ i = 9 ∨ i = 10 ∨ i = 11 := by omega
    rcases q with rfl | rfl | rfl | rfl | rfl | rfl | rfl | rfl | rfl | rfl | rfl | rfl
    · exact Or.inl e.symm
    · exact Or.inr (Or.inl e.symm)
    · exact Or.inr (Or.inr (Or.inl e.symm))
    · exact Or.inr (Or.inr (Or.inr (Or.inl e.symm)))
    · exact Or.inr (Or.inr (Or.inr (Or.inr (Or.inl e.symm))))
    · exact Or.inr (Or.inr (Or.inr (Or.inr (Or.inr (Or.inl e.symm)))))
    · exact Or.inr (Or.inr (Or.inr (Or.inr (Or.inr (Or.inr (Or.inl e.symm))))))
    · exact Or.inr (Or.inr (Or.inr (Or.inr (Or.inr (Or.inr (Or.inr (Or.inl e.symm)))))))
    · exact Or.inr (Or.inr (Or.inr (Or.inr (Or.inr (Or.inr (Or.inr (Or.inr (Or.inl e.symm))))))))
    · exact Or.inr (Or.inr (Or.inr (Or.inr (Or.inr (Or.inr (Or.inr (Or.inr (Or.inr (Or.inl e.symm)))))))))
    · exact Or.inr (Or.inr (Or.inr (Or.inr (Or.inr (Or.inr (Or.inr (Or.inr (Or.inr (Or.inr (Or.inl e.symm))))))))))
    · exact Or.inr (Or.inr (Or.inr (Or.inr (Or.inr (Or.inr (Or.inr (Or.inr (Or.inr (Or.inr (Or.inr e.symm))))))))))
end RD
section RD2
variable {h : Hp} {t : pT} {n p l k : Nat}
theorem rFd (t : pT) (p l : Nat) (hk : k < 114) : pFd t p l (pWs.drop (rNo k)) (rNo k) = if (rWs k).length = l ∧ pEq t p (rWs k) = true then ((rNo k : Nat) : Int) else pFd t p l (pWs.drop (rNo k + 1)) (rNo k + 1) :=
  pFd_drop t p l (by have := (rWd_at hk).2.2.1; have q : pWs.length = 21 := rfl; omega)
theorem rTok_e (h1 : fld h 9 3 = (p : Int)) (h2 : p = n) (h3 : fld h 9 2 = (p : Int)) (h4 : fld h 9 4 = 0) : rTok t n h p := by
  have e : pK t n p = 0 := pK_0.mpr (by omega)
  refine ⟨h1, by omega, ?_, h4.trans e.symm, fun z => by omega⟩
  unfold pEn
  rw [if_neg (by omega)]
  exact h3
theorem rTok_w (h1 : fld h 9 3 = (p : Int)) (h2 : p < n) (hl : pLet (t p) = true) (h3 : fld h 9 2 = ((pRun pLet t n p : Nat) : Int)) (h4 : fld h 9 4 = 1) (h5 : fld h 9 5 = pFd t p (pRun pLet t n p - p) pWs 0) : rTok t n h p := by
  have e : pEn t n p = pRun pLet t n p := by unfold pEn; rw [if_pos h2, if_pos hl]
  refine ⟨h1, by omega, by rw [e]; exact h3, ?_, fun _ => ?_⟩
  · unfold pK
    rw [if_pos h2, if_pos hl]
    exact h4
  · unfold pV pWd
    rw [if_pos hl, e]
    exact h5
theorem rTok_d (h1 : fld h 9 3 = (p : Int)) (h2 : p < n) (hl : ¬ pLet (t p) = true) (hd : pDig (t p) = true) (h3 : fld h 9 2 = ((pRun pDig t n p : Nat) : Int)) (h4 : fld h 9 4 = 2) (h5 : fld h 9 5 = pNu t (pRun pDig t n p - p) p 0) : rTok t n h p := by
  have e : pEn t n p = pRun pDig t n p := by unfold pEn; rw [if_pos h2, if_neg hl, if_pos hd]
  refine ⟨h1, by omega, by rw [e]; exact h3, ?_, fun _ => ?_⟩
  · unfold pK
    rw [if_pos h2, if_neg hl, if_pos hd]
    exact h4
  · unfold pV pVl
    rw [if_neg hl, e]
    exact h5
theorem rTok_s (h1 : fld h 9 3 = (p : Int)) (h2 : p < n) (hl : ¬ pLet (t p) = true) (hd : ¬ pDig (t p) = true) (h3 : fld h 9 2 = (p : Int) + 1) (h4 : fld h 9 4 = (if pSig (t p) = true then t p else 3)) : rTok t n h p := by
  have e : pEn t n p = p + 1 := by unfold pEn; rw [if_pos h2, if_neg hl, if_neg hd]
  have k : pK t n p = (if pSig (t p) = true then t p else 3) := by unfold pK; rw [if_pos h2, if_neg hl, if_neg hd]
  refine ⟨h1, by omega, by rw [e]; omega, h4.trans k.symm, fun z => ?_⟩
  exfalso
  rw [k] at z
  by_cases q : pSig (t p) = true
  · rw [if_pos q] at z
    have := pSig_t.mp q
    omega
  · rw [if_neg q] at z
    omega
end RD2
end
section
/-! contracts of methods -/
-- java/lang/StringLatin1.indexOfChar([BIII)I
theorem m290_p {sc : List Int} (h : Hp) (w a b c : Int) (q_a : -2147483648 ≤ a ∧ a ≤ 2147483647) (hw : -33 < w ∧ w ≤ -10) (p1 : 0 ≤ b ∧ b ≤ 200) (p2 : c ≤ (zby w).length ∧ -1 ≤ c ∧ c ≤ 200) : zwC sc 1 290 [(2, (w - 90)), (0, a), (0, b), (0, c)] h (zwRt 0 (fun x g => h = g ∧ (-2147483648 ≤ x ∧ x ≤ 2147483647) ∧ (-1 ≤ x ∧ x ≤ 200) ∧ ((x = -1 ∧ ∀ j : Nat, b ≤ (j : Int) → (j : Int) < c → (zby w).getD j 0 ≠ i_byt a) ∨ (0 ≤ x ∧ x < c ∧ (zby w).getD x.toNat 0 = i_byt a)))) := by
  refine zwC_of (D := 0) 6 (by decide +kernel) rfl (ls := [(2, (w - 90)), (0, a), (0, b), (0, c), (9, 0), (9, 0)]) rfl ?_
  refine zwW_p [(1, 1, 0)] (q := 1) (ls' := [(2, (w - 90)), (0, a), (0, b), (0, c), (9, 0), (9, 0)]) (st' := [(0, a)]) (by decide +kernel) rfl ?_
  refine zwW_i2b (nx := 2) (by decide +kernel) ?_
  refine zwW_p [(2, 4, 0), (1, 2, 0), (2, 5, 0)] (q := 7) (ls' := [(2, (w - 90)), (0, a), (0, b), (0, c), (0, (i_byt a)), (0, b)]) (st' := []) (by decide +kernel) rfl ?_
  have L1 : ∀ (n0 : Nat) (iL1 : Int), n0 = ((1000 - iL1)).toNat → (0 ≤ iL1 ∧ iL1 ≤ 200) → (∀ j : Nat, b ≤ (j : Int) → (j : Int) < iL1 → (zby w).getD j 0 ≠ i_byt a) → zwW sc (0) 290 7 [(2, (w - 90)), (0, a), (0, b), (0, c), (0, (i_byt a)), (0, iL1)] [] h (zwRt 0 (fun x g => h = g ∧ (-2147483648 ≤ x ∧ x ≤ 2147483647) ∧ (-1 ≤ x ∧ x ≤ 200) ∧ ((x = -1 ∧ ∀ j : Nat, b ≤ (j : Int) → (j : Int) < c → (zby w).getD j 0 ≠ i_byt a) ∨ (0 ≤ x ∧ x < c ∧ (zby w).getD x.toNat 0 = i_byt a)))) := by
    intro n0
    induction n0 using Nat.strongRecOn with
    | ind n0 IHL1 =>
      intro iL1 hnL1 iL1_0 iL1_1
      refine zwW_p [(1, 5, 0), (1, 3, 0)] (q := 10) (ls' := [(2, (w - 90)), (0, a), (0, b), (0, c), (0, (i_byt a)), (0, iL1)]) (st' := [(0, c), (0, iL1)]) (by decide +kernel) rfl ?_
      refine zwic_ge (q := 31) (nx := 13) (by decide +kernel) (fun c2 => ?_) (fun c2 => ?_)
      · refine zwW_p [(0, -1, 0)] (q := 32) (ls' := [(2, (w - 90)), (0, a), (0, b), (0, c), (0, (i_byt a)), (0, iL1)]) (st' := [(0, -1)]) (by decide +kernel) rfl ?_
        refine zwW_ret (nx := 33) (a := 0) (b := 0) (by decide +kernel) rfl (Or.inl rfl) ?_
        exact ⟨rfl, by omega, by omega, by first | exact Or.inr ⟨by omega, by omega, by omega⟩ | exact Or.inl ⟨rfl, fun j j1 j2 => iL1_1 j j1 (by omega)⟩⟩
      · refine zwW_p [(1, 0, 2), (1, 5, 0)] (q := 16) (ls' := [(2, (w - 90)), (0, a), (0, b), (0, c), (0, (i_byt a)), (0, iL1)]) (st' := [(0, iL1), (2, (w - 90))]) (by decide +kernel) rfl ?_
        refine zwW_tld (w := w) (nx := 17) (by decide +kernel) rfl (by first | omega | exact ⟨by omega, by omega⟩) (by first | omega | exact ⟨by omega, by omega⟩) ?_
        have B16 := zby_at (w := w) (by first | omega | exact ⟨by omega, by omega⟩) (i := iL1.toNat) (by omega)
        refine zwW_p [(1, 4, 0)] (q := 19) (ls' := [(2, (w - 90)), (0, a), (0, b), (0, c), (0, (i_byt a)), (0, iL1)]) (st' := [(0, (i_byt a)), (0, ((zby w).getD iL1.toNat 0))]) (by decide +kernel) rfl ?_
        refine zwic_ne (q := 25) (nx := 22) (by decide +kernel) (fun c3 => ?_) (fun c3 => ?_)
        · refine zwW_inc (i := 5) (c := 1) (x := iL1) (nx := 28) (by decide +kernel) rfl (by first | omega | exact ⟨by omega, by omega⟩) (ls' := [(2, (w - 90)), (0, a), (0, b), (0, c), (0, (i_byt a)), (0, (iL1 + 1))]) rfl ?_
          refine zwW_p [(24, 7, 0)] (q := 7) (ls' := [(2, (w - 90)), (0, a), (0, b), (0, c), (0, (i_byt a)), (0, (iL1 + 1))]) (st' := []) (by decide +kernel) rfl ?_
          exact IHL1 ((1000 - (iL1 + 1))).toNat (by omega) (iL1 + 1) rfl (by omega) (fun j j1 j2 => by by_cases z : (j : Int) < iL1; exact iL1_1 j j1 z; (rw [show j = (iL1).toNat by omega]; omega))
        · refine zwW_p [(1, 5, 0)] (q := 24) (ls' := [(2, (w - 90)), (0, a), (0, b), (0, c), (0, (i_byt a)), (0, iL1)]) (st' := [(0, iL1)]) (by decide +kernel) rfl ?_
          refine zwW_ret (nx := 25) (a := 0) (b := 0) (by decide +kernel) rfl (Or.inl rfl) ?_
          exact ⟨rfl, by omega, by omega, by first | exact Or.inr ⟨by omega, by omega, by omega⟩ | exact Or.inl ⟨rfl, fun j j1 j2 => iL1_1 j j1 (by omega)⟩⟩
  exact L1 _ b rfl (by omega) (fun j j1 j2 => by omega)
-- java/lang/StringLatin1.indexOf([BIII)I
theorem m278_p {sc : List Int} (h : Hp) (w a b c : Int) (q_a : -2147483648 ≤ a ∧ a ≤ 2147483647) (hw : -33 < w ∧ w ≤ -10) (p1 : 0 ≤ b ∧ b ≤ 200) (p2 : c = (zby w).length ∧ c ≤ 200) (p3 : b = 0) (p4 : 0 ≤ a ∧ a ≤ 255) : zwC sc 2 278 [(2, (w - 90)), (0, a), (0, b), (0, c)] h (zwRt 0 (fun x g => h = g ∧ (-2147483648 ≤ x ∧ x ≤ 2147483647) ∧ (-1 ≤ x ∧ x ≤ 200) ∧ ((x = -1 ∧ ∀ j : Nat, (j : Int) < ((zby w).length : Int) → (zby w).getD j 0 ≠ i_byt a) ∨ (0 ≤ x ∧ x < ((zby w).length : Int) ∧ (zby w).getD x.toNat 0 = i_byt a)))) := by
  refine zwC_of (D := 1) 4 (by decide +kernel) rfl (ls := [(2, (w - 90)), (0, a), (0, b), (0, c)]) rfl ?_
  refine zwW_p [(1, 1, 0)] (q := 1) (ls' := [(2, (w - 90)), (0, a), (0, b), (0, c)]) (st' := [(0, a)]) (by decide +kernel) rfl ?_
  refine zwW_cs (k' := 289) (n := 1) (nx := 4) (as := [(0, a)]) (st' := []) (by decide +kernel) rfl (m289 h a (by omega)) rfl ?_
  rintro x _ ⟨rfl, ⟨rfl, c1⟩ | ⟨rfl, c1⟩⟩
  · refine zwif_ne (q := 9) (nx := 7) (by decide +kernel) (fun c2 => ?_) (fun c2 => ?_)
    · refine zwW_p [(1, 2, 0), (0, 0, 0)] (q := 11) (ls' := [(2, (w - 90)), (0, a), (0, b), (0, c)]) (st' := [(0, 0), (0, b)]) (by decide +kernel) rfl ?_
      refine zwW_max (nx := 14) (by decide +kernel) rfl ?_
      intro v3 ev3
      refine zwW_p [(2, 2, 0), (1, 3, 0), (1, 0, 2)] (q := 17) (ls' := [(2, (w - 90)), (0, a), (0, v3), (0, c)]) (st' := [(2, (w - 90)), (0, c)]) (by decide +kernel) rfl ?_
      refine zwW_tlen (w := w) (nx := 18) (by decide +kernel) rfl (by first | omega | exact ⟨by omega, by omega⟩) ?_
      have B17 := zby_le (w := w) (by first | omega | exact ⟨by omega, by omega⟩)
      refine zwW_min (nx := 21) (by decide +kernel) rfl ?_
      intro v4 ev4
      refine zwW_p [(2, 3, 0), (1, 2, 0), (1, 3, 0)] (q := 24) (ls' := [(2, (w - 90)), (0, a), (0, v3), (0, v4)]) (st' := [(0, v4), (0, v3)]) (by decide +kernel) rfl ?_
      refine zwic_lt (q := 29) (nx := 27) (by decide +kernel) (fun c5 => ?_) (fun c5 => ?_)
      · refine zwW_p [(1, 0, 2), (1, 1, 0), (1, 2, 0), (1, 3, 0)] (q := 33) (ls' := [(2, (w - 90)), (0, a), (0, v3), (0, v4)]) (st' := [(0, v4), (0, v3), (0, a), (2, (w - 90))]) (by decide +kernel) rfl ?_
        refine zwW_cs (k' := 290) (n := 4) (nx := 36) (as := [(2, (w - 90)), (0, a), (0, v3), (0, v4)]) (st' := []) (by decide +kernel) rfl (m290_p h w a v3 v4 (by omega) (by omega) (by omega) (by omega)) rfl ?_
        rintro v6 _ ⟨rfl, f7, f8, f9⟩
        refine zwW_ret (nx := 37) (a := 0) (b := 0) (by decide +kernel) rfl (Or.inl rfl) ?_
        exact ⟨rfl, by omega, by omega, by first | omega | exact Or.inl ⟨by omega, fun j hj => by omega⟩ | (rcases f9 with ⟨f1, f2⟩ | ⟨f1, f2, f3⟩ <;> first | exact Or.inl ⟨by omega, fun j hj => f2 j (by omega) (by omega)⟩ | exact Or.inr ⟨by omega, by omega, f3⟩)⟩
      · refine zwW_p [(0, -1, 0)] (q := 28) (ls' := [(2, (w - 90)), (0, a), (0, v3), (0, v4)]) (st' := [(0, -1)]) (by decide +kernel) rfl ?_
        refine zwW_ret (nx := 29) (a := 0) (b := 0) (by decide +kernel) rfl (Or.inl rfl) ?_
        exact ⟨rfl, by omega, by omega, by first | omega | exact Or.inl ⟨by omega, fun j hj => by omega⟩ | (rcases {F2} with ⟨f1, f2⟩ | ⟨f1, f2, f3⟩ <;> first | exact Or.inl ⟨by omega, fun j hj => f2 j (by omega) (by omega)⟩ | exact Or.inr ⟨by omega, by omega, f3⟩)⟩
    · exfalso; omega
  · refine zwif_ne (q := 9) (nx := 7) (by decide +kernel) (fun c10 => ?_) (fun c10 => ?_)
    · exfalso; omega
    · refine zwW_p [(0, -1, 0)] (q := 8) (ls' := [(2, (w - 90)), (0, a), (0, b), (0, c)]) (st' := [(0, -1)]) (by decide +kernel) rfl ?_
      refine zwW_ret (nx := 9) (a := 0) (b := 0) (by decide +kernel) rfl (Or.inl rfl) ?_
      exact ⟨rfl, by omega, by omega, by first | omega | exact Or.inl ⟨by omega, fun j hj => by omega⟩ | (rcases {F2} with ⟨f1, f2⟩ | ⟨f1, f2, f3⟩ <;> first | exact Or.inl ⟨by omega, fun j hj => f2 j (by omega) (by omega)⟩ | exact Or.inr ⟨by omega, by omega, f3⟩)⟩
-- java/lang/String.indexOf(II)I
theorem m261_p {sc : List Int} (h : Hp) (w a b : Int) (q_a : -2147483648 ≤ a ∧ a ≤ 2147483647) (hw : -33 < w ∧ w ≤ -10) (p1 : 0 ≤ b ∧ b ≤ 200) (p3 : b = 0) (p4 : 0 ≤ a ∧ a ≤ 255) : zwC sc 3 261 [(2, w), (0, a), (0, b)] h (zwRt 0 (fun x g => h = g ∧ (-2147483648 ≤ x ∧ x ≤ 2147483647) ∧ (-1 ≤ x ∧ x ≤ 200) ∧ ((x = -1 ∧ ∀ j : Nat, (j : Int) < ((zby w).length : Int) → (zby w).getD j 0 ≠ i_byt a) ∨ (0 ≤ x ∧ x < ((zby w).length : Int) ∧ (zby w).getD x.toNat 0 = i_byt a)))) := by
  refine zwC_of (D := 2) 3 (by decide +kernel) rfl (ls := [(2, w), (0, a), (0, b)]) rfl ?_
  refine zwW_p [(1, 0, 2)] (q := 1) (ls' := [(2, w), (0, a), (0, b)]) (st' := [(2, w)]) (by decide +kernel) rfl ?_
  refine zwW_cst (op := 60) (k' := 277) (n := 0) (nx := 4) (w := w) (tl := []) (st' := []) (by decide +kernel) rfl (by decide +kernel) (by first | omega | exact ⟨by omega, by omega⟩) rfl (m277 h w (by omega)) ?_
  rintro x _ ⟨rfl, rfl⟩
  refine zwif_eq (q := 23) (nx := 7) (by decide +kernel) (fun c1 => ?_) (fun c1 => ?_)
  · exfalso; omega
  · refine zwW_p [(1, 0, 2)] (q := 8) (ls' := [(2, w), (0, a), (0, b)]) (st' := [(2, w)]) (by decide +kernel) rfl ?_
    refine zwW_sval (nx := 11) (by decide +kernel) (by first | omega | exact ⟨by omega, by omega⟩) ?_
    refine zwW_p [(1, 1, 0), (1, 2, 0), (1, 0, 2)] (q := 14) (ls' := [(2, w), (0, a), (0, b)]) (st' := [(2, w), (0, b), (0, a), (2, (w - 90))]) (by decide +kernel) rfl ?_
    refine zwW_cst (op := 60) (k' := 265) (n := 0) (nx := 17) (w := w) (tl := []) (st' := [(0, b), (0, a), (2, (w - 90))]) (by decide +kernel) rfl (by decide +kernel) (by first | omega | exact ⟨by omega, by omega⟩) rfl (m265 h w (by omega)) ?_
    rintro v2 _ ⟨rfl, f3, f4, f5⟩
    refine zwW_cs (k' := 278) (n := 4) (nx := 20) (as := [(2, (w - 90)), (0, a), (0, b), (0, v2)]) (st' := []) (by decide +kernel) rfl (m278_p h w a b v2 (by omega) (by omega) (by omega) (by omega) (by omega) (by omega)) rfl ?_
    rintro v6 _ ⟨rfl, f7, f8, f9⟩
    refine zwW_p [(24, 36, 0)] (q := 36) (ls' := [(2, w), (0, a), (0, b)]) (st' := [(0, v6)]) (by decide +kernel) rfl ?_
    refine zwW_ret (nx := 37) (a := 0) (b := 0) (by decide +kernel) rfl (Or.inl rfl) ?_
    exact ⟨rfl, by omega, by omega, by exact f9⟩
-- java/lang/String.indexOf(I)I
theorem m240_p {sc : List Int} (h : Hp) (w a : Int) (q_a : -2147483648 ≤ a ∧ a ≤ 2147483647) (hw : -33 < w ∧ w ≤ -10) (p4 : 0 ≤ a ∧ a ≤ 255) : zwC sc 4 240 [(2, w), (0, a)] h (zwRt 0 (fun x g => h = g ∧ (-2147483648 ≤ x ∧ x ≤ 2147483647) ∧ (-1 ≤ x ∧ x ≤ 200) ∧ ((x = -1 ∧ ∀ j : Nat, (j : Int) < ((zby w).length : Int) → (zby w).getD j 0 ≠ i_byt a) ∨ (0 ≤ x ∧ x < ((zby w).length : Int) ∧ (zby w).getD x.toNat 0 = i_byt a)))) := by
  refine zwC_of (D := 3) 2 (by decide +kernel) rfl (ls := [(2, w), (0, a)]) rfl ?_
  refine zwW_p [(1, 0, 2), (1, 1, 0), (0, 0, 0)] (q := 3) (ls' := [(2, w), (0, a)]) (st' := [(0, 0), (0, a), (2, w)]) (by decide +kernel) rfl ?_
  refine zwW_cst (op := 60) (k' := 261) (n := 2) (nx := 6) (w := w) (tl := [(0, a), (0, 0)]) (st' := []) (by decide +kernel) rfl (by decide +kernel) (by first | omega | exact ⟨by omega, by omega⟩) rfl (m261_p h w a 0 (by omega) (by omega) (by omega) (by omega) (by omega)) ?_
  rintro v1 _ ⟨rfl, f2, f3, f4⟩
  refine zwW_ret (nx := 7) (a := 0) (b := 0) (by decide +kernel) rfl (Or.inl rfl) ?_
  exact ⟨rfl, by omega, by omega, by exact f4⟩
end
section
/-! contracts of the class -/
-- WheelLand$Reader.isLetter(I)Z
theorem x236_p {sc : List Int} (h : Hp) (C : CI h) (a : Int) (t : pT) (n : Nat) (q_a : -2147483648 ≤ a ∧ a ≤ 2147483647) (p1 : 0 ≤ a) (B : rB t n h) : zwC sc 1 236 [(2, 9), (0, a)] h (zwRt 0 (fun x g => h = g ∧ ((x = 1 ∧ (a < n ∧ pLet (t a.toNat) = true)) ∨ (x = 0 ∧ (¬ (a < n ∧ pLet (t a.toNat) = true)))))) := by
  refine zwC_of (D := 0) 2 (by decide +kernel) rfl (ls := [(2, 9), (0, a)]) rfl ?_
  have B1 := B.1
  refine zwW_p [(1, 1, 0), (1, 0, 2)] (q := 2) (ls' := [(2, 9), (0, a)]) (st' := [(2, 9), (0, a)]) (by decide +kernel) rfl ?_
  refine zwW_gs C.1 (kd := 7) (bn := 0) (n := 9) (t := 0) (lo := 0) (hi := 400) (nx := 5) (by decide +kernel) ?_
  intro v1 ev1 lv1 uv1
  refine zwic_ge (q := 34) (nx := 8) (by decide +kernel) (fun c2 => ?_) (fun c2 => ?_)
  · refine zwW_p [(0, 0, 0)] (q := 35) (ls' := [(2, 9), (0, a)]) (st' := [(0, 0)]) (by decide +kernel) rfl ?_
    refine zwW_ret (nx := 36) (a := 1) (b := 0) (by decide +kernel) rfl (Or.inr (Or.inl ⟨rfl, Or.inl rfl⟩)) ?_
    exact ⟨rfl, Or.inr ⟨rfl, by rintro ⟨z1, z2⟩; have q := (B.let (i := a.toNat) (by omega)).mp z2; omega⟩⟩
  · refine zwW_p [(1, 0, 2)] (q := 9) (ls' := [(2, 9), (0, a)]) (st' := [(2, 9)]) (by decide +kernel) rfl ?_
    refine zwW_gc C.1 (kd := 7) (bn := 1) (n := 9) (c := 10) (nx := 12) (by decide +kernel) ?_
    refine zwW_p [(1, 1, 0)] (q := 13) (ls' := [(2, 9), (0, a)]) (st' := [(0, a), (2, 10)]) (by decide +kernel) rfl ?_
    have ib1 : 0 ≤ a ∧ a < ((400 : Nat) : Int) := (by first | omega | exact ⟨by omega, by omega⟩)
    refine zwW_al C.1 (a1 := 10) (a2 := 10) (kd := 20) (n := 400) (t := 0) (lo := -2147483648) (hi := 2147483647) (nx := 14) (by decide +kernel) (by first | decide | exact ⟨by decide, by decide⟩) ib1 ?_
    intro v3 ev3 lv3 uv3
    refine zwW_p [(0, 97, 0)] (q := 16) (ls' := [(2, 9), (0, a)]) (st' := [(0, 97), (0, v3)]) (by decide +kernel) rfl ?_
    refine zwic_lt (q := 34) (nx := 19) (by decide +kernel) (fun c4 => ?_) (fun c4 => ?_)
    · refine zwW_p [(0, 0, 0)] (q := 35) (ls' := [(2, 9), (0, a)]) (st' := [(0, 0)]) (by decide +kernel) rfl ?_
      refine zwW_ret (nx := 36) (a := 1) (b := 0) (by decide +kernel) rfl (Or.inr (Or.inl ⟨rfl, Or.inl rfl⟩)) ?_
      exact ⟨rfl, Or.inr ⟨rfl, by rintro ⟨z1, z2⟩; have q := (B.let (i := a.toNat) (by omega)).mp z2; omega⟩⟩
    · refine zwW_p [(1, 0, 2)] (q := 20) (ls' := [(2, 9), (0, a)]) (st' := [(2, 9)]) (by decide +kernel) rfl ?_
      refine zwW_gc C.1 (kd := 7) (bn := 1) (n := 9) (c := 10) (nx := 23) (by decide +kernel) ?_
      refine zwW_p [(1, 1, 0)] (q := 24) (ls' := [(2, 9), (0, a)]) (st' := [(0, a), (2, 10)]) (by decide +kernel) rfl ?_
      refine zwW_al C.1 (a1 := 10) (a2 := 10) (kd := 20) (n := 400) (t := 0) (lo := -2147483648) (hi := 2147483647) (nx := 25) (by decide +kernel) (by first | decide | exact ⟨by decide, by decide⟩) ib1 ?_
      intro v5 ev5 lv5 uv5
      refine zwW_p [(0, 122, 0)] (q := 27) (ls' := [(2, 9), (0, a)]) (st' := [(0, 122), (0, v5)]) (by decide +kernel) rfl ?_
      refine zwic_gt (q := 34) (nx := 30) (by decide +kernel) (fun c6 => ?_) (fun c6 => ?_)
      · refine zwW_p [(0, 0, 0)] (q := 35) (ls' := [(2, 9), (0, a)]) (st' := [(0, 0)]) (by decide +kernel) rfl ?_
        refine zwW_ret (nx := 36) (a := 1) (b := 0) (by decide +kernel) rfl (Or.inr (Or.inl ⟨rfl, Or.inl rfl⟩)) ?_
        exact ⟨rfl, Or.inr ⟨rfl, by rintro ⟨z1, z2⟩; have q := (B.let (i := a.toNat) (by omega)).mp z2; omega⟩⟩
      · refine zwW_p [(0, 1, 0), (24, 35, 0)] (q := 35) (ls' := [(2, 9), (0, a)]) (st' := [(0, 1)]) (by decide +kernel) rfl ?_
        refine zwW_ret (nx := 36) (a := 1) (b := 0) (by decide +kernel) rfl (Or.inr (Or.inl ⟨rfl, Or.inr rfl⟩)) ?_
        exact ⟨rfl, Or.inl ⟨rfl, by exact ⟨by omega, (B.let (i := a.toNat) (by omega)).mpr (by first | omega | exact ⟨by omega, by omega⟩)⟩⟩⟩
-- WheelLand$Reader.isDigit(I)Z
theorem x238_p {sc : List Int} (h : Hp) (C : CI h) (a : Int) (t : pT) (n : Nat) (q_a : -2147483648 ≤ a ∧ a ≤ 2147483647) (p1 : 0 ≤ a) (B : rB t n h) : zwC sc 1 238 [(2, 9), (0, a)] h (zwRt 0 (fun x g => h = g ∧ ((x = 1 ∧ (a < n ∧ pDig (t a.toNat) = true)) ∨ (x = 0 ∧ (¬ (a < n ∧ pDig (t a.toNat) = true)))))) := by
  refine zwC_of (D := 0) 2 (by decide +kernel) rfl (ls := [(2, 9), (0, a)]) rfl ?_
  have B1 := B.1
  refine zwW_p [(1, 1, 0), (1, 0, 2)] (q := 2) (ls' := [(2, 9), (0, a)]) (st' := [(2, 9), (0, a)]) (by decide +kernel) rfl ?_
  refine zwW_gs C.1 (kd := 7) (bn := 0) (n := 9) (t := 0) (lo := 0) (hi := 400) (nx := 5) (by decide +kernel) ?_
  intro v1 ev1 lv1 uv1
  refine zwic_ge (q := 34) (nx := 8) (by decide +kernel) (fun c2 => ?_) (fun c2 => ?_)
  · refine zwW_p [(0, 0, 0)] (q := 35) (ls' := [(2, 9), (0, a)]) (st' := [(0, 0)]) (by decide +kernel) rfl ?_
    refine zwW_ret (nx := 36) (a := 1) (b := 0) (by decide +kernel) rfl (Or.inr (Or.inl ⟨rfl, Or.inl rfl⟩)) ?_
    exact ⟨rfl, Or.inr ⟨rfl, by rintro ⟨z1, z2⟩; have q := (B.dig (i := a.toNat) (by omega)).mp z2; omega⟩⟩
  · refine zwW_p [(1, 0, 2)] (q := 9) (ls' := [(2, 9), (0, a)]) (st' := [(2, 9)]) (by decide +kernel) rfl ?_
    refine zwW_gc C.1 (kd := 7) (bn := 1) (n := 9) (c := 10) (nx := 12) (by decide +kernel) ?_
    refine zwW_p [(1, 1, 0)] (q := 13) (ls' := [(2, 9), (0, a)]) (st' := [(0, a), (2, 10)]) (by decide +kernel) rfl ?_
    have ib1 : 0 ≤ a ∧ a < ((400 : Nat) : Int) := (by first | omega | exact ⟨by omega, by omega⟩)
    refine zwW_al C.1 (a1 := 10) (a2 := 10) (kd := 20) (n := 400) (t := 0) (lo := -2147483648) (hi := 2147483647) (nx := 14) (by decide +kernel) (by first | decide | exact ⟨by decide, by decide⟩) ib1 ?_
    intro v3 ev3 lv3 uv3
    refine zwW_p [(0, 48, 0)] (q := 16) (ls' := [(2, 9), (0, a)]) (st' := [(0, 48), (0, v3)]) (by decide +kernel) rfl ?_
    refine zwic_lt (q := 34) (nx := 19) (by decide +kernel) (fun c4 => ?_) (fun c4 => ?_)
    · refine zwW_p [(0, 0, 0)] (q := 35) (ls' := [(2, 9), (0, a)]) (st' := [(0, 0)]) (by decide +kernel) rfl ?_
      refine zwW_ret (nx := 36) (a := 1) (b := 0) (by decide +kernel) rfl (Or.inr (Or.inl ⟨rfl, Or.inl rfl⟩)) ?_
      exact ⟨rfl, Or.inr ⟨rfl, by rintro ⟨z1, z2⟩; have q := (B.dig (i := a.toNat) (by omega)).mp z2; omega⟩⟩
    · refine zwW_p [(1, 0, 2)] (q := 20) (ls' := [(2, 9), (0, a)]) (st' := [(2, 9)]) (by decide +kernel) rfl ?_
      refine zwW_gc C.1 (kd := 7) (bn := 1) (n := 9) (c := 10) (nx := 23) (by decide +kernel) ?_
      refine zwW_p [(1, 1, 0)] (q := 24) (ls' := [(2, 9), (0, a)]) (st' := [(0, a), (2, 10)]) (by decide +kernel) rfl ?_
      refine zwW_al C.1 (a1 := 10) (a2 := 10) (kd := 20) (n := 400) (t := 0) (lo := -2147483648) (hi := 2147483647) (nx := 25) (by decide +kernel) (by first | decide | exact ⟨by decide, by decide⟩) ib1 ?_
      intro v5 ev5 lv5 uv5
      refine zwW_p [(0, 57, 0)] (q := 27) (ls' := [(2, 9), (0, a)]) (st' := [(0, 57), (0, v5)]) (by decide +kernel) rfl ?_
      refine zwic_gt (q := 34) (nx := 30) (by decide +kernel) (fun c6 => ?_) (fun c6 => ?_)
      · refine zwW_p [(0, 0, 0)] (q := 35) (ls' := [(2, 9), (0, a)]) (st' := [(0, 0)]) (by decide +kernel) rfl ?_
        refine zwW_ret (nx := 36) (a := 1) (b := 0) (by decide +kernel) rfl (Or.inr (Or.inl ⟨rfl, Or.inl rfl⟩)) ?_
        exact ⟨rfl, Or.inr ⟨rfl, by rintro ⟨z1, z2⟩; have q := (B.dig (i := a.toNat) (by omega)).mp z2; omega⟩⟩
      · refine zwW_p [(0, 1, 0), (24, 35, 0)] (q := 35) (ls' := [(2, 9), (0, a)]) (st' := [(0, 1)]) (by decide +kernel) rfl ?_
        refine zwW_ret (nx := 36) (a := 1) (b := 0) (by decide +kernel) rfl (Or.inr (Or.inl ⟨rfl, Or.inr rfl⟩)) ?_
        exact ⟨rfl, Or.inl ⟨rfl, by exact ⟨by omega, (B.dig (i := a.toNat) (by omega)).mpr (by first | omega | exact ⟨by omega, by omega⟩)⟩⟩⟩
-- WheelLand$Reader.isSpelled(III)Z
theorem x276_p {sc : List Int} (h : Hp) (C : CI h) (a b c : Int) (t : pT) (n : Nat) (q_a : -2147483648 ≤ a ∧ a ≤ 2147483647) (q_b : -2147483648 ≤ b ∧ b ≤ 2147483647) (q_c : -2147483648 ≤ c ∧ c ≤ 2147483647) (p1 : 0 ≤ a ∧ a ≤ 200) (p2 : 0 ≤ b ∧ b ≤ 400) (B : rB t n h) : zwC sc 5 276 [(2, 9), (0, a), (0, b), (0, c)] h (zwRt 0 (fun x g => h = g ∧ ((x = 1 ∧ (rSp h n a b c)) ∨ (x = 0 ∧ (¬ rSp h n a b c))))) := by
  refine zwC_of (D := 4) 5 (by decide +kernel) rfl (ls := [(2, 9), (0, a), (0, b), (0, c), (9, 0)]) rfl ?_
  have B1 := B.1
  have W0 := rWd_len
  refine zwW_p [(0, 0, 0), (2, 4, 0)] (q := 3) (ls' := [(2, 9), (0, a), (0, b), (0, c), (0, 0)]) (st' := []) (by decide +kernel) rfl ?_
  have L1 : ∀ (n0 : Nat) (v4L1 : Int), n0 = ((1000 - v4L1)).toNat → (∀ j : Nat, (j : Int) < v4L1 → a + j < 114 ∧ b + j < n ∧ (zby (-10)).getD (a + j).toNat 0 = fld h 10 (b + j).toNat) → (0 ≤ v4L1 ∧ v4L1 ≤ 1000) → zwW sc (4) 276 3 [(2, 9), (0, a), (0, b), (0, c), (0, v4L1)] [] h (zwRt 0 (fun x g => h = g ∧ ((x = 1 ∧ (rSp h n a b c)) ∨ (x = 0 ∧ (¬ rSp h n a b c))))) := by
    intro n0
    induction n0 using Nat.strongRecOn with
    | ind n0 IHL1 =>
      intro v4L1 hnL1 iL1_0 iL1_1
      refine zwW_p [(1, 4, 0), (1, 3, 0)] (q := 6) (ls' := [(2, 9), (0, a), (0, b), (0, c), (0, v4L1)]) (st' := [(0, c), (0, v4L1)]) (by decide +kernel) rfl ?_
      refine zwic_ge (q := 61) (nx := 9) (by decide +kernel) (fun c2 => ?_) (fun c2 => ?_)
      · refine zwW_p [(0, 1, 0)] (q := 62) (ls' := [(2, 9), (0, a), (0, b), (0, c), (0, v4L1)]) (st' := [(0, 1)]) (by decide +kernel) rfl ?_
        refine zwW_ret (nx := 63) (a := 1) (b := 0) (by decide +kernel) rfl (Or.inr (Or.inl ⟨rfl, Or.inr rfl⟩)) ?_
        exact ⟨rfl, Or.inl ⟨rfl, by exact fun j hj => iL1_0 j (by omega)⟩⟩
      · refine zwW_p [(1, 1, 0), (1, 4, 0)] (q := 12) (ls' := [(2, 9), (0, a), (0, b), (0, c), (0, v4L1)]) (st' := [(0, v4L1), (0, a)]) (by decide +kernel) rfl ?_
        refine zwW_add (nx := 13) (by decide +kernel) (by first | omega | exact ⟨by omega, by omega⟩) ?_
        refine zwW_p [(0, -10, 2)] (q := 15) (ls' := [(2, 9), (0, a), (0, b), (0, c), (0, v4L1)]) (st' := [(2, -10), (0, (a + v4L1))]) (by decide +kernel) rfl ?_
        refine zwW_cst (op := 60) (k' := 265) (n := 0) (nx := 18) (w := -10) (tl := []) (st' := [(0, (a + v4L1))]) (by decide +kernel) rfl (by decide +kernel) (by first | omega | exact ⟨by omega, by omega⟩) rfl (m265 h (-10) (by omega)) ?_
        rintro v3 _ ⟨rfl, f4, f5, f6⟩
        refine zwic_ge (q := 53) (nx := 21) (by decide +kernel) (fun c7 => ?_) (fun c7 => ?_)
        · refine zwW_p [(0, 0, 0)] (q := 54) (ls' := [(2, 9), (0, a), (0, b), (0, c), (0, v4L1)]) (st' := [(0, 0)]) (by decide +kernel) rfl ?_
          refine zwW_ret (nx := 55) (a := 1) (b := 0) (by decide +kernel) rfl (Or.inr (Or.inl ⟨rfl, Or.inl rfl⟩)) ?_
          exact ⟨rfl, Or.inr ⟨rfl, by intro H; obtain ⟨z1, z2, z3⟩ := H (v4L1).toNat (by omega); rw [show (((v4L1).toNat : Nat) : Int) = v4L1 by omega] at z1 z2 z3; omega⟩⟩
        · refine zwW_p [(1, 2, 0), (1, 4, 0)] (q := 24) (ls' := [(2, 9), (0, a), (0, b), (0, c), (0, v4L1)]) (st' := [(0, v4L1), (0, b)]) (by decide +kernel) rfl ?_
          refine zwW_add (nx := 25) (by decide +kernel) (by first | omega | exact ⟨by omega, by omega⟩) ?_
          refine zwW_p [(1, 0, 2)] (q := 26) (ls' := [(2, 9), (0, a), (0, b), (0, c), (0, v4L1)]) (st' := [(2, 9), (0, (b + v4L1))]) (by decide +kernel) rfl ?_
          refine zwW_gs C.1 (kd := 7) (bn := 0) (n := 9) (t := 0) (lo := 0) (hi := 400) (nx := 29) (by decide +kernel) ?_
          intro v8 ev8 lv8 uv8
          refine zwic_ge (q := 53) (nx := 32) (by decide +kernel) (fun c9 => ?_) (fun c9 => ?_)
          · refine zwW_p [(0, 0, 0)] (q := 54) (ls' := [(2, 9), (0, a), (0, b), (0, c), (0, v4L1)]) (st' := [(0, 0)]) (by decide +kernel) rfl ?_
            refine zwW_ret (nx := 55) (a := 1) (b := 0) (by decide +kernel) rfl (Or.inr (Or.inl ⟨rfl, Or.inl rfl⟩)) ?_
            exact ⟨rfl, Or.inr ⟨rfl, by intro H; obtain ⟨z1, z2, z3⟩ := H (v4L1).toNat (by omega); rw [show (((v4L1).toNat : Nat) : Int) = v4L1 by omega] at z1 z2 z3; omega⟩⟩
          · refine zwW_p [(0, -10, 2), (1, 1, 0), (1, 4, 0)] (q := 37) (ls' := [(2, 9), (0, a), (0, b), (0, c), (0, v4L1)]) (st' := [(0, v4L1), (0, a), (2, -10)]) (by decide +kernel) rfl ?_
            refine zwW_add (nx := 38) (by decide +kernel) (by first | omega | exact ⟨by omega, by omega⟩) ?_
            refine zwW_cst (op := 60) (k' := 266) (n := 1) (nx := 41) (w := -10) (tl := [(0, (a + v4L1))]) (st' := []) (by decide +kernel) rfl (by decide +kernel) (by first | omega | exact ⟨by omega, by omega⟩) rfl (m266 h (-10) (a + v4L1) (by omega) (by omega) (by omega) (by omega)) ?_
            rintro v10 _ ⟨rfl, f11, f12, f13⟩
            refine zwW_p [(1, 0, 2)] (q := 42) (ls' := [(2, 9), (0, a), (0, b), (0, c), (0, v4L1)]) (st' := [(2, 9), (0, v10)]) (by decide +kernel) rfl ?_
            refine zwW_gc C.1 (kd := 7) (bn := 1) (n := 9) (c := 10) (nx := 45) (by decide +kernel) ?_
            refine zwW_p [(1, 2, 0), (1, 4, 0)] (q := 48) (ls' := [(2, 9), (0, a), (0, b), (0, c), (0, v4L1)]) (st' := [(0, v4L1), (0, b), (2, 10), (0, v10)]) (by decide +kernel) rfl ?_
            refine zwW_add (nx := 49) (by decide +kernel) (by first | omega | exact ⟨by omega, by omega⟩) ?_
            have ib1 : 0 ≤ (b + v4L1) ∧ (b + v4L1) < ((400 : Nat) : Int) := (by first | omega | exact ⟨by omega, by omega⟩)
            refine zwW_al C.1 (a1 := 10) (a2 := 10) (kd := 20) (n := 400) (t := 0) (lo := -2147483648) (hi := 2147483647) (nx := 50) (by decide +kernel) (by first | decide | exact ⟨by decide, by decide⟩) ib1 ?_
            intro v14 ev14 lv14 uv14
            refine zwic_eq (q := 55) (nx := 53) (by decide +kernel) (fun c15 => ?_) (fun c15 => ?_)
            · refine zwW_inc (i := 4) (c := 1) (x := v4L1) (nx := 58) (by decide +kernel) rfl (by first | omega | exact ⟨by omega, by omega⟩) (ls' := [(2, 9), (0, a), (0, b), (0, c), (0, (v4L1 + 1))]) rfl ?_
              refine zwW_p [(24, 3, 0)] (q := 3) (ls' := [(2, 9), (0, a), (0, b), (0, c), (0, (v4L1 + 1))]) (st' := []) (by decide +kernel) rfl ?_
              exact IHL1 ((1000 - (v4L1 + 1))).toNat (by omega) (v4L1 + 1) rfl (fun j hj => by by_cases z : (j : Int) < v4L1; exact iL1_0 j z; (rw [show (j : Int) = v4L1 by omega]; exact ⟨by omega, by omega, by omega⟩)) (by omega)
            · refine zwW_p [(0, 0, 0)] (q := 54) (ls' := [(2, 9), (0, a), (0, b), (0, c), (0, v4L1)]) (st' := [(0, 0)]) (by decide +kernel) rfl ?_
              refine zwW_ret (nx := 55) (a := 1) (b := 0) (by decide +kernel) rfl (Or.inr (Or.inl ⟨rfl, Or.inl rfl⟩)) ?_
              exact ⟨rfl, Or.inr ⟨rfl, by intro H; obtain ⟨z1, z2, z3⟩ := H (v4L1).toNat (by omega); rw [show (((v4L1).toNat : Nat) : Int) = v4L1 by omega] at z1 z2 z3; omega⟩⟩
  exact L1 _ 0 rfl (fun j hj => by omega) (by omega)
-- WheelLand$Reader.wordAt(II)I
theorem x260_p {sc : List Int} (h : Hp) (C : CI h) (a b : Int) (t : pT) (n : Nat) (p : Nat) (q_a : -2147483648 ≤ a ∧ a ≤ 2147483647) (q_b : -2147483648 ≤ b ∧ b ≤ 2147483647) (B : rB t n h) (pa : a = (p : Int)) (pb : 0 ≤ b ∧ a + b ≤ n) : zwC sc 6 260 [(2, 9), (0, a), (0, b)] h (zwRt 0 (fun x g => h = g ∧ (-2147483648 ≤ x ∧ x ≤ 2147483647) ∧ (x = pFd t p b.toNat pWs 0))) := by
  refine zwC_of (D := 5) 6 (by decide +kernel) rfl (ls := [(2, 9), (0, a), (0, b), (9, 0), (9, 0), (9, 0)]) rfl ?_
  have B1 := B.1
  have W0 := rWd_len
  have B2 := B.2.1
  refine zwW_p [(0, 0, 0), (2, 3, 0), (0, 0, 0), (2, 4, 0), (0, 0, 0), (2, 5, 0)] (q := 8) (ls' := [(2, 9), (0, a), (0, b), (0, 0), (0, 0), (0, 0)]) (st' := []) (by decide +kernel) rfl ?_
  have L1 : ∀ (n0 : Nat) (wL1 w3L1 kL1 : Int), n0 = ((1000 - kL1)).toNat → (wL1 = ((rNo (kL1).toNat : Nat) : Int) ∧ w3L1 = ((rSt (kL1).toNat : Nat) : Int) ∧ kL1 ≤ 114) → (pFd t p b.toNat pWs 0 = pFd t p b.toNat (pWs.drop (rNo (kL1).toNat)) (rNo (kL1).toNat)) → (wL1 ≤ kL1 ∧ w3L1 ≤ kL1 + 1) → (0 ≤ wL1 ∧ wL1 ≤ 1000) → (0 ≤ w3L1 ∧ w3L1 ≤ 200) → (0 ≤ kL1 ∧ kL1 ≤ 200) → zwW sc (5) 260 8 [(2, 9), (0, a), (0, b), (0, wL1), (0, w3L1), (0, kL1)] [] h (zwRt 0 (fun x g => h = g ∧ (-2147483648 ≤ x ∧ x ≤ 2147483647) ∧ (x = pFd t p b.toNat pWs 0))) := by
    intro n0
    induction n0 using Nat.strongRecOn with
    | ind n0 IHL1 =>
      intro wL1 w3L1 kL1 hnL1 iL1_0 iL1_1 iL1_2 iL1_3 iL1_4 iL1_5
      refine zwW_p [(1, 5, 0), (0, -10, 2)] (q := 12) (ls' := [(2, 9), (0, a), (0, b), (0, wL1), (0, w3L1), (0, kL1)]) (st' := [(2, -10), (0, kL1)]) (by decide +kernel) rfl ?_
      refine zwW_cst (op := 60) (k' := 265) (n := 0) (nx := 15) (w := -10) (tl := []) (st' := [(0, kL1)]) (by decide +kernel) rfl (by decide +kernel) (by first | omega | exact ⟨by omega, by omega⟩) rfl (m265 h (-10) (by omega)) ?_
      rintro v2 _ ⟨rfl, f3, f4, f5⟩
      refine zwic_ge (q := 67) (nx := 18) (by decide +kernel) (fun c6 => ?_) (fun c6 => ?_)
      · refine zwW_p [(0, -1, 0)] (q := 68) (ls' := [(2, 9), (0, a), (0, b), (0, wL1), (0, w3L1), (0, kL1)]) (st' := [(0, -1)]) (by decide +kernel) rfl ?_
        refine zwW_ret (nx := 69) (a := 0) (b := 0) (by decide +kernel) rfl (Or.inl rfl) ?_
        exact ⟨rfl, by omega, by first | (rw [iL1_1, D50]; omega) | (rw [iL1_1, show (kL1).toNat = 114 by omega, rWd_end.1]; rfl)⟩
      · have KW := rWd_at (k := (kL1).toNat) (by omega)
        refine zwW_p [(0, -10, 2), (1, 5, 0)] (q := 22) (ls' := [(2, 9), (0, a), (0, b), (0, wL1), (0, w3L1), (0, kL1)]) (st' := [(0, kL1), (2, -10)]) (by decide +kernel) rfl ?_
        refine zwW_cst (op := 60) (k' := 266) (n := 1) (nx := 25) (w := -10) (tl := [(0, kL1)]) (st' := []) (by decide +kernel) rfl (by decide +kernel) (by first | omega | exact ⟨by omega, by omega⟩) rfl (m266 h (-10) kL1 (by omega) (by omega) (by omega) (by omega)) ?_
        rintro v7 _ ⟨rfl, f8, f9, f10⟩
        refine zwW_p [(0, 32, 0)] (q := 27) (ls' := [(2, 9), (0, a), (0, b), (0, wL1), (0, w3L1), (0, kL1)]) (st' := [(0, 32), (0, v7)]) (by decide +kernel) rfl ?_
        refine zwic_ne (q := 61) (nx := 30) (by decide +kernel) (fun c11 => ?_) (fun c11 => ?_)
        · refine zwW_inc (i := 5) (c := 1) (x := kL1) (nx := 64) (by decide +kernel) rfl (by first | omega | exact ⟨by omega, by omega⟩) (ls' := [(2, 9), (0, a), (0, b), (0, wL1), (0, w3L1), (0, (kL1 + 1))]) rfl ?_
          refine zwW_p [(24, 8, 0)] (q := 8) (ls' := [(2, 9), (0, a), (0, b), (0, wL1), (0, w3L1), (0, (kL1 + 1))]) (st' := []) (by decide +kernel) rfl ?_
          exact IHL1 ((1000 - (kL1 + 1))).toNat (by omega) wL1 w3L1 (kL1 + 1) rfl (by rw [show (kL1 + 1).toNat = (kL1).toNat + 1 by omega]; first | (rw [KW.2.2.2.1, KW.2.2.2.2.1, if_pos (by omega), if_pos (by omega)]; exact ⟨by omega, by omega, by omega⟩) | (rw [KW.2.2.2.1, KW.2.2.2.2.1, if_neg (by omega), if_neg (by omega)]; exact ⟨by omega, by omega, by omega⟩)) (by rw [show (kL1 + 1).toNat = (kL1).toNat + 1 by omega]; first | (rw [KW.2.2.2.1, if_pos (by omega), iL1_1, D52]) | (rw [KW.2.2.2.1, if_neg (by omega)]; exact iL1_1)) (by omega) (by omega) (by omega) (by omega)
        · refine zwW_p [(1, 5, 0), (1, 4, 0)] (q := 34) (ls' := [(2, 9), (0, a), (0, b), (0, wL1), (0, w3L1), (0, kL1)]) (st' := [(0, w3L1), (0, kL1)]) (by decide +kernel) rfl ?_
          refine zwW_sub (nx := 35) (by decide +kernel) (by first | omega | exact ⟨by omega, by omega⟩) ?_
          refine zwW_p [(1, 2, 0)] (q := 36) (ls' := [(2, 9), (0, a), (0, b), (0, wL1), (0, w3L1), (0, kL1)]) (st' := [(0, b), (0, (kL1 - w3L1))]) (by decide +kernel) rfl ?_
          refine zwic_ne (q := 52) (nx := 39) (by decide +kernel) (fun c12 => ?_) (fun c12 => ?_)
          · have NE : ¬ ((rWs (kL1).toNat).length = b.toNat ∧ pEq t p (rWs (kL1).toNat) = true) := by rintro ⟨z1, z2⟩; have z := KW.1.mp (by omega); first | omega | exact trivial (E47.mpr z2)
            have D52 := rFd t p b.toNat (k := (kL1).toNat) (by omega)
            rw [if_neg NE] at D52
            refine zwW_inc (i := 3) (c := 1) (x := wL1) (nx := 55) (by decide +kernel) rfl (by first | omega | exact ⟨by omega, by omega⟩) (ls' := [(2, 9), (0, a), (0, b), (0, (wL1 + 1)), (0, w3L1), (0, kL1)]) rfl ?_
            refine zwW_p [(1, 5, 0), (0, 1, 0)] (q := 58) (ls' := [(2, 9), (0, a), (0, b), (0, (wL1 + 1)), (0, w3L1), (0, kL1)]) (st' := [(0, 1), (0, kL1)]) (by decide +kernel) rfl ?_
            refine zwW_add (nx := 59) (by decide +kernel) (by first | omega | exact ⟨by omega, by omega⟩) ?_
            refine zwW_p [(2, 4, 0)] (q := 61) (ls' := [(2, 9), (0, a), (0, b), (0, (wL1 + 1)), (0, (kL1 + 1)), (0, kL1)]) (st' := []) (by decide +kernel) rfl ?_
            refine zwW_inc (i := 5) (c := 1) (x := kL1) (nx := 64) (by decide +kernel) rfl (by first | omega | exact ⟨by omega, by omega⟩) (ls' := [(2, 9), (0, a), (0, b), (0, (wL1 + 1)), (0, (kL1 + 1)), (0, (kL1 + 1))]) rfl ?_
            refine zwW_p [(24, 8, 0)] (q := 8) (ls' := [(2, 9), (0, a), (0, b), (0, (wL1 + 1)), (0, (kL1 + 1)), (0, (kL1 + 1))]) (st' := []) (by decide +kernel) rfl ?_
            exact IHL1 ((1000 - (kL1 + 1))).toNat (by omega) (wL1 + 1) (kL1 + 1) (kL1 + 1) rfl (by rw [show (kL1 + 1).toNat = (kL1).toNat + 1 by omega]; first | (rw [KW.2.2.2.1, KW.2.2.2.2.1, if_pos (by omega), if_pos (by omega)]; exact ⟨by omega, by omega, by omega⟩) | (rw [KW.2.2.2.1, KW.2.2.2.2.1, if_neg (by omega), if_neg (by omega)]; exact ⟨by omega, by omega, by omega⟩)) (by rw [show (kL1 + 1).toNat = (kL1).toNat + 1 by omega]; first | (rw [KW.2.2.2.1, if_pos (by omega), iL1_1, D52]) | (rw [KW.2.2.2.1, if_neg (by omega)]; exact iL1_1)) (by omega) (by omega) (by omega) (by omega)
          · refine zwW_p [(1, 0, 2), (1, 4, 0), (1, 1, 0), (1, 2, 0)] (q := 44) (ls' := [(2, 9), (0, a), (0, b), (0, wL1), (0, w3L1), (0, kL1)]) (st' := [(0, b), (0, a), (0, w3L1), (2, 9)]) (by decide +kernel) rfl ?_
            refine zwW_cm C.1 (op := 60) (k' := 276) (n := 3) (kd := 7) (m := 9) (nx := 47) (r := 9) (tl := [(0, w3L1), (0, a), (0, b)]) (st' := []) (by decide +kernel) rfl (by decide +kernel) rfl (x276_p h C w3L1 a b t n (by omega) (by omega) (by omega) (by omega) (by omega) B) ?_
            rintro x _ ⟨rfl, ⟨rfl, c13⟩ | ⟨rfl, c13⟩⟩
            · have L47 : (rWs (kL1).toNat).length = b.toNat := by have z := KW.1.mp (by omega); omega
              have E47 : rSp h n w3L1 a b ↔ pEq t p (rWs (kL1).toNat) = true := by rw [show w3L1 = ((rSt (kL1).toNat : Nat) : Int) by omega, pa]; exact rSp_eq B (by omega) (by omega) (by omega)
              refine zwif_eq (q := 52) (nx := 50) (by decide +kernel) (fun c14 => ?_) (fun c14 => ?_)
              · exfalso; omega
              · have D50 := rFd t p b.toNat (k := (kL1).toNat) (by omega)
                rw [if_pos ⟨L47, E47.mp c13⟩] at D50
                refine zwW_p [(1, 3, 0)] (q := 51) (ls' := [(2, 9), (0, a), (0, b), (0, wL1), (0, w3L1), (0, kL1)]) (st' := [(0, wL1)]) (by decide +kernel) rfl ?_
                refine zwW_ret (nx := 52) (a := 0) (b := 0) (by decide +kernel) rfl (Or.inl rfl) ?_
                exact ⟨rfl, by omega, by first | (rw [iL1_1, D50]; omega) | (rw [iL1_1, show (kL1).toNat = 114 by omega, rWd_end.1]; rfl)⟩
            · have L47 : (rWs (kL1).toNat).length = b.toNat := by have z := KW.1.mp (by omega); omega
              have E47 : rSp h n w3L1 a b ↔ pEq t p (rWs (kL1).toNat) = true := by rw [show w3L1 = ((rSt (kL1).toNat : Nat) : Int) by omega, pa]; exact rSp_eq B (by omega) (by omega) (by omega)
              refine zwif_eq (q := 52) (nx := 50) (by decide +kernel) (fun c15 => ?_) (fun c15 => ?_)
              · have NE : ¬ ((rWs (kL1).toNat).length = b.toNat ∧ pEq t p (rWs (kL1).toNat) = true) := by rintro ⟨z1, z2⟩; have z := KW.1.mp (by omega); first | omega | exact c13 (E47.mpr z2)
                have D52 := rFd t p b.toNat (k := (kL1).toNat) (by omega)
                rw [if_neg NE] at D52
                refine zwW_inc (i := 3) (c := 1) (x := wL1) (nx := 55) (by decide +kernel) rfl (by first | omega | exact ⟨by omega, by omega⟩) (ls' := [(2, 9), (0, a), (0, b), (0, (wL1 + 1)), (0, w3L1), (0, kL1)]) rfl ?_
                refine zwW_p [(1, 5, 0), (0, 1, 0)] (q := 58) (ls' := [(2, 9), (0, a), (0, b), (0, (wL1 + 1)), (0, w3L1), (0, kL1)]) (st' := [(0, 1), (0, kL1)]) (by decide +kernel) rfl ?_
                refine zwW_add (nx := 59) (by decide +kernel) (by first | omega | exact ⟨by omega, by omega⟩) ?_
                refine zwW_p [(2, 4, 0)] (q := 61) (ls' := [(2, 9), (0, a), (0, b), (0, (wL1 + 1)), (0, (kL1 + 1)), (0, kL1)]) (st' := []) (by decide +kernel) rfl ?_
                refine zwW_inc (i := 5) (c := 1) (x := kL1) (nx := 64) (by decide +kernel) rfl (by first | omega | exact ⟨by omega, by omega⟩) (ls' := [(2, 9), (0, a), (0, b), (0, (wL1 + 1)), (0, (kL1 + 1)), (0, (kL1 + 1))]) rfl ?_
                refine zwW_p [(24, 8, 0)] (q := 8) (ls' := [(2, 9), (0, a), (0, b), (0, (wL1 + 1)), (0, (kL1 + 1)), (0, (kL1 + 1))]) (st' := []) (by decide +kernel) rfl ?_
                exact IHL1 ((1000 - (kL1 + 1))).toNat (by omega) (wL1 + 1) (kL1 + 1) (kL1 + 1) rfl (by rw [show (kL1 + 1).toNat = (kL1).toNat + 1 by omega]; first | (rw [KW.2.2.2.1, KW.2.2.2.2.1, if_pos (by omega), if_pos (by omega)]; exact ⟨by omega, by omega, by omega⟩) | (rw [KW.2.2.2.1, KW.2.2.2.2.1, if_neg (by omega), if_neg (by omega)]; exact ⟨by omega, by omega, by omega⟩)) (by rw [show (kL1 + 1).toNat = (kL1).toNat + 1 by omega]; first | (rw [KW.2.2.2.1, if_pos (by omega), iL1_1, D52]) | (rw [KW.2.2.2.1, if_neg (by omega)]; exact iL1_1)) (by omega) (by omega) (by omega) (by omega)
              · exfalso; omega
  exact L1 _ 0 0 0 rfl (by show (0 : Int) = ((rNo 0 : Nat) : Int) ∧ (0 : Int) = ((rSt 0 : Nat) : Int) ∧ (0 : Int) ≤ 114; have q := rWd_end; omega) (by show _ = pFd t p b.toNat (pWs.drop (rNo 0)) (rNo 0); rw [rWd_end.2.2.1]; rfl) (by omega) (by omega) (by omega) (by omega)
def msx237_p : Zms := [(9, 9, 2, 3), (9, 9, 4, 5), (9, 9, 5, 6)]
-- WheelLand$Reader.takeWord()V
theorem x237_p {sc : List Int} (h : Hp) (C : CI h) (t : pT) (n : Nat) (p : Nat) (B : rB t n h) (pn : fld h 9 2 = (p : Int)) (pp : fld h 9 3 = (p : Int)) (pl : p ≤ n) : zwC sc 7 237 [(2, 9)] h (zwRv (fun g => CI g ∧ zXR msx237_p (0) (0) h g ∧ (fld g 9 2 = ((pRun pLet t n p : Nat) : Int)) ∧ (fld g 9 4 = 1) ∧ (fld g 9 5 = pFd t p (pRun pLet t n p - p) pWs 0))) := by
  refine zwC_of (D := 6) 1 (by decide +kernel) rfl (ls := [(2, 9)]) rfl ?_
  have X : zXR msx237_p 0 0 h h := zXR.rf _ _
  have B1 := B.1
  have B2 := B.2.1
  have L1 : ∀ (n0 : Nat) (hL1 : Hp), n0 = ((400 - fld hL1 9 2)).toNat → (rB t n hL1) → (p ≤ fld hL1 9 2 ∧ fld hL1 9 2 ≤ n ∧ fld hL1 9 3 = p) → (pRun pLet t n (fld hL1 9 2).toNat = pRun pLet t n p) → CI hL1 → zXR msx237_p (0) (0) h hL1 → zwW sc (6) 237 0 [(2, 9)] [] hL1 (zwRv (fun g => CI g ∧ zXR msx237_p (0) (0) h g ∧ (fld g 9 2 = ((pRun pLet t n p : Nat) : Int)) ∧ (fld g 9 4 = 1) ∧ (fld g 9 5 = pFd t p (pRun pLet t n p - p) pWs 0))) := by
    intro n0
    induction n0 using Nat.strongRecOn with
    | ind n0 IHL1 =>
      intro hL1 hnL1 iL1_0 iL1_1 iL1_2 ChL1 XhL1
      have BL := iL1_0.1
      refine zwW_p [(1, 0, 2)] (q := 1) (ls' := [(2, 9)]) (st' := [(2, 9)]) (by decide +kernel) rfl ?_
      refine zwW_gs ChL1.1 (kd := 7) (bn := 2) (n := 9) (t := 0) (lo := 0) (hi := 400) (nx := 4) (by decide +kernel) ?_
      intro v2 ev2 lv2 uv2
      refine zwW_p [(1, 0, 2)] (q := 5) (ls' := [(2, 9)]) (st' := [(2, 9), (0, v2)]) (by decide +kernel) rfl ?_
      refine zwW_gs ChL1.1 (kd := 7) (bn := 0) (n := 9) (t := 0) (lo := 0) (hi := 400) (nx := 8) (by decide +kernel) ?_
      intro v3 ev3 lv3 uv3
      refine zwic_ge (q := 35) (nx := 11) (by decide +kernel) (fun c4 => ?_) (fun c4 => ?_)
      · have N35 : pRun pLet t n p = (fld hL1 9 2).toNat := by rw [← iL1_2]; exact pRun_e (fun z => by first | omega | exact trivial ⟨by omega, z.2⟩)
        refine zwW_p [(1, 0, 2), (0, 1, 0)] (q := 37) (ls' := [(2, 9)]) (st' := [(0, 1), (2, 9)]) (by decide +kernel) rfl ?_
        refine zwW_ps ChL1.1 (kd := 7) (bn := 4) (n := 9) (lo := -2147483648) (hi := 2147483647) (nx := 40) (by decide +kernel) (by first | decide | exact ⟨by decide, by decide⟩) ?_
        intro h5 eh5 Ih5
        have Ch5 : CI h5 := ChL1.wc eh5 Ih5 (by decide) (by decide)
        have Qh5 : zXR [(9, 9, 4, 5)] 0 0 hL1 h5 := zXR.wc eh5 rfl ⟨by decide, by decide, Or.inl (by decide)⟩ (by first | decide | exact ⟨by decide, by decide⟩)
        have Xh5 : zXR msx237_p (0) (0) h h5 := XhL1.tr (c2 := 0) (s2 := 0) Qh5 (by decide +kernel) (by decide) (by decide)
        have th5_9_0 : fld h5 9 0 = fld hL1 9 0 := Qh5.f (a1 := 9) (a2 := 9) (j1 := 0) (j2 := 1) (by decide +kernel) (by first | decide | exact ⟨by decide, by decide⟩) (by first | decide | exact ⟨by decide, by decide⟩) (by first | decide | exact ⟨by decide, by decide⟩)
        have th5_9_2 : fld h5 9 2 = fld hL1 9 2 := Qh5.f (a1 := 9) (a2 := 9) (j1 := 2) (j2 := 3) (by decide +kernel) (by first | decide | exact ⟨by decide, by decide⟩) (by first | decide | exact ⟨by decide, by decide⟩) (by first | decide | exact ⟨by decide, by decide⟩)
        have th5_9_3 : fld h5 9 3 = fld hL1 9 3 := Qh5.f (a1 := 9) (a2 := 9) (j1 := 3) (j2 := 4) (by decide +kernel) (by first | decide | exact ⟨by decide, by decide⟩) (by first | decide | exact ⟨by decide, by decide⟩) (by first | decide | exact ⟨by decide, by decide⟩)
        have th5_9_5 : fld h5 9 5 = fld hL1 9 5 := Qh5.f (a1 := 9) (a2 := 9) (j1 := 5) (j2 := 6) (by decide +kernel) (by first | decide | exact ⟨by decide, by decide⟩) (by first | decide | exact ⟨by decide, by decide⟩) (by first | decide | exact ⟨by decide, by decide⟩)
        have Bh5 : rB t n h5 := iL1_0.fr Qh5 (by decide +kernel)
        have th5_9_4 : fld h5 9 4 = 1 := by rw [eh5]; exact fld_wr_eq (ChL1.1.s (a1 := 9) (a2 := 9) (k := 7) (n := 9) (by decide +kernel) (by decide) (by decide)) (by decide)
        refine zwW_p [(1, 0, 2), (1, 0, 2), (1, 0, 2)] (q := 43) (ls' := [(2, 9)]) (st' := [(2, 9), (2, 9), (2, 9)]) (by decide +kernel) rfl ?_
        refine zwW_gs Ch5.1 (kd := 7) (bn := 3) (n := 9) (t := 0) (lo := 0) (hi := 400) (nx := 46) (by decide +kernel) ?_
        intro v6 ev6 lv6 uv6
        refine zwW_p [(1, 0, 2)] (q := 47) (ls' := [(2, 9)]) (st' := [(2, 9), (0, v6), (2, 9), (2, 9)]) (by decide +kernel) rfl ?_
        refine zwW_gs Ch5.1 (kd := 7) (bn := 2) (n := 9) (t := 0) (lo := 0) (hi := 400) (nx := 50) (by decide +kernel) ?_
        intro v7 ev7 lv7 uv7
        refine zwW_p [(1, 0, 2)] (q := 51) (ls' := [(2, 9)]) (st' := [(2, 9), (0, v7), (0, v6), (2, 9), (2, 9)]) (by decide +kernel) rfl ?_
        refine zwW_gs Ch5.1 (kd := 7) (bn := 3) (n := 9) (t := 0) (lo := 0) (hi := 400) (nx := 54) (by decide +kernel) ?_
        intro v8 ev8 lv8 uv8
        refine zwW_sub (nx := 55) (by decide +kernel) (by first | omega | exact ⟨by omega, by omega⟩) ?_
        refine zwW_cm Ch5.1 (op := 60) (k' := 260) (n := 2) (kd := 7) (m := 9) (nx := 58) (r := 9) (tl := [(0, v6), (0, (v7 - v8))]) (st' := [(2, 9)]) (by decide +kernel) rfl (by decide +kernel) rfl (x260_p h5 Ch5 v6 (v7 - v8) t n p (by omega) (by omega) Bh5 (by omega) (by have := N35; omega)) ?_
        rintro v9 _ ⟨rfl, f10, f11⟩
        refine zwW_ps Ch5.1 (kd := 7) (bn := 5) (n := 9) (lo := -2147483648) (hi := 2147483647) (nx := 61) (by decide +kernel) (by first | omega | exact ⟨by omega, by omega⟩) ?_
        intro h12 eh12 Ih12
        have Ch12 : CI h12 := Ch5.wc eh12 Ih12 (by decide) (by decide)
        have Qh12 : zXR [(9, 9, 5, 6)] 0 0 h5 h12 := zXR.wc eh12 rfl ⟨by decide, by decide, Or.inl (by decide)⟩ (by first | decide | exact ⟨by decide, by decide⟩)
        have Xh12 : zXR msx237_p (0) (0) h h12 := Xh5.tr (c2 := 0) (s2 := 0) Qh12 (by decide +kernel) (by decide) (by decide)
        have th12_9_0 : fld h12 9 0 = fld h5 9 0 := Qh12.f (a1 := 9) (a2 := 9) (j1 := 0) (j2 := 1) (by decide +kernel) (by first | decide | exact ⟨by decide, by decide⟩) (by first | decide | exact ⟨by decide, by decide⟩) (by first | decide | exact ⟨by decide, by decide⟩)
        have th12_9_2 : fld h12 9 2 = fld h5 9 2 := Qh12.f (a1 := 9) (a2 := 9) (j1 := 2) (j2 := 3) (by decide +kernel) (by first | decide | exact ⟨by decide, by decide⟩) (by first | decide | exact ⟨by decide, by decide⟩) (by first | decide | exact ⟨by decide, by decide⟩)
        have th12_9_3 : fld h12 9 3 = fld h5 9 3 := Qh12.f (a1 := 9) (a2 := 9) (j1 := 3) (j2 := 4) (by decide +kernel) (by first | decide | exact ⟨by decide, by decide⟩) (by first | decide | exact ⟨by decide, by decide⟩) (by first | decide | exact ⟨by decide, by decide⟩)
        have th12_9_4 : fld h12 9 4 = fld h5 9 4 := Qh12.f (a1 := 9) (a2 := 9) (j1 := 4) (j2 := 5) (by decide +kernel) (by first | decide | exact ⟨by decide, by decide⟩) (by first | decide | exact ⟨by decide, by decide⟩) (by first | decide | exact ⟨by decide, by decide⟩)
        have Bh12 : rB t n h12 := Bh5.fr Qh12 (by decide +kernel)
        have th12_9_5 : fld h12 9 5 = v9 := by rw [eh12]; exact fld_wr_eq (Ch5.1.s (a1 := 9) (a2 := 9) (k := 7) (n := 9) (by decide +kernel) (by decide) (by decide)) (by decide)
        refine zwW_retv (nx := 62) (a := 0) (b := 0) (by decide +kernel) ?_
        exact ⟨Ch12, Xh12.le (by decide) (by decide), by rw [N35]; omega, by omega, by rw [show fld h12 9 5 = v9 by omega, f11, N35]; congr 1; omega⟩
      · refine zwW_p [(1, 0, 2), (1, 0, 2)] (q := 13) (ls' := [(2, 9)]) (st' := [(2, 9), (2, 9)]) (by decide +kernel) rfl ?_
        refine zwW_gs ChL1.1 (kd := 7) (bn := 2) (n := 9) (t := 0) (lo := 0) (hi := 400) (nx := 16) (by decide +kernel) ?_
        intro v13 ev13 lv13 uv13
        refine zwW_cm ChL1.1 (op := 60) (k' := 236) (n := 1) (kd := 7) (m := 9) (nx := 19) (r := 9) (tl := [(0, v13)]) (st' := []) (by decide +kernel) rfl (by decide +kernel) rfl (x236_p hL1 ChL1 v13 t n (by omega) (by omega) iL1_0) ?_
        rintro x _ ⟨rfl, ⟨rfl, c14⟩ | ⟨rfl, c14⟩⟩
        · rw [ev13] at c14
          refine zwif_eq (q := 35) (nx := 22) (by decide +kernel) (fun c15 => ?_) (fun c15 => ?_)
          · exfalso; omega
          · refine zwW_p [(1, 0, 2), (12, 0, 0)] (q := 24) (ls' := [(2, 9)]) (st' := [(2, 9), (2, 9)]) (by decide +kernel) rfl ?_
            refine zwW_gs ChL1.1 (kd := 7) (bn := 2) (n := 9) (t := 0) (lo := 0) (hi := 400) (nx := 27) (by decide +kernel) ?_
            intro v16 ev16 lv16 uv16
            refine zwW_p [(0, 1, 0)] (q := 28) (ls' := [(2, 9)]) (st' := [(0, 1), (0, v16), (2, 9)]) (by decide +kernel) rfl ?_
            refine zwW_add (nx := 29) (by decide +kernel) (by first | omega | exact ⟨by omega, by omega⟩) ?_
            refine zwW_ps ChL1.1 (kd := 7) (bn := 2) (n := 9) (lo := 0) (hi := 400) (nx := 32) (by decide +kernel) (by first | omega | exact ⟨by omega, by omega⟩) ?_
            intro h17 eh17 Ih17
            have Ch17 : CI h17 := ChL1.wc eh17 Ih17 (by decide) (by decide)
            have Qh17 : zXR [(9, 9, 2, 3)] 0 0 hL1 h17 := zXR.wc eh17 rfl ⟨by decide, by decide, Or.inl (by decide)⟩ (by first | decide | exact ⟨by decide, by decide⟩)
            have Xh17 : zXR msx237_p (0) (0) h h17 := XhL1.tr (c2 := 0) (s2 := 0) Qh17 (by decide +kernel) (by decide) (by decide)
            have th17_9_0 : fld h17 9 0 = fld hL1 9 0 := Qh17.f (a1 := 9) (a2 := 9) (j1 := 0) (j2 := 1) (by decide +kernel) (by first | decide | exact ⟨by decide, by decide⟩) (by first | decide | exact ⟨by decide, by decide⟩) (by first | decide | exact ⟨by decide, by decide⟩)
            have th17_9_3 : fld h17 9 3 = fld hL1 9 3 := Qh17.f (a1 := 9) (a2 := 9) (j1 := 3) (j2 := 4) (by decide +kernel) (by first | decide | exact ⟨by decide, by decide⟩) (by first | decide | exact ⟨by decide, by decide⟩) (by first | decide | exact ⟨by decide, by decide⟩)
            have th17_9_4 : fld h17 9 4 = fld hL1 9 4 := Qh17.f (a1 := 9) (a2 := 9) (j1 := 4) (j2 := 5) (by decide +kernel) (by first | decide | exact ⟨by decide, by decide⟩) (by first | decide | exact ⟨by decide, by decide⟩) (by first | decide | exact ⟨by decide, by decide⟩)
            have th17_9_5 : fld h17 9 5 = fld hL1 9 5 := Qh17.f (a1 := 9) (a2 := 9) (j1 := 5) (j2 := 6) (by decide +kernel) (by first | decide | exact ⟨by decide, by decide⟩) (by first | decide | exact ⟨by decide, by decide⟩) (by first | decide | exact ⟨by decide, by decide⟩)
            have Bh17 : rB t n h17 := iL1_0.fr Qh17 (by decide +kernel)
            have th17_9_2 : fld h17 9 2 = (v16 + 1) := by rw [eh17]; exact fld_wr_eq (ChL1.1.s (a1 := 9) (a2 := 9) (k := 7) (n := 9) (by decide +kernel) (by decide) (by decide)) (by decide)
            have PR : pRun pLet t n (fld h17 9 2).toNat = pRun pLet t n p := by rw [← iL1_2, show (fld h17 9 2).toNat = (fld hL1 9 2).toNat + 1 by omega]; exact (pRun_s (by omega) c14.2).symm
            refine zwW_p [(24, 0, 0)] (q := 0) (ls' := [(2, 9)]) (st' := []) (by decide +kernel) rfl ?_
            exact IHL1 ((400 - fld h17 9 2)).toNat (by omega) h17 rfl (Bh17) (by omega) (PR) Ch17 (Xh17.le (by decide) (by decide))
        · rw [ev13] at c14
          refine zwif_eq (q := 35) (nx := 22) (by decide +kernel) (fun c18 => ?_) (fun c18 => ?_)
          · have N35 : pRun pLet t n p = (fld hL1 9 2).toNat := by rw [← iL1_2]; exact pRun_e (fun z => by first | omega | exact c14 ⟨by omega, z.2⟩)
            refine zwW_p [(1, 0, 2), (0, 1, 0)] (q := 37) (ls' := [(2, 9)]) (st' := [(0, 1), (2, 9)]) (by decide +kernel) rfl ?_
            refine zwW_ps ChL1.1 (kd := 7) (bn := 4) (n := 9) (lo := -2147483648) (hi := 2147483647) (nx := 40) (by decide +kernel) (by first | decide | exact ⟨by decide, by decide⟩) ?_
            intro h19 eh19 Ih19
            have Ch19 : CI h19 := ChL1.wc eh19 Ih19 (by decide) (by decide)
            have Qh19 : zXR [(9, 9, 4, 5)] 0 0 hL1 h19 := zXR.wc eh19 rfl ⟨by decide, by decide, Or.inl (by decide)⟩ (by first | decide | exact ⟨by decide, by decide⟩)
            have Xh19 : zXR msx237_p (0) (0) h h19 := XhL1.tr (c2 := 0) (s2 := 0) Qh19 (by decide +kernel) (by decide) (by decide)
            have th19_9_0 : fld h19 9 0 = fld hL1 9 0 := Qh19.f (a1 := 9) (a2 := 9) (j1 := 0) (j2 := 1) (by decide +kernel) (by first | decide | exact ⟨by decide, by decide⟩) (by first | decide | exact ⟨by decide, by decide⟩) (by first | decide | exact ⟨by decide, by decide⟩)
            have th19_9_2 : fld h19 9 2 = fld hL1 9 2 := Qh19.f (a1 := 9) (a2 := 9) (j1 := 2) (j2 := 3) (by decide +kernel) (by first | decide | exact ⟨by decide, by decide⟩) (by first | decide | exact ⟨by decide, by decide⟩) (by first | decide | exact ⟨by decide, by decide⟩)
            have th19_9_3 : fld h19 9 3 = fld hL1 9 3 := Qh19.f (a1 := 9) (a2 := 9) (j1 := 3) (j2 := 4) (by decide +kernel) (by first | decide | exact ⟨by decide, by decide⟩) (by first | decide | exact ⟨by decide, by decide⟩) (by first | decide | exact ⟨by decide, by decide⟩)
            have th19_9_5 : fld h19 9 5 = fld hL1 9 5 := Qh19.f (a1 := 9) (a2 := 9) (j1 := 5) (j2 := 6) (by decide +kernel) (by first | decide | exact ⟨by decide, by decide⟩) (by first | decide | exact ⟨by decide, by decide⟩) (by first | decide | exact ⟨by decide, by decide⟩)
            have Bh19 : rB t n h19 := iL1_0.fr Qh19 (by decide +kernel)
            have th19_9_4 : fld h19 9 4 = 1 := by rw [eh19]; exact fld_wr_eq (ChL1.1.s (a1 := 9) (a2 := 9) (k := 7) (n := 9) (by decide +kernel) (by decide) (by decide)) (by decide)
            refine zwW_p [(1, 0, 2), (1, 0, 2), (1, 0, 2)] (q := 43) (ls' := [(2, 9)]) (st' := [(2, 9), (2, 9), (2, 9)]) (by decide +kernel) rfl ?_
            refine zwW_gs Ch19.1 (kd := 7) (bn := 3) (n := 9) (t := 0) (lo := 0) (hi := 400) (nx := 46) (by decide +kernel) ?_
            intro v20 ev20 lv20 uv20
            refine zwW_p [(1, 0, 2)] (q := 47) (ls' := [(2, 9)]) (st' := [(2, 9), (0, v20), (2, 9), (2, 9)]) (by decide +kernel) rfl ?_
            refine zwW_gs Ch19.1 (kd := 7) (bn := 2) (n := 9) (t := 0) (lo := 0) (hi := 400) (nx := 50) (by decide +kernel) ?_
            intro v21 ev21 lv21 uv21
            refine zwW_p [(1, 0, 2)] (q := 51) (ls' := [(2, 9)]) (st' := [(2, 9), (0, v21), (0, v20), (2, 9), (2, 9)]) (by decide +kernel) rfl ?_
            refine zwW_gs Ch19.1 (kd := 7) (bn := 3) (n := 9) (t := 0) (lo := 0) (hi := 400) (nx := 54) (by decide +kernel) ?_
            intro v22 ev22 lv22 uv22
            refine zwW_sub (nx := 55) (by decide +kernel) (by first | omega | exact ⟨by omega, by omega⟩) ?_
            refine zwW_cm Ch19.1 (op := 60) (k' := 260) (n := 2) (kd := 7) (m := 9) (nx := 58) (r := 9) (tl := [(0, v20), (0, (v21 - v22))]) (st' := [(2, 9)]) (by decide +kernel) rfl (by decide +kernel) rfl (x260_p h19 Ch19 v20 (v21 - v22) t n p (by omega) (by omega) Bh19 (by omega) (by have := N35; omega)) ?_
            rintro v23 _ ⟨rfl, f24, f25⟩
            refine zwW_ps Ch19.1 (kd := 7) (bn := 5) (n := 9) (lo := -2147483648) (hi := 2147483647) (nx := 61) (by decide +kernel) (by first | omega | exact ⟨by omega, by omega⟩) ?_
            intro h26 eh26 Ih26
            have Ch26 : CI h26 := Ch19.wc eh26 Ih26 (by decide) (by decide)
            have Qh26 : zXR [(9, 9, 5, 6)] 0 0 h19 h26 := zXR.wc eh26 rfl ⟨by decide, by decide, Or.inl (by decide)⟩ (by first | decide | exact ⟨by decide, by decide⟩)
            have Xh26 : zXR msx237_p (0) (0) h h26 := Xh19.tr (c2 := 0) (s2 := 0) Qh26 (by decide +kernel) (by decide) (by decide)
            have th26_9_0 : fld h26 9 0 = fld h19 9 0 := Qh26.f (a1 := 9) (a2 := 9) (j1 := 0) (j2 := 1) (by decide +kernel) (by first | decide | exact ⟨by decide, by decide⟩) (by first | decide | exact ⟨by decide, by decide⟩) (by first | decide | exact ⟨by decide, by decide⟩)
            have th26_9_2 : fld h26 9 2 = fld h19 9 2 := Qh26.f (a1 := 9) (a2 := 9) (j1 := 2) (j2 := 3) (by decide +kernel) (by first | decide | exact ⟨by decide, by decide⟩) (by first | decide | exact ⟨by decide, by decide⟩) (by first | decide | exact ⟨by decide, by decide⟩)
            have th26_9_3 : fld h26 9 3 = fld h19 9 3 := Qh26.f (a1 := 9) (a2 := 9) (j1 := 3) (j2 := 4) (by decide +kernel) (by first | decide | exact ⟨by decide, by decide⟩) (by first | decide | exact ⟨by decide, by decide⟩) (by first | decide | exact ⟨by decide, by decide⟩)
            have th26_9_4 : fld h26 9 4 = fld h19 9 4 := Qh26.f (a1 := 9) (a2 := 9) (j1 := 4) (j2 := 5) (by decide +kernel) (by first | decide | exact ⟨by decide, by decide⟩) (by first | decide | exact ⟨by decide, by decide⟩) (by first | decide | exact ⟨by decide, by decide⟩)
            have Bh26 : rB t n h26 := Bh19.fr Qh26 (by decide +kernel)
            have th26_9_5 : fld h26 9 5 = v23 := by rw [eh26]; exact fld_wr_eq (Ch19.1.s (a1 := 9) (a2 := 9) (k := 7) (n := 9) (by decide +kernel) (by decide) (by decide)) (by decide)
            refine zwW_retv (nx := 62) (a := 0) (b := 0) (by decide +kernel) ?_
            exact ⟨Ch26, Xh26.le (by decide) (by decide), by rw [N35]; omega, by omega, by rw [show fld h26 9 5 = v23 by omega, f25, N35]; congr 1; omega⟩
          · exfalso; omega
  exact L1 _ h rfl (B) (by omega) (by rw [show (fld h 9 2).toNat = p by omega]) C (X.le (by decide) (by decide))
def msx239_p : Zms := [(9, 9, 2, 3), (9, 9, 4, 5), (9, 9, 5, 6)]
-- WheelLand$Reader.takeNumber()V
theorem x239_p {sc : List Int} (h : Hp) (C : CI h) (t : pT) (n : Nat) (p : Nat) (B : rB t n h) (pn : fld h 9 2 = (p : Int)) (pp : fld h 9 3 = (p : Int)) (pl : p ≤ n) : zwC sc 2 239 [(2, 9)] h (zwRv (fun g => CI g ∧ zXR msx239_p (0) (0) h g ∧ (fld g 9 2 = ((pRun pDig t n p : Nat) : Int)) ∧ (fld g 9 4 = 2) ∧ (fld g 9 5 = pNu t (pRun pDig t n p - p) p 0))) := by
  refine zwC_of (D := 1) 1 (by decide +kernel) rfl (ls := [(2, 9)]) rfl ?_
  have X : zXR msx239_p 0 0 h h := zXR.rf _ _
  have B1 := B.1
  have B2 := B.2.1
  refine zwW_p [(1, 0, 2), (0, 2, 0)] (q := 2) (ls' := [(2, 9)]) (st' := [(0, 2), (2, 9)]) (by decide +kernel) rfl ?_
  refine zwW_ps C.1 (kd := 7) (bn := 4) (n := 9) (lo := -2147483648) (hi := 2147483647) (nx := 5) (by decide +kernel) (by first | decide | exact ⟨by decide, by decide⟩) ?_
  intro h1 eh1 Ih1
  have Ch1 : CI h1 := C.wc eh1 Ih1 (by decide) (by decide)
  have Qh1 : zXR [(9, 9, 4, 5)] 0 0 h h1 := zXR.wc eh1 rfl ⟨by decide, by decide, Or.inl (by decide)⟩ (by first | decide | exact ⟨by decide, by decide⟩)
  have Xh1 : zXR msx239_p (0) (0) h h1 := X.tr (c2 := 0) (s2 := 0) Qh1 (by decide +kernel) (by decide) (by decide)
  have th1_9_0 : fld h1 9 0 = fld h 9 0 := Qh1.f (a1 := 9) (a2 := 9) (j1 := 0) (j2 := 1) (by decide +kernel) (by first | decide | exact ⟨by decide, by decide⟩) (by first | decide | exact ⟨by decide, by decide⟩) (by first | decide | exact ⟨by decide, by decide⟩)
  have th1_9_2 : fld h1 9 2 = fld h 9 2 := Qh1.f (a1 := 9) (a2 := 9) (j1 := 2) (j2 := 3) (by decide +kernel) (by first | decide | exact ⟨by decide, by decide⟩) (by first | decide | exact ⟨by decide, by decide⟩) (by first | decide | exact ⟨by decide, by decide⟩)
  have th1_9_3 : fld h1 9 3 = fld h 9 3 := Qh1.f (a1 := 9) (a2 := 9) (j1 := 3) (j2 := 4) (by decide +kernel) (by first | decide | exact ⟨by decide, by decide⟩) (by first | decide | exact ⟨by decide, by decide⟩) (by first | decide | exact ⟨by decide, by decide⟩)
  have th1_9_5 : fld h1 9 5 = fld h 9 5 := Qh1.f (a1 := 9) (a2 := 9) (j1 := 5) (j2 := 6) (by decide +kernel) (by first | decide | exact ⟨by decide, by decide⟩) (by first | decide | exact ⟨by decide, by decide⟩) (by first | decide | exact ⟨by decide, by decide⟩)
  have Bh1 : rB t n h1 := B.fr Qh1 (by decide +kernel)
  have th1_9_4 : fld h1 9 4 = 2 := by rw [eh1]; exact fld_wr_eq (C.1.s (a1 := 9) (a2 := 9) (k := 7) (n := 9) (by decide +kernel) (by decide) (by decide)) (by decide)
  refine zwW_p [(1, 0, 2), (0, 0, 0)] (q := 7) (ls' := [(2, 9)]) (st' := [(0, 0), (2, 9)]) (by decide +kernel) rfl ?_
  refine zwW_ps Ch1.1 (kd := 7) (bn := 5) (n := 9) (lo := -2147483648) (hi := 2147483647) (nx := 10) (by decide +kernel) (by first | decide | exact ⟨by decide, by decide⟩) ?_
  intro h2 eh2 Ih2
  have Ch2 : CI h2 := Ch1.wc eh2 Ih2 (by decide) (by decide)
  have Qh2 : zXR [(9, 9, 5, 6)] 0 0 h1 h2 := zXR.wc eh2 rfl ⟨by decide, by decide, Or.inl (by decide)⟩ (by first | decide | exact ⟨by decide, by decide⟩)
  have Xh2 : zXR msx239_p (0) (0) h h2 := Xh1.tr (c2 := 0) (s2 := 0) Qh2 (by decide +kernel) (by decide) (by decide)
  have th2_9_0 : fld h2 9 0 = fld h1 9 0 := Qh2.f (a1 := 9) (a2 := 9) (j1 := 0) (j2 := 1) (by decide +kernel) (by first | decide | exact ⟨by decide, by decide⟩) (by first | decide | exact ⟨by decide, by decide⟩) (by first | decide | exact ⟨by decide, by decide⟩)
  have th2_9_2 : fld h2 9 2 = fld h1 9 2 := Qh2.f (a1 := 9) (a2 := 9) (j1 := 2) (j2 := 3) (by decide +kernel) (by first | decide | exact ⟨by decide, by decide⟩) (by first | decide | exact ⟨by decide, by decide⟩) (by first | decide | exact ⟨by decide, by decide⟩)
  have th2_9_3 : fld h2 9 3 = fld h1 9 3 := Qh2.f (a1 := 9) (a2 := 9) (j1 := 3) (j2 := 4) (by decide +kernel) (by first | decide | exact ⟨by decide, by decide⟩) (by first | decide | exact ⟨by decide, by decide⟩) (by first | decide | exact ⟨by decide, by decide⟩)
  have th2_9_4 : fld h2 9 4 = fld h1 9 4 := Qh2.f (a1 := 9) (a2 := 9) (j1 := 4) (j2 := 5) (by decide +kernel) (by first | decide | exact ⟨by decide, by decide⟩) (by first | decide | exact ⟨by decide, by decide⟩) (by first | decide | exact ⟨by decide, by decide⟩)
  have Bh2 : rB t n h2 := Bh1.fr Qh2 (by decide +kernel)
  have th2_9_5 : fld h2 9 5 = 0 := by rw [eh2]; exact fld_wr_eq (Ch1.1.s (a1 := 9) (a2 := 9) (k := 7) (n := 9) (by decide +kernel) (by decide) (by decide)) (by decide)
  have L3 : ∀ (n0 : Nat) (hL3 : Hp), n0 = ((400 - fld hL3 9 2)).toNat → (rB t n hL3) → (p ≤ fld hL3 9 2 ∧ fld hL3 9 2 ≤ n ∧ fld hL3 9 3 = p ∧ fld hL3 9 4 = 2 ∧ 0 ≤ fld hL3 9 5 ∧ fld hL3 9 5 ≤ 10000) → (pRun pDig t n (fld hL3 9 2).toNat = pRun pDig t n p) → (fld hL3 9 5 = pNu t ((fld hL3 9 2).toNat - p) p 0) → CI hL3 → zXR msx239_p (0) (0) h hL3 → zwW sc (1) 239 10 [(2, 9)] [] hL3 (zwRv (fun g => CI g ∧ zXR msx239_p (0) (0) h g ∧ (fld g 9 2 = ((pRun pDig t n p : Nat) : Int)) ∧ (fld g 9 4 = 2) ∧ (fld g 9 5 = pNu t (pRun pDig t n p - p) p 0))) := by
    intro n0
    induction n0 using Nat.strongRecOn with
    | ind n0 IHL3 =>
      intro hL3 hnL3 iL3_0 iL3_1 iL3_2 iL3_3 ChL3 XhL3
      have BL := iL3_0.1
      refine zwW_p [(1, 0, 2)] (q := 11) (ls' := [(2, 9)]) (st' := [(2, 9)]) (by decide +kernel) rfl ?_
      refine zwW_gs ChL3.1 (kd := 7) (bn := 2) (n := 9) (t := 0) (lo := 0) (hi := 400) (nx := 14) (by decide +kernel) ?_
      intro v4 ev4 lv4 uv4
      refine zwW_p [(1, 0, 2)] (q := 15) (ls' := [(2, 9)]) (st' := [(2, 9), (0, v4)]) (by decide +kernel) rfl ?_
      refine zwW_gs ChL3.1 (kd := 7) (bn := 0) (n := 9) (t := 0) (lo := 0) (hi := 400) (nx := 18) (by decide +kernel) ?_
      intro v5 ev5 lv5 uv5
      refine zwic_ge (q := 75) (nx := 21) (by decide +kernel) (fun c6 => ?_) (fun c6 => ?_)
      · have N75 : pRun pDig t n p = (fld hL3 9 2).toNat := by rw [← iL3_2]; exact pRun_e (fun z => by first | omega | exact trivial ⟨by omega, z.2⟩)
        refine zwW_retv (nx := 76) (a := 0) (b := 0) (by decide +kernel) ?_
        exact ⟨ChL3, XhL3.le (by decide) (by decide), by rw [N75]; omega, by omega, by rw [N75]; exact iL3_3⟩
      · refine zwW_p [(1, 0, 2), (1, 0, 2)] (q := 23) (ls' := [(2, 9)]) (st' := [(2, 9), (2, 9)]) (by decide +kernel) rfl ?_
        refine zwW_gs ChL3.1 (kd := 7) (bn := 2) (n := 9) (t := 0) (lo := 0) (hi := 400) (nx := 26) (by decide +kernel) ?_
        intro v7 ev7 lv7 uv7
        refine zwW_cm ChL3.1 (op := 60) (k' := 238) (n := 1) (kd := 7) (m := 9) (nx := 29) (r := 9) (tl := [(0, v7)]) (st' := []) (by decide +kernel) rfl (by decide +kernel) rfl (x238_p hL3 ChL3 v7 t n (by omega) (by omega) iL3_0) ?_
        rintro x _ ⟨rfl, ⟨rfl, c8⟩ | ⟨rfl, c8⟩⟩
        · rw [ev7] at c8
          refine zwif_eq (q := 75) (nx := 32) (by decide +kernel) (fun c9 => ?_) (fun c9 => ?_)
          · exfalso; omega
          · refine zwW_p [(1, 0, 2), (1, 0, 2)] (q := 34) (ls' := [(2, 9)]) (st' := [(2, 9), (2, 9)]) (by decide +kernel) rfl ?_
            refine zwW_gs ChL3.1 (kd := 7) (bn := 5) (n := 9) (t := 0) (lo := -2147483648) (hi := 2147483647) (nx := 37) (by decide +kernel) ?_
            intro v10 ev10 lv10 uv10
            refine zwW_p [(0, 10, 0)] (q := 39) (ls' := [(2, 9)]) (st' := [(0, 10), (0, v10), (2, 9)]) (by decide +kernel) rfl ?_
            refine zwW_mul (nx := 40) (by decide +kernel) (by first | omega | exact ⟨by omega, by omega⟩) ?_
            refine zwW_p [(1, 0, 2)] (q := 41) (ls' := [(2, 9)]) (st' := [(2, 9), (0, (v10 * 10)), (2, 9)]) (by decide +kernel) rfl ?_
            refine zwW_gc ChL3.1 (kd := 7) (bn := 1) (n := 9) (c := 10) (nx := 44) (by decide +kernel) ?_
            refine zwW_p [(1, 0, 2)] (q := 45) (ls' := [(2, 9)]) (st' := [(2, 9), (2, 10), (0, (v10 * 10)), (2, 9)]) (by decide +kernel) rfl ?_
            refine zwW_gs ChL3.1 (kd := 7) (bn := 2) (n := 9) (t := 0) (lo := 0) (hi := 400) (nx := 48) (by decide +kernel) ?_
            intro v11 ev11 lv11 uv11
            have ib1 : 0 ≤ v11 ∧ v11 < ((400 : Nat) : Int) := (by first | omega | exact ⟨by omega, by omega⟩)
            refine zwW_al ChL3.1 (a1 := 10) (a2 := 10) (kd := 20) (n := 400) (t := 0) (lo := -2147483648) (hi := 2147483647) (nx := 49) (by decide +kernel) (by first | decide | exact ⟨by decide, by decide⟩) ib1 ?_
            intro v12 ev12 lv12 uv12
            have E49 : v12 = fld hL3 10 (fld hL3 9 2).toNat := by rw [ev12]; congr 1; omega
            have D49 := (iL3_0.dig (i := (fld hL3 9 2).toNat) (by omega)).mp c8.2
            have L49 := iL3_0.bl (i := (fld hL3 9 2).toNat) (by omega)
            refine zwW_add (nx := 50) (by decide +kernel) (by first | omega | exact ⟨by omega, by omega⟩) ?_
            refine zwW_p [(0, 48, 0)] (q := 52) (ls' := [(2, 9)]) (st' := [(0, 48), (0, ((v10 * 10) + v12)), (2, 9)]) (by decide +kernel) rfl ?_
            refine zwW_sub (nx := 53) (by decide +kernel) (by first | omega | exact ⟨by omega, by omega⟩) ?_
            refine zwW_p [(0, 10000, 0)] (q := 56) (ls' := [(2, 9)]) (st' := [(0, 10000), (0, (((v10 * 10) + v12) - 48)), (2, 9)]) (by decide +kernel) rfl ?_
            refine zwW_min (nx := 59) (by decide +kernel) rfl ?_
            intro v13 ev13
            refine zwW_ps ChL3.1 (kd := 7) (bn := 5) (n := 9) (lo := -2147483648) (hi := 2147483647) (nx := 62) (by decide +kernel) (by first | omega | exact ⟨by omega, by omega⟩) ?_
            intro h14 eh14 Ih14
            have Ch14 : CI h14 := ChL3.wc eh14 Ih14 (by decide) (by decide)
            have Qh14 : zXR [(9, 9, 5, 6)] 0 0 hL3 h14 := zXR.wc eh14 rfl ⟨by decide, by decide, Or.inl (by decide)⟩ (by first | decide | exact ⟨by decide, by decide⟩)
            have Xh14 : zXR msx239_p (0) (0) h h14 := XhL3.tr (c2 := 0) (s2 := 0) Qh14 (by decide +kernel) (by decide) (by decide)
            have th14_9_0 : fld h14 9 0 = fld hL3 9 0 := Qh14.f (a1 := 9) (a2 := 9) (j1 := 0) (j2 := 1) (by decide +kernel) (by first | decide | exact ⟨by decide, by decide⟩) (by first | decide | exact ⟨by decide, by decide⟩) (by first | decide | exact ⟨by decide, by decide⟩)
            have th14_9_2 : fld h14 9 2 = fld hL3 9 2 := Qh14.f (a1 := 9) (a2 := 9) (j1 := 2) (j2 := 3) (by decide +kernel) (by first | decide | exact ⟨by decide, by decide⟩) (by first | decide | exact ⟨by decide, by decide⟩) (by first | decide | exact ⟨by decide, by decide⟩)
            have th14_9_3 : fld h14 9 3 = fld hL3 9 3 := Qh14.f (a1 := 9) (a2 := 9) (j1 := 3) (j2 := 4) (by decide +kernel) (by first | decide | exact ⟨by decide, by decide⟩) (by first | decide | exact ⟨by decide, by decide⟩) (by first | decide | exact ⟨by decide, by decide⟩)
            have th14_9_4 : fld h14 9 4 = fld hL3 9 4 := Qh14.f (a1 := 9) (a2 := 9) (j1 := 4) (j2 := 5) (by decide +kernel) (by first | decide | exact ⟨by decide, by decide⟩) (by first | decide | exact ⟨by decide, by decide⟩) (by first | decide | exact ⟨by decide, by decide⟩)
            have Bh14 : rB t n h14 := iL3_0.fr Qh14 (by decide +kernel)
            have th14_9_5 : fld h14 9 5 = v13 := by rw [eh14]; exact fld_wr_eq (ChL3.1.s (a1 := 9) (a2 := 9) (k := 7) (n := 9) (by decide +kernel) (by decide) (by decide)) (by decide)
            refine zwW_p [(1, 0, 2), (12, 0, 0)] (q := 64) (ls' := [(2, 9)]) (st' := [(2, 9), (2, 9)]) (by decide +kernel) rfl ?_
            refine zwW_gs Ch14.1 (kd := 7) (bn := 2) (n := 9) (t := 0) (lo := 0) (hi := 400) (nx := 67) (by decide +kernel) ?_
            intro v15 ev15 lv15 uv15
            refine zwW_p [(0, 1, 0)] (q := 68) (ls' := [(2, 9)]) (st' := [(0, 1), (0, v15), (2, 9)]) (by decide +kernel) rfl ?_
            refine zwW_add (nx := 69) (by decide +kernel) (by first | omega | exact ⟨by omega, by omega⟩) ?_
            refine zwW_ps Ch14.1 (kd := 7) (bn := 2) (n := 9) (lo := 0) (hi := 400) (nx := 72) (by decide +kernel) (by first | omega | exact ⟨by omega, by omega⟩) ?_
            intro h16 eh16 Ih16
            have Ch16 : CI h16 := Ch14.wc eh16 Ih16 (by decide) (by decide)
            have Qh16 : zXR [(9, 9, 2, 3)] 0 0 h14 h16 := zXR.wc eh16 rfl ⟨by decide, by decide, Or.inl (by decide)⟩ (by first | decide | exact ⟨by decide, by decide⟩)
            have Xh16 : zXR msx239_p (0) (0) h h16 := Xh14.tr (c2 := 0) (s2 := 0) Qh16 (by decide +kernel) (by decide) (by decide)
            have th16_9_0 : fld h16 9 0 = fld h14 9 0 := Qh16.f (a1 := 9) (a2 := 9) (j1 := 0) (j2 := 1) (by decide +kernel) (by first | decide | exact ⟨by decide, by decide⟩) (by first | decide | exact ⟨by decide, by decide⟩) (by first | decide | exact ⟨by decide, by decide⟩)
            have th16_9_3 : fld h16 9 3 = fld h14 9 3 := Qh16.f (a1 := 9) (a2 := 9) (j1 := 3) (j2 := 4) (by decide +kernel) (by first | decide | exact ⟨by decide, by decide⟩) (by first | decide | exact ⟨by decide, by decide⟩) (by first | decide | exact ⟨by decide, by decide⟩)
            have th16_9_4 : fld h16 9 4 = fld h14 9 4 := Qh16.f (a1 := 9) (a2 := 9) (j1 := 4) (j2 := 5) (by decide +kernel) (by first | decide | exact ⟨by decide, by decide⟩) (by first | decide | exact ⟨by decide, by decide⟩) (by first | decide | exact ⟨by decide, by decide⟩)
            have th16_9_5 : fld h16 9 5 = fld h14 9 5 := Qh16.f (a1 := 9) (a2 := 9) (j1 := 5) (j2 := 6) (by decide +kernel) (by first | decide | exact ⟨by decide, by decide⟩) (by first | decide | exact ⟨by decide, by decide⟩) (by first | decide | exact ⟨by decide, by decide⟩)
            have Bh16 : rB t n h16 := Bh14.fr Qh16 (by decide +kernel)
            have th16_9_2 : fld h16 9 2 = (v15 + 1) := by rw [eh16]; exact fld_wr_eq (Ch14.1.s (a1 := 9) (a2 := 9) (k := 7) (n := 9) (by decide +kernel) (by decide) (by decide)) (by decide)
            have PR : pRun pDig t n (fld h16 9 2).toNat = pRun pDig t n p := by rw [← iL3_2, show (fld h16 9 2).toNat = (fld hL3 9 2).toNat + 1 by omega]; exact (pRun_s (by omega) c8.2).symm
            have PN : fld h16 9 5 = pNu t ((fld h16 9 2).toNat - p) p 0 := by rw [show (fld h16 9 2).toNat - p = ((fld hL3 9 2).toNat - p) + 1 by omega, pNu_s, ← iL3_3, show p + ((fld hL3 9 2).toNat - p) = (fld hL3 9 2).toNat by omega]; omega
            refine zwW_p [(24, 10, 0)] (q := 10) (ls' := [(2, 9)]) (st' := []) (by decide +kernel) rfl ?_
            exact IHL3 ((400 - fld h16 9 2)).toNat (by omega) h16 rfl (Bh16) (by omega) (PR) (PN) Ch16 (Xh16.le (by decide) (by decide))
        · rw [ev7] at c8
          refine zwif_eq (q := 75) (nx := 32) (by decide +kernel) (fun c17 => ?_) (fun c17 => ?_)
          · have N75 : pRun pDig t n p = (fld hL3 9 2).toNat := by rw [← iL3_2]; exact pRun_e (fun z => by first | omega | exact c8 ⟨by omega, z.2⟩)
            refine zwW_retv (nx := 76) (a := 0) (b := 0) (by decide +kernel) ?_
            exact ⟨ChL3, XhL3.le (by decide) (by decide), by rw [N75]; omega, by omega, by rw [N75]; exact iL3_3⟩
          · exfalso; omega
  exact L3 _ h2 rfl (Bh2) (by omega) (by rw [show (fld h2 9 2).toNat = p by omega]) (by rw [show (fld h2 9 2).toNat - p = 0 by omega]; show fld h2 9 5 = 0; omega) Ch2 (Xh2.le (by decide) (by decide))
-- WheelLand$Reader.isWord(I)Z
theorem x264_p {sc : List Int} (h : Hp) (C : CI h) (a : Int) (t : pT) (n : Nat) (p : Nat) (q_a : -2147483648 ≤ a ∧ a ≤ 2147483647) (K : rTok t n h p) : zwC sc 1 264 [(2, 9), (0, a)] h (zwRt 0 (fun x g => h = g ∧ ((x = 1 ∧ (pK t n p = 1 ∧ pV t n p = a)) ∨ (x = 0 ∧ (¬ (pK t n p = 1 ∧ pV t n p = a)))))) := by
  refine zwC_of (D := 0) 2 (by decide +kernel) rfl (ls := [(2, 9), (0, a)]) rfl ?_
  have K4 := K.2.2.2.1
  refine zwW_p [(1, 0, 2)] (q := 1) (ls' := [(2, 9), (0, a)]) (st' := [(2, 9)]) (by decide +kernel) rfl ?_
  refine zwW_gs C.1 (kd := 7) (bn := 4) (n := 9) (t := 0) (lo := -2147483648) (hi := 2147483647) (nx := 4) (by decide +kernel) ?_
  intro v1 ev1 lv1 uv1
  refine zwW_p [(0, 1, 0)] (q := 5) (ls' := [(2, 9), (0, a)]) (st' := [(0, 1), (0, v1)]) (by decide +kernel) rfl ?_
  refine zwic_ne (q := 20) (nx := 8) (by decide +kernel) (fun c2 => ?_) (fun c2 => ?_)
  · refine zwW_p [(0, 0, 0)] (q := 21) (ls' := [(2, 9), (0, a)]) (st' := [(0, 0)]) (by decide +kernel) rfl ?_
    refine zwW_ret (nx := 22) (a := 1) (b := 0) (by decide +kernel) rfl (Or.inr (Or.inl ⟨rfl, Or.inl rfl⟩)) ?_
    exact ⟨rfl, Or.inr ⟨rfl, by rintro ⟨z1, z2⟩; have z := K.2.2.2.2 (Or.inl z1); omega⟩⟩
  · refine zwW_p [(1, 0, 2)] (q := 9) (ls' := [(2, 9), (0, a)]) (st' := [(2, 9)]) (by decide +kernel) rfl ?_
    refine zwW_gs C.1 (kd := 7) (bn := 5) (n := 9) (t := 0) (lo := -2147483648) (hi := 2147483647) (nx := 12) (by decide +kernel) ?_
    intro v3 ev3 lv3 uv3
    refine zwW_p [(1, 1, 0)] (q := 13) (ls' := [(2, 9), (0, a)]) (st' := [(0, a), (0, v3)]) (by decide +kernel) rfl ?_
    refine zwic_ne (q := 20) (nx := 16) (by decide +kernel) (fun c4 => ?_) (fun c4 => ?_)
    · refine zwW_p [(0, 0, 0)] (q := 21) (ls' := [(2, 9), (0, a)]) (st' := [(0, 0)]) (by decide +kernel) rfl ?_
      refine zwW_ret (nx := 22) (a := 1) (b := 0) (by decide +kernel) rfl (Or.inr (Or.inl ⟨rfl, Or.inl rfl⟩)) ?_
      exact ⟨rfl, Or.inr ⟨rfl, by rintro ⟨z1, z2⟩; have z := K.2.2.2.2 (Or.inl z1); omega⟩⟩
    · refine zwW_p [(0, 1, 0), (24, 21, 0)] (q := 21) (ls' := [(2, 9), (0, a)]) (st' := [(0, 1)]) (by decide +kernel) rfl ?_
      refine zwW_ret (nx := 22) (a := 1) (b := 0) (by decide +kernel) rfl (Or.inr (Or.inl ⟨rfl, Or.inr rfl⟩)) ?_
      exact ⟨rfl, Or.inl ⟨rfl, by exact ⟨by omega, by have z := K.2.2.2.2 (Or.inl (by omega)); omega⟩⟩⟩
def msx243_q : Zms := [(9, 9, 6, 7), (11, 11, 0, 400)]
-- WheelLand$Reader.write(I)Z
theorem x243_q {sc : List Int} (h : Hp) (C : CI h) (a : Int) (t : pT) (n : Nat) (s : pQ) (q_a : -2147483648 ≤ a ∧ a ≤ 2147483647) (Q0 : rQ t n h s) (pw : fld h 9 6 < 400) : zwC sc 1 243 [(2, 9), (0, a)] h (zwRt 0 (fun x g => CI g ∧ zXR msx243_q (0) (0) h g ∧ x = 1 ∧ (rQ t n g (pW a s)))) := by
  refine zwC_of (D := 0) 2 (by decide +kernel) rfl (ls := [(2, 9), (0, a)]) rfl ?_
  have X : zXR msx243_q 0 0 h h := zXR.rf _ _
  refine zwW_p [(1, 0, 2)] (q := 1) (ls' := [(2, 9), (0, a)]) (st' := [(2, 9)]) (by decide +kernel) rfl ?_
  refine zwW_gs C.1 (kd := 7) (bn := 6) (n := 9) (t := 0) (lo := 0) (hi := 400) (nx := 4) (by decide +kernel) ?_
  intro v1 ev1 lv1 uv1
  refine zwW_p [(1, 0, 2)] (q := 5) (ls' := [(2, 9), (0, a)]) (st' := [(2, 9), (0, v1)]) (by decide +kernel) rfl ?_
  refine zwW_gc C.1 (kd := 7) (bn := 7) (n := 9) (c := 11) (nx := 8) (by decide +kernel) ?_
  refine zwW_len (kd := 20) (n := 400) (nx := 9) (by decide +kernel) (C.1.s (a1 := 11) (a2 := 11) (by decide +kernel) (by omega) (by omega)) rfl ?_
  refine zwic_lt (q := 14) (nx := 12) (by decide +kernel) (fun c2 => ?_) (fun c2 => ?_)
  · refine zwW_p [(1, 0, 2)] (q := 15) (ls' := [(2, 9), (0, a)]) (st' := [(2, 9)]) (by decide +kernel) rfl ?_
    refine zwW_gc C.1 (kd := 7) (bn := 7) (n := 9) (c := 11) (nx := 18) (by decide +kernel) ?_
    refine zwW_p [(1, 0, 2)] (q := 19) (ls' := [(2, 9), (0, a)]) (st' := [(2, 9), (2, 11)]) (by decide +kernel) rfl ?_
    refine zwW_gs C.1 (kd := 7) (bn := 6) (n := 9) (t := 0) (lo := 0) (hi := 400) (nx := 22) (by decide +kernel) ?_
    intro v3 ev3 lv3 uv3
    refine zwW_p [(1, 1, 0)] (q := 23) (ls' := [(2, 9), (0, a)]) (st' := [(0, a), (0, v3), (2, 11)]) (by decide +kernel) rfl ?_
    have ib1 : 0 ≤ v3 ∧ v3 < ((400 : Nat) : Int) := (by first | omega | exact ⟨by omega, by omega⟩)
    refine zwW_as C.1 (a1 := 11) (a2 := 11) (n := 400) (lo := -2147483648) (hi := 2147483647) (nx := 24) (by decide +kernel) (by first | decide | exact ⟨by decide, by decide⟩) ib1 (by first | omega | exact ⟨by omega, by omega⟩) ?_
    intro h4 eh4 Ih4
    have Ch4 : CI h4 := C.wc eh4 Ih4 (by decide) (by decide)
    have Qh4 : zXR [(11, 11, 0, 400)] 0 0 h h4 := zXR.wc eh4 rfl ⟨by decide, by decide, Or.inl (by decide)⟩ (by first | omega | exact ⟨by omega, by omega⟩)
    have kh4_11 : fld h4 11 = (zu (fld h 11) v3.toNat a) := by rw [fld_zu (C.1.s (a1 := 11) (a2 := 11) (k := 20) (n := 400) (by decide +kernel) (by decide) (by decide)) (by omega) eh4]
    have Xh4 : zXR msx243_q (0) (0) h h4 := X.tr (c2 := 0) (s2 := 0) Qh4 (by decide +kernel) (by decide) (by decide)
    have th4_9_6 : fld h4 9 6 = fld h 9 6 := Qh4.f (a1 := 9) (a2 := 9) (j1 := 6) (j2 := 7) (by decide +kernel) (by first | decide | exact ⟨by decide, by decide⟩) (by first | decide | exact ⟨by decide, by decide⟩) (by first | decide | exact ⟨by decide, by decide⟩)
    refine zwW_p [(1, 0, 2), (12, 0, 0)] (q := 26) (ls' := [(2, 9), (0, a)]) (st' := [(2, 9), (2, 9)]) (by decide +kernel) rfl ?_
    refine zwW_gs Ch4.1 (kd := 7) (bn := 6) (n := 9) (t := 0) (lo := 0) (hi := 400) (nx := 29) (by decide +kernel) ?_
    intro v5 ev5 lv5 uv5
    refine zwW_p [(0, 1, 0)] (q := 30) (ls' := [(2, 9), (0, a)]) (st' := [(0, 1), (0, v5), (2, 9)]) (by decide +kernel) rfl ?_
    refine zwW_add (nx := 31) (by decide +kernel) (by first | omega | exact ⟨by omega, by omega⟩) ?_
    refine zwW_ps Ch4.1 (kd := 7) (bn := 6) (n := 9) (lo := 0) (hi := 400) (nx := 34) (by decide +kernel) (by first | omega | exact ⟨by omega, by omega⟩) ?_
    intro h6 eh6 Ih6
    have Ch6 : CI h6 := Ch4.wc eh6 Ih6 (by decide) (by decide)
    have Qh6 : zXR [(9, 9, 6, 7)] 0 0 h4 h6 := zXR.wc eh6 rfl ⟨by decide, by decide, Or.inl (by decide)⟩ (by first | decide | exact ⟨by decide, by decide⟩)
    have Xh6 : zXR msx243_q (0) (0) h h6 := Xh4.tr (c2 := 0) (s2 := 0) Qh6 (by decide +kernel) (by decide) (by decide)
    have kh6_11 : fld h6 11 = (zu (fld h 11) v3.toNat a) := (Qh6.fa (a := 11) (by decide +kernel) (by decide)).trans kh4_11
    have th6_9_6 : fld h6 9 6 = (v5 + 1) := by rw [eh6]; exact fld_wr_eq (Ch4.1.s (a1 := 9) (a2 := 9) (k := 7) (n := 9) (by decide +kernel) (by decide) (by decide)) (by decide)
    refine zwW_p [(0, 1, 0)] (q := 35) (ls' := [(2, 9), (0, a)]) (st' := [(0, 1)]) (by decide +kernel) rfl ?_
    refine zwW_ret (nx := 36) (a := 1) (b := 0) (by decide +kernel) rfl (Or.inr (Or.inl ⟨rfl, Or.inr rfl⟩)) ?_
    exact ⟨Ch6, Xh6.le (by decide) (by decide), rfl, by first | exact Q0.wt Xh6 (by decide +kernel) kh6_11 (by omega) (by omega) | (exfalso; omega)⟩
  · exfalso; omega
end
section
/-! contracts of the class -/
-- WheelLand$Reader.advance()Z
set_option maxHeartbeats 6000000 in
theorem x198_ps {sc : List Int} (h : Hp) (C : CI h) (t : pT) (n p : Nat) (B : rB t n h) (pp : fld h 9 3 = (p : Int)) (pn : fld h 9 2 = (p : Int)) (pl : p < n) (NL : ¬ pLet (t p) = true) (ND : ¬ pDig (t p) = true) : zwW sc 7 198 115 [(2, 9)] [] h (zwRt 0 (fun x g => CI g ∧ zXR msxA9 (0) (0) h g ∧ x = 1 ∧ rTok t n g p)) := by
  have X : zXR msxA9 0 0 h h := zXR.rf _ _
  have B1 := B.1
  have B2 := B.2.1
  refine zwW_p [(1, 0, 2), (0, -11, 2), (1, 0, 2)] (q := 119) (ls' := [(2, 9)]) (st' := [(2, 9), (2, -11), (2, 9)]) (by decide +kernel) rfl ?_
  refine zwW_gc C.1 (kd := 7) (bn := 1) (n := 9) (c := 10) (nx := 122) (by decide +kernel) ?_
  refine zwW_p [(1, 0, 2)] (q := 123) (ls' := [(2, 9)]) (st' := [(2, 9), (2, 10), (2, -11), (2, 9)]) (by decide +kernel) rfl ?_
  refine zwW_gs C.1 (kd := 7) (bn := 2) (n := 9) (t := 0) (lo := 0) (hi := 400) (nx := 126) (by decide +kernel) ?_
  intro v1 ev1 lv1 uv1
  have ib1 : 0 ≤ v1 ∧ v1 < ((400 : Nat) : Int) := (by first | omega | exact ⟨by omega, by omega⟩)
  refine zwW_al C.1 (a1 := 10) (a2 := 10) (kd := 20) (n := 400) (t := 0) (lo := -2147483648) (hi := 2147483647) (nx := 127) (by decide +kernel) (by first | decide | exact ⟨by decide, by decide⟩) ib1 ?_
  intro v2 ev2 lv2 uv2
  have E127 : v2 = fld h 10 p := by rw [ev2]; congr 1; omega
  have L127 := B.bl (i := p) (by omega)
  refine zwW_i2c (nx := 128) (by decide +kernel) ?_
  refine zwW_cst (op := 60) (k' := 240) (n := 1) (nx := 131) (w := -11) (tl := [(0, (v2 % 65536))]) (st' := [(2, 9)]) (by decide +kernel) rfl (by decide +kernel) (by first | omega | exact ⟨by omega, by omega⟩) rfl (m240_p h (-11) (v2 % 65536) (by omega) (by omega) (by omega)) ?_
  rintro v3 _ ⟨rfl, f4, f5, f6⟩
  have T131 : t p = i_byt (v2 % 65536) := by rw [(B.2.2 p (by omega)).2]; congr 1; omega
  have SG : (0 ≤ v3 → pSig (t p) = true) ∧ (v3 < 0 → ¬ pSig (t p) = true) := by rw [rSg, T131]; rcases f6 with ⟨f1, f2⟩ | ⟨f1, f2, f3⟩ <;> first | exact ⟨fun z => by omega, fun _ => fun ⟨i, i1, i2⟩ => f2 i (by omega) i2⟩ | exact ⟨fun _ => ⟨(v3).toNat, by omega, f3⟩, fun z => by omega⟩
  refine zwif_lt (q := 146) (nx := 134) (by decide +kernel) (fun c7 => ?_) (fun c7 => ?_)
  · refine zwW_p [(0, 3, 0)] (q := 147) (ls' := [(2, 9)]) (st' := [(0, 3), (2, 9)]) (by decide +kernel) rfl ?_
    have E147 : 3 = (if pSig (t p) = true then t p else 3) := by first | (rw [if_pos (SG.1 (by omega))]; exact E143) | (rw [if_neg (SG.2 (by omega))])
    refine zwW_ps C.1 (kd := 7) (bn := 4) (n := 9) (lo := -2147483648) (hi := 2147483647) (nx := 150) (by decide +kernel) (by first | decide | exact ⟨by decide, by decide⟩) ?_
    intro h8 eh8 Ih8
    have Ch8 : CI h8 := C.wc eh8 Ih8 (by decide) (by decide)
    have Qh8 : zXR [(9, 9, 4, 5)] 0 0 h h8 := zXR.wc eh8 rfl ⟨by decide, by decide, Or.inl (by decide)⟩ (by first | decide | exact ⟨by decide, by decide⟩)
    have Xh8 : zXR msxA9 (0) (0) h h8 := X.tr (c2 := 0) (s2 := 0) Qh8 (by decide +kernel) (by decide) (by decide)
    have th8_9_0 : fld h8 9 0 = fld h 9 0 := Qh8.f (a1 := 9) (a2 := 9) (j1 := 0) (j2 := 1) (by decide +kernel) (by first | decide | exact ⟨by decide, by decide⟩) (by first | decide | exact ⟨by decide, by decide⟩) (by first | decide | exact ⟨by decide, by decide⟩)
    have th8_9_2 : fld h8 9 2 = fld h 9 2 := Qh8.f (a1 := 9) (a2 := 9) (j1 := 2) (j2 := 3) (by decide +kernel) (by first | decide | exact ⟨by decide, by decide⟩) (by first | decide | exact ⟨by decide, by decide⟩) (by first | decide | exact ⟨by decide, by decide⟩)
    have th8_9_3 : fld h8 9 3 = fld h 9 3 := Qh8.f (a1 := 9) (a2 := 9) (j1 := 3) (j2 := 4) (by decide +kernel) (by first | decide | exact ⟨by decide, by decide⟩) (by first | decide | exact ⟨by decide, by decide⟩) (by first | decide | exact ⟨by decide, by decide⟩)
    have th8_9_5 : fld h8 9 5 = fld h 9 5 := Qh8.f (a1 := 9) (a2 := 9) (j1 := 5) (j2 := 6) (by decide +kernel) (by first | decide | exact ⟨by decide, by decide⟩) (by first | decide | exact ⟨by decide, by decide⟩) (by first | decide | exact ⟨by decide, by decide⟩)
    have Bh8 : rB t n h8 := B.fr Qh8 (by decide +kernel)
    have th8_9_4 : fld h8 9 4 = 3 := by rw [eh8]; exact fld_wr_eq (C.1.s (a1 := 9) (a2 := 9) (k := 7) (n := 9) (by decide +kernel) (by decide) (by decide)) (by decide)
    refine zwW_p [(1, 0, 2), (12, 0, 0)] (q := 152) (ls' := [(2, 9)]) (st' := [(2, 9), (2, 9)]) (by decide +kernel) rfl ?_
    refine zwW_gs Ch8.1 (kd := 7) (bn := 2) (n := 9) (t := 0) (lo := 0) (hi := 400) (nx := 155) (by decide +kernel) ?_
    intro v9 ev9 lv9 uv9
    refine zwW_p [(0, 1, 0)] (q := 156) (ls' := [(2, 9)]) (st' := [(0, 1), (0, v9), (2, 9)]) (by decide +kernel) rfl ?_
    refine zwW_add (nx := 157) (by decide +kernel) (by first | omega | exact ⟨by omega, by omega⟩) ?_
    refine zwW_ps Ch8.1 (kd := 7) (bn := 2) (n := 9) (lo := 0) (hi := 400) (nx := 160) (by decide +kernel) (by first | omega | exact ⟨by omega, by omega⟩) ?_
    intro h10 eh10 Ih10
    have Ch10 : CI h10 := Ch8.wc eh10 Ih10 (by decide) (by decide)
    have Qh10 : zXR [(9, 9, 2, 3)] 0 0 h8 h10 := zXR.wc eh10 rfl ⟨by decide, by decide, Or.inl (by decide)⟩ (by first | decide | exact ⟨by decide, by decide⟩)
    have Xh10 : zXR msxA9 (0) (0) h h10 := Xh8.tr (c2 := 0) (s2 := 0) Qh10 (by decide +kernel) (by decide) (by decide)
    have th10_9_0 : fld h10 9 0 = fld h8 9 0 := Qh10.f (a1 := 9) (a2 := 9) (j1 := 0) (j2 := 1) (by decide +kernel) (by first | decide | exact ⟨by decide, by decide⟩) (by first | decide | exact ⟨by decide, by decide⟩) (by first | decide | exact ⟨by decide, by decide⟩)
    have th10_9_3 : fld h10 9 3 = fld h8 9 3 := Qh10.f (a1 := 9) (a2 := 9) (j1 := 3) (j2 := 4) (by decide +kernel) (by first | decide | exact ⟨by decide, by decide⟩) (by first | decide | exact ⟨by decide, by decide⟩) (by first | decide | exact ⟨by decide, by decide⟩)
    have th10_9_4 : fld h10 9 4 = fld h8 9 4 := Qh10.f (a1 := 9) (a2 := 9) (j1 := 4) (j2 := 5) (by decide +kernel) (by first | decide | exact ⟨by decide, by decide⟩) (by first | decide | exact ⟨by decide, by decide⟩) (by first | decide | exact ⟨by decide, by decide⟩)
    have th10_9_5 : fld h10 9 5 = fld h8 9 5 := Qh10.f (a1 := 9) (a2 := 9) (j1 := 5) (j2 := 6) (by decide +kernel) (by first | decide | exact ⟨by decide, by decide⟩) (by first | decide | exact ⟨by decide, by decide⟩) (by first | decide | exact ⟨by decide, by decide⟩)
    have Bh10 : rB t n h10 := Bh8.fr Qh10 (by decide +kernel)
    have th10_9_2 : fld h10 9 2 = (v9 + 1) := by rw [eh10]; exact fld_wr_eq (Ch8.1.s (a1 := 9) (a2 := 9) (k := 7) (n := 9) (by decide +kernel) (by decide) (by decide)) (by decide)
    have P3 : fld h10 9 3 = ((p : Nat) : Int) := by omega
    have P2 : fld h10 9 2 = ((p : Nat) : Int) + 1 := by omega
    have P4 : fld h10 9 4 = 3 := by omega
    have TK : rTok t n h10 p := rTok_s P3 pl NL ND P2 (P4.trans E147)
    refine zwW_p [(0, 1, 0)] (q := 161) (ls' := [(2, 9)]) (st' := [(0, 1)]) (by decide +kernel) rfl ?_
    refine zwW_ret (nx := 162) (a := 1) (b := 0) (by decide +kernel) rfl (Or.inr (Or.inl ⟨rfl, Or.inr rfl⟩)) ?_
    exact ⟨Ch10, Xh10.le (by decide) (by decide), rfl, by exact TK⟩
  · refine zwW_p [(1, 0, 2)] (q := 135) (ls' := [(2, 9)]) (st' := [(2, 9), (2, 9)]) (by decide +kernel) rfl ?_
    refine zwW_gc C.1 (kd := 7) (bn := 1) (n := 9) (c := 10) (nx := 138) (by decide +kernel) ?_
    refine zwW_p [(1, 0, 2)] (q := 139) (ls' := [(2, 9)]) (st' := [(2, 9), (2, 10), (2, 9)]) (by decide +kernel) rfl ?_
    refine zwW_gs C.1 (kd := 7) (bn := 2) (n := 9) (t := 0) (lo := 0) (hi := 400) (nx := 142) (by decide +kernel) ?_
    intro v11 ev11 lv11 uv11
    have ib2 : 0 ≤ v11 ∧ v11 < ((400 : Nat) : Int) := (by first | omega | exact ⟨by omega, by omega⟩)
    refine zwW_al C.1 (a1 := 10) (a2 := 10) (kd := 20) (n := 400) (t := 0) (lo := -2147483648) (hi := 2147483647) (nx := 143) (by decide +kernel) (by first | decide | exact ⟨by decide, by decide⟩) ib2 ?_
    intro v12 ev12 lv12 uv12
    have E143 : v12 = t p := by have e : v12 = fld h 10 p := (by rw [ev12]; congr 1; omega); have z := pSig_t.mp (SG.1 (by omega)); omega
    refine zwW_p [(24, 147, 0)] (q := 147) (ls' := [(2, 9)]) (st' := [(0, v12), (2, 9)]) (by decide +kernel) rfl ?_
    have E147 : v12 = (if pSig (t p) = true then t p else 3) := by first | (rw [if_pos (SG.1 (by omega))]; exact E143) | (rw [if_neg (SG.2 (by omega))])
    refine zwW_ps C.1 (kd := 7) (bn := 4) (n := 9) (lo := -2147483648) (hi := 2147483647) (nx := 150) (by decide +kernel) (by first | omega | exact ⟨by omega, by omega⟩) ?_
    intro h13 eh13 Ih13
    have Ch13 : CI h13 := C.wc eh13 Ih13 (by decide) (by decide)
    have Qh13 : zXR [(9, 9, 4, 5)] 0 0 h h13 := zXR.wc eh13 rfl ⟨by decide, by decide, Or.inl (by decide)⟩ (by first | decide | exact ⟨by decide, by decide⟩)
    have Xh13 : zXR msxA9 (0) (0) h h13 := X.tr (c2 := 0) (s2 := 0) Qh13 (by decide +kernel) (by decide) (by decide)
    have th13_9_0 : fld h13 9 0 = fld h 9 0 := Qh13.f (a1 := 9) (a2 := 9) (j1 := 0) (j2 := 1) (by decide +kernel) (by first | decide | exact ⟨by decide, by decide⟩) (by first | decide | exact ⟨by decide, by decide⟩) (by first | decide | exact ⟨by decide, by decide⟩)
    have th13_9_2 : fld h13 9 2 = fld h 9 2 := Qh13.f (a1 := 9) (a2 := 9) (j1 := 2) (j2 := 3) (by decide +kernel) (by first | decide | exact ⟨by decide, by decide⟩) (by first | decide | exact ⟨by decide, by decide⟩) (by first | decide | exact ⟨by decide, by decide⟩)
    have th13_9_3 : fld h13 9 3 = fld h 9 3 := Qh13.f (a1 := 9) (a2 := 9) (j1 := 3) (j2 := 4) (by decide +kernel) (by first | decide | exact ⟨by decide, by decide⟩) (by first | decide | exact ⟨by decide, by decide⟩) (by first | decide | exact ⟨by decide, by decide⟩)
    have th13_9_5 : fld h13 9 5 = fld h 9 5 := Qh13.f (a1 := 9) (a2 := 9) (j1 := 5) (j2 := 6) (by decide +kernel) (by first | decide | exact ⟨by decide, by decide⟩) (by first | decide | exact ⟨by decide, by decide⟩) (by first | decide | exact ⟨by decide, by decide⟩)
    have Bh13 : rB t n h13 := B.fr Qh13 (by decide +kernel)
    have th13_9_4 : fld h13 9 4 = v12 := by rw [eh13]; exact fld_wr_eq (C.1.s (a1 := 9) (a2 := 9) (k := 7) (n := 9) (by decide +kernel) (by decide) (by decide)) (by decide)
    refine zwW_p [(1, 0, 2), (12, 0, 0)] (q := 152) (ls' := [(2, 9)]) (st' := [(2, 9), (2, 9)]) (by decide +kernel) rfl ?_
    refine zwW_gs Ch13.1 (kd := 7) (bn := 2) (n := 9) (t := 0) (lo := 0) (hi := 400) (nx := 155) (by decide +kernel) ?_
    intro v14 ev14 lv14 uv14
    refine zwW_p [(0, 1, 0)] (q := 156) (ls' := [(2, 9)]) (st' := [(0, 1), (0, v14), (2, 9)]) (by decide +kernel) rfl ?_
    refine zwW_add (nx := 157) (by decide +kernel) (by first | omega | exact ⟨by omega, by omega⟩) ?_
    refine zwW_ps Ch13.1 (kd := 7) (bn := 2) (n := 9) (lo := 0) (hi := 400) (nx := 160) (by decide +kernel) (by first | omega | exact ⟨by omega, by omega⟩) ?_
    intro h15 eh15 Ih15
    have Ch15 : CI h15 := Ch13.wc eh15 Ih15 (by decide) (by decide)
    have Qh15 : zXR [(9, 9, 2, 3)] 0 0 h13 h15 := zXR.wc eh15 rfl ⟨by decide, by decide, Or.inl (by decide)⟩ (by first | decide | exact ⟨by decide, by decide⟩)
    have Xh15 : zXR msxA9 (0) (0) h h15 := Xh13.tr (c2 := 0) (s2 := 0) Qh15 (by decide +kernel) (by decide) (by decide)
    have th15_9_0 : fld h15 9 0 = fld h13 9 0 := Qh15.f (a1 := 9) (a2 := 9) (j1 := 0) (j2 := 1) (by decide +kernel) (by first | decide | exact ⟨by decide, by decide⟩) (by first | decide | exact ⟨by decide, by decide⟩) (by first | decide | exact ⟨by decide, by decide⟩)
    have th15_9_3 : fld h15 9 3 = fld h13 9 3 := Qh15.f (a1 := 9) (a2 := 9) (j1 := 3) (j2 := 4) (by decide +kernel) (by first | decide | exact ⟨by decide, by decide⟩) (by first | decide | exact ⟨by decide, by decide⟩) (by first | decide | exact ⟨by decide, by decide⟩)
    have th15_9_4 : fld h15 9 4 = fld h13 9 4 := Qh15.f (a1 := 9) (a2 := 9) (j1 := 4) (j2 := 5) (by decide +kernel) (by first | decide | exact ⟨by decide, by decide⟩) (by first | decide | exact ⟨by decide, by decide⟩) (by first | decide | exact ⟨by decide, by decide⟩)
    have th15_9_5 : fld h15 9 5 = fld h13 9 5 := Qh15.f (a1 := 9) (a2 := 9) (j1 := 5) (j2 := 6) (by decide +kernel) (by first | decide | exact ⟨by decide, by decide⟩) (by first | decide | exact ⟨by decide, by decide⟩) (by first | decide | exact ⟨by decide, by decide⟩)
    have Bh15 : rB t n h15 := Bh13.fr Qh15 (by decide +kernel)
    have th15_9_2 : fld h15 9 2 = (v14 + 1) := by rw [eh15]; exact fld_wr_eq (Ch13.1.s (a1 := 9) (a2 := 9) (k := 7) (n := 9) (by decide +kernel) (by decide) (by decide)) (by decide)
    have P3 : fld h15 9 3 = ((p : Nat) : Int) := by omega
    have P2 : fld h15 9 2 = ((p : Nat) : Int) + 1 := by omega
    have P4 : fld h15 9 4 = v12 := by omega
    have TK : rTok t n h15 p := rTok_s P3 pl NL ND P2 (P4.trans E147)
    refine zwW_p [(0, 1, 0)] (q := 161) (ls' := [(2, 9)]) (st' := [(0, 1)]) (by decide +kernel) rfl ?_
    refine zwW_ret (nx := 162) (a := 1) (b := 0) (by decide +kernel) rfl (Or.inr (Or.inl ⟨rfl, Or.inr rfl⟩)) ?_
    exact ⟨Ch15, Xh15.le (by decide) (by decide), rfl, by exact TK⟩
-- WheelLand$Reader.advance()Z
set_option maxHeartbeats 6000000 in
theorem x198_pt {sc : List Int} (h : Hp) (C : CI h) (t : pT) (n q : Nat) (B : rB t n h) (N52 : pSk t n q = (fld h 9 2).toNat) (pl : fld h 9 2 ≤ n) : zwW sc 7 198 52 [(2, 9)] [] h (zwRt 0 (fun x g => CI g ∧ zXR msxA9 (0) (0) h g ∧ x = 1 ∧ rTok t n g (pSk t n q))) := by
  have X : zXR msxA9 0 0 h h := zXR.rf _ _
  have B1 := B.1
  have B2 := B.2.1
  refine zwW_p [(1, 0, 2), (1, 0, 2)] (q := 54) (ls' := [(2, 9)]) (st' := [(2, 9), (2, 9)]) (by decide +kernel) rfl ?_
  refine zwW_gs C.1 (kd := 7) (bn := 2) (n := 9) (t := 0) (lo := 0) (hi := 400) (nx := 57) (by decide +kernel) ?_
  intro v1 ev1 lv1 uv1
  refine zwW_ps C.1 (kd := 7) (bn := 3) (n := 9) (lo := 0) (hi := 400) (nx := 60) (by decide +kernel) (by first | omega | exact ⟨by omega, by omega⟩) ?_
  intro h2 eh2 Ih2
  have Ch2 : CI h2 := C.wc eh2 Ih2 (by decide) (by decide)
  have Qh2 : zXR [(9, 9, 3, 4)] 0 0 h h2 := zXR.wc eh2 rfl ⟨by decide, by decide, Or.inl (by decide)⟩ (by first | decide | exact ⟨by decide, by decide⟩)
  have Xh2 : zXR msxA9 (0) (0) h h2 := X.tr (c2 := 0) (s2 := 0) Qh2 (by decide +kernel) (by decide) (by decide)
  have th2_9_0 : fld h2 9 0 = fld h 9 0 := Qh2.f (a1 := 9) (a2 := 9) (j1 := 0) (j2 := 1) (by decide +kernel) (by first | decide | exact ⟨by decide, by decide⟩) (by first | decide | exact ⟨by decide, by decide⟩) (by first | decide | exact ⟨by decide, by decide⟩)
  have th2_9_2 : fld h2 9 2 = fld h 9 2 := Qh2.f (a1 := 9) (a2 := 9) (j1 := 2) (j2 := 3) (by decide +kernel) (by first | decide | exact ⟨by decide, by decide⟩) (by first | decide | exact ⟨by decide, by decide⟩) (by first | decide | exact ⟨by decide, by decide⟩)
  have th2_9_4 : fld h2 9 4 = fld h 9 4 := Qh2.f (a1 := 9) (a2 := 9) (j1 := 4) (j2 := 5) (by decide +kernel) (by first | decide | exact ⟨by decide, by decide⟩) (by first | decide | exact ⟨by decide, by decide⟩) (by first | decide | exact ⟨by decide, by decide⟩)
  have th2_9_5 : fld h2 9 5 = fld h 9 5 := Qh2.f (a1 := 9) (a2 := 9) (j1 := 5) (j2 := 6) (by decide +kernel) (by first | decide | exact ⟨by decide, by decide⟩) (by first | decide | exact ⟨by decide, by decide⟩) (by first | decide | exact ⟨by decide, by decide⟩)
  have Bh2 : rB t n h2 := B.fr Qh2 (by decide +kernel)
  have th2_9_3 : fld h2 9 3 = v1 := by rw [eh2]; exact fld_wr_eq (C.1.s (a1 := 9) (a2 := 9) (k := 7) (n := 9) (by decide +kernel) (by decide) (by decide)) (by decide)
  refine zwW_p [(1, 0, 2)] (q := 61) (ls' := [(2, 9)]) (st' := [(2, 9)]) (by decide +kernel) rfl ?_
  refine zwW_gs Ch2.1 (kd := 7) (bn := 2) (n := 9) (t := 0) (lo := 0) (hi := 400) (nx := 64) (by decide +kernel) ?_
  intro v3 ev3 lv3 uv3
  refine zwW_p [(1, 0, 2)] (q := 65) (ls' := [(2, 9)]) (st' := [(2, 9), (0, v3)]) (by decide +kernel) rfl ?_
  refine zwW_gs Ch2.1 (kd := 7) (bn := 0) (n := 9) (t := 0) (lo := 0) (hi := 400) (nx := 68) (by decide +kernel) ?_
  intro v4 ev4 lv4 uv4
  refine zwic_lt (q := 79) (nx := 71) (by decide +kernel) (fun c5 => ?_) (fun c5 => ?_)
  · refine zwW_p [(1, 0, 2), (1, 0, 2)] (q := 81) (ls' := [(2, 9)]) (st' := [(2, 9), (2, 9)]) (by decide +kernel) rfl ?_
    refine zwW_gs Ch2.1 (kd := 7) (bn := 2) (n := 9) (t := 0) (lo := 0) (hi := 400) (nx := 84) (by decide +kernel) ?_
    intro v6 ev6 lv6 uv6
    refine zwW_cm Ch2.1 (op := 60) (k' := 236) (n := 1) (kd := 7) (m := 9) (nx := 87) (r := 9) (tl := [(0, v6)]) (st' := []) (by decide +kernel) rfl (by decide +kernel) rfl (x236_p h2 Ch2 v6 t n (by omega) (by omega) Bh2) ?_
    rintro x _ ⟨rfl, ⟨rfl, c7⟩ | ⟨rfl, c7⟩⟩
    · rw [ev6, th2_9_2] at c7
      refine zwif_eq (q := 97) (nx := 90) (by decide +kernel) (fun c8 => ?_) (fun c8 => ?_)
      · exfalso; omega
      · refine zwW_p [(1, 0, 2)] (q := 91) (ls' := [(2, 9)]) (st' := [(2, 9)]) (by decide +kernel) rfl ?_
        refine zwW_cmv Ch2.1 (op := 60) (k' := 237) (n := 0) (kd := 7) (m := 9) (nx := 94) (r := 9) (tl := []) (st' := []) (by decide +kernel) rfl (by decide +kernel) rfl (x237_p h2 Ch2 t n (fld h 9 2).toNat Bh2 (by omega) (by omega) (by omega)) ?_
        rintro h12 ⟨Ch12, Qh12, f9, f10, f11⟩
        have Xh12 : zXR msxA9 (0) (0) h h12 := Xh2.tr (c2 := 0) (s2 := 0) Qh12 (by decide +kernel) (by decide) (by decide)
        have th12_9_0 : fld h12 9 0 = fld h2 9 0 := Qh12.f (a1 := 9) (a2 := 9) (j1 := 0) (j2 := 1) (by decide +kernel) (by first | decide | exact ⟨by decide, by decide⟩) (by first | decide | exact ⟨by decide, by decide⟩) (by first | decide | exact ⟨by decide, by decide⟩)
        have th12_9_3 : fld h12 9 3 = fld h2 9 3 := Qh12.f (a1 := 9) (a2 := 9) (j1 := 3) (j2 := 4) (by decide +kernel) (by first | decide | exact ⟨by decide, by decide⟩) (by first | decide | exact ⟨by decide, by decide⟩) (by first | decide | exact ⟨by decide, by decide⟩)
        have Bh12 : rB t n h12 := Bh2.fr Qh12 (by decide +kernel)
        refine zwW_p [(24, 160, 0)] (q := 160) (ls' := [(2, 9)]) (st' := []) (by decide +kernel) rfl ?_
        have TK : rTok t n h12 (pSk t n q) := by rw [N52]; exact rTok_w (by omega) (by omega) c7.2 f9 f10 f11
        refine zwW_p [(0, 1, 0)] (q := 161) (ls' := [(2, 9)]) (st' := [(0, 1)]) (by decide +kernel) rfl ?_
        refine zwW_ret (nx := 162) (a := 1) (b := 0) (by decide +kernel) rfl (Or.inr (Or.inl ⟨rfl, Or.inr rfl⟩)) ?_
        exact ⟨Ch12, Xh12.le (by decide) (by decide), rfl, by exact TK⟩
    · rw [ev6, th2_9_2] at c7
      refine zwif_eq (q := 97) (nx := 90) (by decide +kernel) (fun c13 => ?_) (fun c13 => ?_)
      · have NL : ¬ pLet (t (fld h 9 2).toNat) = true := fun z => c7 ⟨by omega, z⟩
        refine zwW_p [(1, 0, 2), (1, 0, 2)] (q := 99) (ls' := [(2, 9)]) (st' := [(2, 9), (2, 9)]) (by decide +kernel) rfl ?_
        refine zwW_gs Ch2.1 (kd := 7) (bn := 2) (n := 9) (t := 0) (lo := 0) (hi := 400) (nx := 102) (by decide +kernel) ?_
        intro v14 ev14 lv14 uv14
        refine zwW_cm Ch2.1 (op := 60) (k' := 238) (n := 1) (kd := 7) (m := 9) (nx := 105) (r := 9) (tl := [(0, v14)]) (st' := []) (by decide +kernel) rfl (by decide +kernel) rfl (x238_p h2 Ch2 v14 t n (by omega) (by omega) Bh2) ?_
        rintro x _ ⟨rfl, ⟨rfl, c15⟩ | ⟨rfl, c15⟩⟩
        · rw [ev14, th2_9_2] at c15
          refine zwif_eq (q := 115) (nx := 108) (by decide +kernel) (fun c16 => ?_) (fun c16 => ?_)
          · exfalso; omega
          · refine zwW_p [(1, 0, 2)] (q := 109) (ls' := [(2, 9)]) (st' := [(2, 9)]) (by decide +kernel) rfl ?_
            refine zwW_cmv Ch2.1 (op := 60) (k' := 239) (n := 0) (kd := 7) (m := 9) (nx := 112) (r := 9) (tl := []) (st' := []) (by decide +kernel) rfl (by decide +kernel) rfl (x239_p h2 Ch2 t n (fld h 9 2).toNat Bh2 (by omega) (by omega) (by omega)) ?_
            rintro h20 ⟨Ch20, Qh20, f17, f18, f19⟩
            have Xh20 : zXR msxA9 (0) (0) h h20 := Xh2.tr (c2 := 0) (s2 := 0) Qh20 (by decide +kernel) (by decide) (by decide)
            have th20_9_0 : fld h20 9 0 = fld h2 9 0 := Qh20.f (a1 := 9) (a2 := 9) (j1 := 0) (j2 := 1) (by decide +kernel) (by first | decide | exact ⟨by decide, by decide⟩) (by first | decide | exact ⟨by decide, by decide⟩) (by first | decide | exact ⟨by decide, by decide⟩)
            have th20_9_3 : fld h20 9 3 = fld h2 9 3 := Qh20.f (a1 := 9) (a2 := 9) (j1 := 3) (j2 := 4) (by decide +kernel) (by first | decide | exact ⟨by decide, by decide⟩) (by first | decide | exact ⟨by decide, by decide⟩) (by first | decide | exact ⟨by decide, by decide⟩)
            have Bh20 : rB t n h20 := Bh2.fr Qh20 (by decide +kernel)
            refine zwW_p [(24, 160, 0)] (q := 160) (ls' := [(2, 9)]) (st' := []) (by decide +kernel) rfl ?_
            have TK : rTok t n h20 (pSk t n q) := by rw [N52]; exact rTok_d (by omega) (by omega) NL c15.2 f17 f18 f19
            refine zwW_p [(0, 1, 0)] (q := 161) (ls' := [(2, 9)]) (st' := [(0, 1)]) (by decide +kernel) rfl ?_
            refine zwW_ret (nx := 162) (a := 1) (b := 0) (by decide +kernel) rfl (Or.inr (Or.inl ⟨rfl, Or.inr rfl⟩)) ?_
            exact ⟨Ch20, Xh20.le (by decide) (by decide), rfl, by exact TK⟩
        · rw [ev14, th2_9_2] at c15
          refine zwif_eq (q := 115) (nx := 108) (by decide +kernel) (fun c21 => ?_) (fun c21 => ?_)
          · have ND : ¬ pDig (t (fld h 9 2).toNat) = true := fun z => c15 ⟨by omega, z⟩
            refine zwW_to (x198_ps h2 Ch2 t n (fld h 9 2).toNat Bh2 (by omega) (by omega) (by omega) NL ND) ?_
            rintro r g ⟨x, ex, Cg, RT, hx, K⟩
            exact ⟨x, ex, Cg, Xh2.tr (c2 := 0) (s2 := 0) RT (by decide +kernel) (by decide) (by decide), hx, by rw [N52]; exact K⟩
          · exfalso; omega
      · exfalso; omega
  · refine zwW_p [(1, 0, 2), (0, 0, 0)] (q := 73) (ls' := [(2, 9)]) (st' := [(0, 0), (2, 9)]) (by decide +kernel) rfl ?_
    refine zwW_ps Ch2.1 (kd := 7) (bn := 4) (n := 9) (lo := -2147483648) (hi := 2147483647) (nx := 76) (by decide +kernel) (by first | decide | exact ⟨by decide, by decide⟩) ?_
    intro h22 eh22 Ih22
    have Ch22 : CI h22 := Ch2.wc eh22 Ih22 (by decide) (by decide)
    have Qh22 : zXR [(9, 9, 4, 5)] 0 0 h2 h22 := zXR.wc eh22 rfl ⟨by decide, by decide, Or.inl (by decide)⟩ (by first | decide | exact ⟨by decide, by decide⟩)
    have Xh22 : zXR msxA9 (0) (0) h h22 := Xh2.tr (c2 := 0) (s2 := 0) Qh22 (by decide +kernel) (by decide) (by decide)
    have th22_9_0 : fld h22 9 0 = fld h2 9 0 := Qh22.f (a1 := 9) (a2 := 9) (j1 := 0) (j2 := 1) (by decide +kernel) (by first | decide | exact ⟨by decide, by decide⟩) (by first | decide | exact ⟨by decide, by decide⟩) (by first | decide | exact ⟨by decide, by decide⟩)
    have th22_9_2 : fld h22 9 2 = fld h2 9 2 := Qh22.f (a1 := 9) (a2 := 9) (j1 := 2) (j2 := 3) (by decide +kernel) (by first | decide | exact ⟨by decide, by decide⟩) (by first | decide | exact ⟨by decide, by decide⟩) (by first | decide | exact ⟨by decide, by decide⟩)
    have th22_9_3 : fld h22 9 3 = fld h2 9 3 := Qh22.f (a1 := 9) (a2 := 9) (j1 := 3) (j2 := 4) (by decide +kernel) (by first | decide | exact ⟨by decide, by decide⟩) (by first | decide | exact ⟨by decide, by decide⟩) (by first | decide | exact ⟨by decide, by decide⟩)
    have th22_9_5 : fld h22 9 5 = fld h2 9 5 := Qh22.f (a1 := 9) (a2 := 9) (j1 := 5) (j2 := 6) (by decide +kernel) (by first | decide | exact ⟨by decide, by decide⟩) (by first | decide | exact ⟨by decide, by decide⟩) (by first | decide | exact ⟨by decide, by decide⟩)
    have Bh22 : rB t n h22 := Bh2.fr Qh22 (by decide +kernel)
    have th22_9_4 : fld h22 9 4 = 0 := by rw [eh22]; exact fld_wr_eq (Ch2.1.s (a1 := 9) (a2 := 9) (k := 7) (n := 9) (by decide +kernel) (by decide) (by decide)) (by decide)
    refine zwW_p [(24, 160, 0)] (q := 160) (ls' := [(2, 9)]) (st' := []) (by decide +kernel) rfl ?_
    have TK : rTok t n h22 (pSk t n q) := by rw [N52]; exact rTok_e (by omega) (by omega) (by omega) (by omega)
    refine zwW_p [(0, 1, 0)] (q := 161) (ls' := [(2, 9)]) (st' := [(0, 1)]) (by decide +kernel) rfl ?_
    refine zwW_ret (nx := 162) (a := 1) (b := 0) (by decide +kernel) rfl (Or.inr (Or.inl ⟨rfl, Or.inr rfl⟩)) ?_
    exact ⟨Ch22, Xh22.le (by decide) (by decide), rfl, by exact TK⟩
-- WheelLand$Reader.advance()Z
set_option maxHeartbeats 4000000 in
theorem x198_p {sc : List Int} (h : Hp) (C : CI h) (t : pT) (n : Nat) (q : Nat) (B : rB t n h) (pn : fld h 9 2 = (q : Int)) (pl : q ≤ n) : zwC sc 8 198 [(2, 9)] h (zwRt 0 (fun x g => CI g ∧ zXR msxA9 (0) (0) h g ∧ x = 1 ∧ (rTok t n g (pSk t n q)))) := by
  refine zwC_of (D := 7) 1 (by decide +kernel) rfl (ls := [(2, 9)]) rfl ?_
  have X : zXR msxA9 0 0 h h := zXR.rf _ _
  have B1 := B.1
  have B2 := B.2.1
  have L1 : ∀ (n0 : Nat) (hL1 : Hp), n0 = ((400 - fld hL1 9 2)).toNat → (rB t n hL1) → (q ≤ fld hL1 9 2 ∧ fld hL1 9 2 ≤ n) → (pRun pBla t n (fld hL1 9 2).toNat = pRun pBla t n q) → CI hL1 → zXR msxA9 (0) (0) h hL1 → zwW sc (7) 198 0 [(2, 9)] [] hL1 (zwRt 0 (fun x g => CI g ∧ zXR msxA9 (0) (0) h g ∧ x = 1 ∧ (rTok t n g (pSk t n q)))) := by
    intro n0
    induction n0 using Nat.strongRecOn with
    | ind n0 IHL1 =>
      intro hL1 hnL1 iL1_0 iL1_1 iL1_2 ChL1 XhL1
      have BL := iL1_0.1
      refine zwW_p [(1, 0, 2)] (q := 1) (ls' := [(2, 9)]) (st' := [(2, 9)]) (by decide +kernel) rfl ?_
      refine zwW_gs ChL1.1 (kd := 7) (bn := 2) (n := 9) (t := 0) (lo := 0) (hi := 400) (nx := 4) (by decide +kernel) ?_
      intro v2 ev2 lv2 uv2
      refine zwW_p [(1, 0, 2)] (q := 5) (ls' := [(2, 9)]) (st' := [(2, 9), (0, v2)]) (by decide +kernel) rfl ?_
      refine zwW_gs ChL1.1 (kd := 7) (bn := 0) (n := 9) (t := 0) (lo := 0) (hi := 400) (nx := 8) (by decide +kernel) ?_
      intro v3 ev3 lv3 uv3
      refine zwic_ge (q := 52) (nx := 11) (by decide +kernel) (fun c4 => ?_) (fun c4 => ?_)
      · have N52 : pSk t n q = (fld hL1 9 2).toNat := by unfold pSk; rw [← iL1_2]; exact pRun_e (fun z => by first | omega | (have w := (iL1_0.bla (by omega)).mp z.2; omega))
        refine zwW_to (x198_pt hL1 ChL1 t n q iL1_0 N52 (by omega)) ?_
        rintro r g ⟨x, ex, Cg, RT, hx, K⟩
        exact ⟨x, ex, Cg, XhL1.tr (c2 := 0) (s2 := 0) RT (by decide +kernel) (by decide) (by decide), hx, K⟩
      · refine zwW_p [(1, 0, 2)] (q := 12) (ls' := [(2, 9)]) (st' := [(2, 9)]) (by decide +kernel) rfl ?_
        refine zwW_gc ChL1.1 (kd := 7) (bn := 1) (n := 9) (c := 10) (nx := 15) (by decide +kernel) ?_
        refine zwW_p [(1, 0, 2)] (q := 16) (ls' := [(2, 9)]) (st' := [(2, 9), (2, 10)]) (by decide +kernel) rfl ?_
        refine zwW_gs ChL1.1 (kd := 7) (bn := 2) (n := 9) (t := 0) (lo := 0) (hi := 400) (nx := 19) (by decide +kernel) ?_
        intro v5 ev5 lv5 uv5
        have ib1 : 0 ≤ v5 ∧ v5 < ((400 : Nat) : Int) := (by first | omega | exact ⟨by omega, by omega⟩)
        refine zwW_al ChL1.1 (a1 := 10) (a2 := 10) (kd := 20) (n := 400) (t := 0) (lo := -2147483648) (hi := 2147483647) (nx := 20) (by decide +kernel) (by first | decide | exact ⟨by decide, by decide⟩) ib1 ?_
        intro v6 ev6 lv6 uv6
        have E20 : v6 = fld hL1 10 (fld hL1 9 2).toNat := by rw [ev6]; congr 1; omega
        refine zwW_p [(0, 32, 0)] (q := 22) (ls' := [(2, 9)]) (st' := [(0, 32), (0, v6)]) (by decide +kernel) rfl ?_
        refine zwic_eq (q := 39) (nx := 25) (by decide +kernel) (fun c7 => ?_) (fun c7 => ?_)
        · refine zwW_p [(1, 0, 2), (12, 0, 0)] (q := 41) (ls' := [(2, 9)]) (st' := [(2, 9), (2, 9)]) (by decide +kernel) rfl ?_
          refine zwW_gs ChL1.1 (kd := 7) (bn := 2) (n := 9) (t := 0) (lo := 0) (hi := 400) (nx := 44) (by decide +kernel) ?_
          intro v8 ev8 lv8 uv8
          refine zwW_p [(0, 1, 0)] (q := 45) (ls' := [(2, 9)]) (st' := [(0, 1), (0, v8), (2, 9)]) (by decide +kernel) rfl ?_
          refine zwW_add (nx := 46) (by decide +kernel) (by first | omega | exact ⟨by omega, by omega⟩) ?_
          refine zwW_ps ChL1.1 (kd := 7) (bn := 2) (n := 9) (lo := 0) (hi := 400) (nx := 49) (by decide +kernel) (by first | omega | exact ⟨by omega, by omega⟩) ?_
          intro h9 eh9 Ih9
          have Ch9 : CI h9 := ChL1.wc eh9 Ih9 (by decide) (by decide)
          have Qh9 : zXR [(9, 9, 2, 3)] 0 0 hL1 h9 := zXR.wc eh9 rfl ⟨by decide, by decide, Or.inl (by decide)⟩ (by first | decide | exact ⟨by decide, by decide⟩)
          have Xh9 : zXR msxA9 (0) (0) h h9 := XhL1.tr (c2 := 0) (s2 := 0) Qh9 (by decide +kernel) (by decide) (by decide)
          have th9_9_0 : fld h9 9 0 = fld hL1 9 0 := Qh9.f (a1 := 9) (a2 := 9) (j1 := 0) (j2 := 1) (by decide +kernel) (by first | decide | exact ⟨by decide, by decide⟩) (by first | decide | exact ⟨by decide, by decide⟩) (by first | decide | exact ⟨by decide, by decide⟩)
          have th9_9_3 : fld h9 9 3 = fld hL1 9 3 := Qh9.f (a1 := 9) (a2 := 9) (j1 := 3) (j2 := 4) (by decide +kernel) (by first | decide | exact ⟨by decide, by decide⟩) (by first | decide | exact ⟨by decide, by decide⟩) (by first | decide | exact ⟨by decide, by decide⟩)
          have th9_9_4 : fld h9 9 4 = fld hL1 9 4 := Qh9.f (a1 := 9) (a2 := 9) (j1 := 4) (j2 := 5) (by decide +kernel) (by first | decide | exact ⟨by decide, by decide⟩) (by first | decide | exact ⟨by decide, by decide⟩) (by first | decide | exact ⟨by decide, by decide⟩)
          have th9_9_5 : fld h9 9 5 = fld hL1 9 5 := Qh9.f (a1 := 9) (a2 := 9) (j1 := 5) (j2 := 6) (by decide +kernel) (by first | decide | exact ⟨by decide, by decide⟩) (by first | decide | exact ⟨by decide, by decide⟩) (by first | decide | exact ⟨by decide, by decide⟩)
          have Bh9 : rB t n h9 := iL1_0.fr Qh9 (by decide +kernel)
          have th9_9_2 : fld h9 9 2 = (v8 + 1) := by rw [eh9]; exact fld_wr_eq (ChL1.1.s (a1 := 9) (a2 := 9) (k := 7) (n := 9) (by decide +kernel) (by decide) (by decide)) (by decide)
          have PR : pRun pBla t n (fld h9 9 2).toNat = pRun pBla t n q := by rw [← iL1_2, show (fld h9 9 2).toNat = (fld hL1 9 2).toNat + 1 by omega]; exact (pRun_s (by omega) ((iL1_0.bla (by omega)).mpr (by omega))).symm
          refine zwW_p [(24, 0, 0)] (q := 0) (ls' := [(2, 9)]) (st' := []) (by decide +kernel) rfl ?_
          exact IHL1 ((400 - fld h9 9 2)).toNat (by omega) h9 rfl (Bh9) (by omega) (PR) Ch9 (Xh9.le (by decide) (by decide))
        · refine zwW_p [(1, 0, 2)] (q := 26) (ls' := [(2, 9)]) (st' := [(2, 9)]) (by decide +kernel) rfl ?_
          refine zwW_gc ChL1.1 (kd := 7) (bn := 1) (n := 9) (c := 10) (nx := 29) (by decide +kernel) ?_
          refine zwW_p [(1, 0, 2)] (q := 30) (ls' := [(2, 9)]) (st' := [(2, 9), (2, 10)]) (by decide +kernel) rfl ?_
          refine zwW_gs ChL1.1 (kd := 7) (bn := 2) (n := 9) (t := 0) (lo := 0) (hi := 400) (nx := 33) (by decide +kernel) ?_
          intro v10 ev10 lv10 uv10
          have ib2 : 0 ≤ v10 ∧ v10 < ((400 : Nat) : Int) := (by first | omega | exact ⟨by omega, by omega⟩)
          refine zwW_al ChL1.1 (a1 := 10) (a2 := 10) (kd := 20) (n := 400) (t := 0) (lo := -2147483648) (hi := 2147483647) (nx := 34) (by decide +kernel) (by first | decide | exact ⟨by decide, by decide⟩) ib2 ?_
          intro v11 ev11 lv11 uv11
          have E34 : v11 = fld hL1 10 (fld hL1 9 2).toNat := by rw [ev11]; congr 1; omega
          refine zwW_p [(0, 10, 0)] (q := 36) (ls' := [(2, 9)]) (st' := [(0, 10), (0, v11)]) (by decide +kernel) rfl ?_
          refine zwic_ne (q := 52) (nx := 39) (by decide +kernel) (fun c12 => ?_) (fun c12 => ?_)
          · have N52 : pSk t n q = (fld hL1 9 2).toNat := by unfold pSk; rw [← iL1_2]; exact pRun_e (fun z => by first | omega | (have w := (iL1_0.bla (by omega)).mp z.2; omega))
            refine zwW_to (x198_pt hL1 ChL1 t n q iL1_0 N52 (by omega)) ?_
            rintro r g ⟨x, ex, Cg, RT, hx, K⟩
            exact ⟨x, ex, Cg, XhL1.tr (c2 := 0) (s2 := 0) RT (by decide +kernel) (by decide) (by decide), hx, K⟩
          · refine zwW_p [(1, 0, 2), (12, 0, 0)] (q := 41) (ls' := [(2, 9)]) (st' := [(2, 9), (2, 9)]) (by decide +kernel) rfl ?_
            refine zwW_gs ChL1.1 (kd := 7) (bn := 2) (n := 9) (t := 0) (lo := 0) (hi := 400) (nx := 44) (by decide +kernel) ?_
            intro v13 ev13 lv13 uv13
            refine zwW_p [(0, 1, 0)] (q := 45) (ls' := [(2, 9)]) (st' := [(0, 1), (0, v13), (2, 9)]) (by decide +kernel) rfl ?_
            refine zwW_add (nx := 46) (by decide +kernel) (by first | omega | exact ⟨by omega, by omega⟩) ?_
            refine zwW_ps ChL1.1 (kd := 7) (bn := 2) (n := 9) (lo := 0) (hi := 400) (nx := 49) (by decide +kernel) (by first | omega | exact ⟨by omega, by omega⟩) ?_
            intro h14 eh14 Ih14
            have Ch14 : CI h14 := ChL1.wc eh14 Ih14 (by decide) (by decide)
            have Qh14 : zXR [(9, 9, 2, 3)] 0 0 hL1 h14 := zXR.wc eh14 rfl ⟨by decide, by decide, Or.inl (by decide)⟩ (by first | decide | exact ⟨by decide, by decide⟩)
            have Xh14 : zXR msxA9 (0) (0) h h14 := XhL1.tr (c2 := 0) (s2 := 0) Qh14 (by decide +kernel) (by decide) (by decide)
            have th14_9_0 : fld h14 9 0 = fld hL1 9 0 := Qh14.f (a1 := 9) (a2 := 9) (j1 := 0) (j2 := 1) (by decide +kernel) (by first | decide | exact ⟨by decide, by decide⟩) (by first | decide | exact ⟨by decide, by decide⟩) (by first | decide | exact ⟨by decide, by decide⟩)
            have th14_9_3 : fld h14 9 3 = fld hL1 9 3 := Qh14.f (a1 := 9) (a2 := 9) (j1 := 3) (j2 := 4) (by decide +kernel) (by first | decide | exact ⟨by decide, by decide⟩) (by first | decide | exact ⟨by decide, by decide⟩) (by first | decide | exact ⟨by decide, by decide⟩)
            have th14_9_4 : fld h14 9 4 = fld hL1 9 4 := Qh14.f (a1 := 9) (a2 := 9) (j1 := 4) (j2 := 5) (by decide +kernel) (by first | decide | exact ⟨by decide, by decide⟩) (by first | decide | exact ⟨by decide, by decide⟩) (by first | decide | exact ⟨by decide, by decide⟩)
            have th14_9_5 : fld h14 9 5 = fld hL1 9 5 := Qh14.f (a1 := 9) (a2 := 9) (j1 := 5) (j2 := 6) (by decide +kernel) (by first | decide | exact ⟨by decide, by decide⟩) (by first | decide | exact ⟨by decide, by decide⟩) (by first | decide | exact ⟨by decide, by decide⟩)
            have Bh14 : rB t n h14 := iL1_0.fr Qh14 (by decide +kernel)
            have th14_9_2 : fld h14 9 2 = (v13 + 1) := by rw [eh14]; exact fld_wr_eq (ChL1.1.s (a1 := 9) (a2 := 9) (k := 7) (n := 9) (by decide +kernel) (by decide) (by decide)) (by decide)
            have PR : pRun pBla t n (fld h14 9 2).toNat = pRun pBla t n q := by rw [← iL1_2, show (fld h14 9 2).toNat = (fld hL1 9 2).toNat + 1 by omega]; exact (pRun_s (by omega) ((iL1_0.bla (by omega)).mpr (by omega))).symm
            refine zwW_p [(24, 0, 0)] (q := 0) (ls' := [(2, 9)]) (st' := []) (by decide +kernel) rfl ?_
            exact IHL1 ((400 - fld h14 9 2)).toNat (by omega) h14 rfl (Bh14) (by omega) (PR) Ch14 (Xh14.le (by decide) (by decide))
  exact L1 _ h rfl (B) (by omega) (by rw [show (fld h 9 2).toNat = q by omega]) C (X.le (by decide) (by decide))
end
section
/-! the class's reader goes to the next token -/
section RG
variable {sc : List Int}
theorem rQ.a {t : pT} {n : Nat} {h g : Hp} {s : pQ} {ms : Zms} {c z : Int} (Q : rQ t n h s) (R : zXR ms c z h g) (e : (zqN ms 9 9 6 7 && zun ms 11) = true) (K : rTok t n g (pSk t n (pEn t n s.1))) : rQ t n g (pA t n s) := by
  rw [Bool.and_eq_true] at e
  obtain ⟨q1, q2, q3⟩ := Q
  refine ⟨K, ?_, ?_⟩
  · exact (R.f (r := 9) (j := 6) e.1 (by first | decide | exact ⟨by decide, by decide⟩) (by first | decide | exact ⟨by decide, by decide⟩) (by first | decide | exact ⟨by decide, by decide⟩)).trans q2
  · exact (R.fa (a := 11) e.2 (by decide)).trans q3
theorem x198_q (h : Hp) (C : CI h) (t : pT) (n : Nat) (s : pQ) (B : rB t n h) (Q : rQ t n h s) (W : s.1 ≤ n) : zwC sc 8 198 [(2, 9)] h (zwRt 0 (fun x g => CI g ∧ zXR msxA9 (0) (0) h g ∧ x = 1 ∧ rQ t n g (pA t n s))) := by
  have b := pEn_b (t := t) W
  refine zwC_to (x198_p (sc := sc) h C t n (pEn t n s.1) B Q.1.2.2.1 b.2.1) ?_
  rintro r g ⟨x, e, Cg, R, hx, K⟩
  exact ⟨x, e, Cg, R, hx, Q.a R (by decide +kernel) K⟩
end RG
end
section
/-! contracts of the class -/
-- WheelLand$Reader.factor(I)Z
theorem x280_q {sc : List Int} (a : Int) (D0 : Nat) (pa : 0 ≤ a ∧ a ≤ 8) (o : Bool) (sub : pT → Nat → pQ → pR) (ho : (a < 8 ∧ o = true) ∨ (8 ≤ a ∧ o = false)) (hs : ∀ (t : pT) (n : Nat), pG n (sub t n)) (HS : a < 8 → rX sc D0 241 (a + 1) sub) : rX sc (D0 + 20) 280 a (fun t n => pFac t n o (sub t n)) := by
  intro h C t n s B Q0 W0
  refine zwC_of (D := D0 + 19) 2 (by decide +kernel) rfl (ls := [(2, 9), (0, a)]) rfl ?_
  have X : zXR msxK 0 0 h h := zXR.rf _ _
  refine zwW_p [(1, 0, 2)] (q := 1) (ls' := [(2, 9), (0, a)]) (st' := [(2, 9)]) (by decide +kernel) rfl ?_
  refine zwW_gs C.1 (kd := 7) (bn := 4) (n := 9) (t := 0) (lo := -2147483648) (hi := 2147483647) (nx := 4) (by decide +kernel) ?_
  intro v1 ev1 lv1 uv1
  have kv1 : v1 = pK t n s.1 := ev1.trans (Q0).kd
  refine zwW_p [(0, 2, 0)] (q := 5) (ls' := [(2, 9), (0, a)]) (st' := [(0, 2), (0, v1)]) (by decide +kernel) rfl ?_
  refine zwic_ne (q := 42) (nx := 8) (by decide +kernel) (fun c2 => ?_) (fun c2 => ?_)
  · refine zwW_p [(1, 0, 2)] (q := 43) (ls' := [(2, 9), (0, a)]) (st' := [(2, 9)]) (by decide +kernel) rfl ?_
    refine zwW_gs C.1 (kd := 7) (bn := 4) (n := 9) (t := 0) (lo := -2147483648) (hi := 2147483647) (nx := 46) (by decide +kernel) ?_
    intro v3 ev3 lv3 uv3
    have kv3 : v3 = pK t n s.1 := ev3.trans (Q0).kd
    refine zwW_p [(0, 1, 0)] (q := 47) (ls' := [(2, 9), (0, a)]) (st' := [(0, 1), (0, v3)]) (by decide +kernel) rfl ?_
    refine zwic_ne (q := 89) (nx := 50) (by decide +kernel) (fun c4 => ?_) (fun c4 => ?_)
    · refine zwW_p [(1, 1, 0), (0, 8, 0)] (q := 92) (ls' := [(2, 9), (0, a)]) (st' := [(0, 8), (0, a)]) (by decide +kernel) rfl ?_
      refine zwic_ge (q := 141) (nx := 95) (by decide +kernel) (fun c5 => ?_) (fun c5 => ?_)
      · refine zwW_p [(0, 0, 0)] (q := 142) (ls' := [(2, 9), (0, a)]) (st' := [(0, 0)]) (by decide +kernel) rfl ?_
        refine zwW_ret (nx := 143) (a := 1) (b := 0) (by decide +kernel) rfl (Or.inr (Or.inl ⟨rfl, Or.inl rfl⟩)) ?_
        refine ⟨C, X.le (by decide) (by decide), by omega, ?_⟩
        show rR t n h 0 (pFac t n o (sub t n) s)
        first
        | (rw [pFac_num (by omega) (by omega), ← rfl]; exact rR_t Q0)
        | (rw [pFac_wd (by omega) ⟨by omega, by omega⟩, ← rfl]; exact rR_t Q0)
        | (rw [pFac_par (ho.resolve_right (fun z => by omega)).2 (by omega) (S115.b1 (by omega)) (by omega)]; exact rR_t Q0)
        | (rw [pFac_pn (ho.resolve_right (fun z => by omega)).2 (by omega) (S115.b1 (by omega)) (by omega)]; exact rR_f Q0)
        | (rw [pFac_pf (ho.resolve_right (fun z => by omega)).2 (by omega) (S115.b0 (by omega))]; exact S115.ze (by omega))
        | (rw [pFac_no (fun z => by omega) (fun z => by omega) (fun z => absurd z.1 (fun z1 => by have y := ho.resolve_left (fun y => by omega); rw [z1] at y; cases y.2))]; exact rR_f Q0)
        | (exfalso; omega)
      · refine zwW_p [(1, 0, 2)] (q := 96) (ls' := [(2, 9), (0, a)]) (st' := [(2, 9)]) (by decide +kernel) rfl ?_
        refine zwW_gs C.1 (kd := 7) (bn := 4) (n := 9) (t := 0) (lo := -2147483648) (hi := 2147483647) (nx := 99) (by decide +kernel) ?_
        intro v6 ev6 lv6 uv6
        have kv6 : v6 = pK t n s.1 := ev6.trans (Q0).kd
        refine zwW_p [(0, 40, 0)] (q := 101) (ls' := [(2, 9), (0, a)]) (st' := [(0, 40), (0, v6)]) (by decide +kernel) rfl ?_
        refine zwic_ne (q := 141) (nx := 104) (by decide +kernel) (fun c7 => ?_) (fun c7 => ?_)
        · refine zwW_p [(0, 0, 0)] (q := 142) (ls' := [(2, 9), (0, a)]) (st' := [(0, 0)]) (by decide +kernel) rfl ?_
          refine zwW_ret (nx := 143) (a := 1) (b := 0) (by decide +kernel) rfl (Or.inr (Or.inl ⟨rfl, Or.inl rfl⟩)) ?_
          refine ⟨C, X.le (by decide) (by decide), by omega, ?_⟩
          show rR t n h 0 (pFac t n o (sub t n) s)
          first
          | (rw [pFac_num (by omega) (by omega), ← rfl]; exact rR_t Q0)
          | (rw [pFac_wd (by omega) ⟨by omega, by omega⟩, ← rfl]; exact rR_t Q0)
          | (rw [pFac_par (ho.resolve_right (fun z => by omega)).2 (by omega) (S115.b1 (by omega)) (by omega)]; exact rR_t Q0)
          | (rw [pFac_pn (ho.resolve_right (fun z => by omega)).2 (by omega) (S115.b1 (by omega)) (by omega)]; exact rR_f Q0)
          | (rw [pFac_pf (ho.resolve_right (fun z => by omega)).2 (by omega) (S115.b0 (by omega))]; exact S115.ze (by omega))
          | (rw [pFac_no (fun z => by omega) (fun z => by omega) (fun z => absurd z.1 (fun z1 => by have y := ho.resolve_left (fun y => by omega); rw [z1] at y; cases y.2))]; exact rR_f Q0)
          | (exfalso; omega)
        · refine zwW_p [(1, 0, 2)] (q := 105) (ls' := [(2, 9), (0, a)]) (st' := [(2, 9)]) (by decide +kernel) rfl ?_
          refine zwW_cm C.1 (op := 60) (k' := 198) (n := 0) (kd := 7) (m := 9) (nx := 108) (r := 9) (tl := []) (st' := []) (by decide +kernel) rfl (by decide +kernel) (Nat.ble_eq_true_of_le (by omega)) (x198_q h C t n s B Q0 (W0).2) ?_
          rintro x h9 ⟨Ch9, Qh9, rfl, f8⟩
          have Xh9 : zXR msxK (0) (0) h h9 := X.tr (c2 := 0) (s2 := 0) Qh9 (by decide +kernel) (by decide) (by decide)
          have th9_9_6 : fld h9 9 6 = fld h 9 6 := Qh9.f (a1 := 9) (a2 := 9) (j1 := 6) (j2 := 7) (by decide +kernel) (by first | decide | exact ⟨by decide, by decide⟩) (by first | decide | exact ⟨by decide, by decide⟩) (by first | decide | exact ⟨by decide, by decide⟩)
          have Bh9 : rB t n h9 := B.fr Qh9 (by decide +kernel)
          have Vh9 : rV n (pA t n s) := (W0).a (by omega)
          refine zwif_eq (q := 141) (nx := 111) (by decide +kernel) (fun c10 => ?_) (fun c10 => ?_)
          · exfalso; omega
          · refine zwW_p [(1, 0, 2), (1, 1, 0), (0, 1, 0)] (q := 114) (ls' := [(2, 9), (0, a)]) (st' := [(0, 1), (0, a), (2, 9)]) (by decide +kernel) rfl ?_
            refine zwW_add (nx := 115) (by decide +kernel) (by first | omega | exact ⟨by omega, by omega⟩) ?_
            refine zwW_cm Ch9.1 (op := 60) (k' := 241) (n := 1) (kd := 7) (m := 9) (nx := 118) (r := 9) (tl := [(0, (a + 1))]) (st' := []) (by decide +kernel) rfl (by decide +kernel) (Nat.ble_eq_true_of_le (by omega)) (HS (by omega) h9 Ch9 t n (pA t n s) Bh9 f8 Vh9.wk) ?_
            rintro v13 h14 ⟨Ch14, Qh14, f11, f12⟩
            have Xh14 : zXR msxK (0) (0) h h14 := Xh9.tr (c2 := 0) (s2 := 0) Qh14 (by decide +kernel) (by decide) (by decide)
            have Bh14 : rB t n h14 := Bh9.fr Qh14 (by decide +kernel)
            have S115 := f12
            have Vh14 : rV n ((sub t n) (pA t n s)).2 := (Vh9).fn (hs t n)
            refine zwif_eq (q := 141) (nx := 121) (by decide +kernel) (fun c15 => ?_) (fun c15 => ?_)
            · refine zwW_p [(0, 0, 0)] (q := 142) (ls' := [(2, 9), (0, a)]) (st' := [(0, 0)]) (by decide +kernel) rfl ?_
              refine zwW_ret (nx := 143) (a := 1) (b := 0) (by decide +kernel) rfl (Or.inr (Or.inl ⟨rfl, Or.inl rfl⟩)) ?_
              refine ⟨Ch14, Xh14.le (by decide) (by decide), by omega, ?_⟩
              show rR t n h14 0 (pFac t n o (sub t n) s)
              first
              | (rw [pFac_num (by omega) (by omega), ← rfl]; exact rR_t S115.1)
              | (rw [pFac_wd (by omega) ⟨by omega, by omega⟩, ← rfl]; exact rR_t S115.1)
              | (rw [pFac_par (ho.resolve_right (fun z => by omega)).2 (by omega) (S115.b1 (by omega)) (by omega)]; exact rR_t S115.1)
              | (rw [pFac_pn (ho.resolve_right (fun z => by omega)).2 (by omega) (S115.b1 (by omega)) (by omega)]; exact rR_f S115.1)
              | (rw [pFac_pf (ho.resolve_right (fun z => by omega)).2 (by omega) (S115.b0 (by omega))]; exact S115.ze (by omega))
              | (rw [pFac_no (fun z => by omega) (fun z => by omega) (fun z => absurd z.1 (fun z1 => by have y := ho.resolve_left (fun y => by omega); rw [z1] at y; cases y.2))]; exact rR_f S115.1)
              | (exfalso; omega)
            · refine zwW_p [(1, 0, 2)] (q := 122) (ls' := [(2, 9), (0, a)]) (st' := [(2, 9)]) (by decide +kernel) rfl ?_
              refine zwW_gs Ch14.1 (kd := 7) (bn := 4) (n := 9) (t := 0) (lo := -2147483648) (hi := 2147483647) (nx := 125) (by decide +kernel) ?_
              intro v16 ev16 lv16 uv16
              have kv16 : v16 = pK t n (sub t n (pA t n s)).2.1 := ev16.trans (S115.1).kd
              refine zwW_p [(0, 41, 0)] (q := 127) (ls' := [(2, 9), (0, a)]) (st' := [(0, 41), (0, v16)]) (by decide +kernel) rfl ?_
              refine zwic_ne (q := 141) (nx := 130) (by decide +kernel) (fun c17 => ?_) (fun c17 => ?_)
              · refine zwW_p [(0, 0, 0)] (q := 142) (ls' := [(2, 9), (0, a)]) (st' := [(0, 0)]) (by decide +kernel) rfl ?_
                refine zwW_ret (nx := 143) (a := 1) (b := 0) (by decide +kernel) rfl (Or.inr (Or.inl ⟨rfl, Or.inl rfl⟩)) ?_
                refine ⟨Ch14, Xh14.le (by decide) (by decide), by omega, ?_⟩
                show rR t n h14 0 (pFac t n o (sub t n) s)
                first
                | (rw [pFac_num (by omega) (by omega), ← rfl]; exact rR_t S115.1)
                | (rw [pFac_wd (by omega) ⟨by omega, by omega⟩, ← rfl]; exact rR_t S115.1)
                | (rw [pFac_par (ho.resolve_right (fun z => by omega)).2 (by omega) (S115.b1 (by omega)) (by omega)]; exact rR_t S115.1)
                | (rw [pFac_pn (ho.resolve_right (fun z => by omega)).2 (by omega) (S115.b1 (by omega)) (by omega)]; exact rR_f S115.1)
                | (rw [pFac_pf (ho.resolve_right (fun z => by omega)).2 (by omega) (S115.b0 (by omega))]; exact S115.ze (by omega))
                | (rw [pFac_no (fun z => by omega) (fun z => by omega) (fun z => absurd z.1 (fun z1 => by have y := ho.resolve_left (fun y => by omega); rw [z1] at y; cases y.2))]; exact rR_f S115.1)
                | (exfalso; omega)
              · refine zwW_p [(1, 0, 2)] (q := 131) (ls' := [(2, 9), (0, a)]) (st' := [(2, 9)]) (by decide +kernel) rfl ?_
                refine zwW_cm Ch14.1 (op := 60) (k' := 198) (n := 0) (kd := 7) (m := 9) (nx := 134) (r := 9) (tl := []) (st' := []) (by decide +kernel) rfl (by decide +kernel) (Nat.ble_eq_true_of_le (by omega)) (x198_q h14 Ch14 t n (sub t n (pA t n s)).2 Bh14 S115.1 (Vh14.wk).2) ?_
                rintro x h19 ⟨Ch19, Qh19, rfl, f18⟩
                have Xh19 : zXR msxK (0) (0) h h19 := Xh14.tr (c2 := 0) (s2 := 0) Qh19 (by decide +kernel) (by decide) (by decide)
                have th19_9_6 : fld h19 9 6 = fld h14 9 6 := Qh19.f (a1 := 9) (a2 := 9) (j1 := 6) (j2 := 7) (by decide +kernel) (by first | decide | exact ⟨by decide, by decide⟩) (by first | decide | exact ⟨by decide, by decide⟩) (by first | decide | exact ⟨by decide, by decide⟩)
                have Bh19 : rB t n h19 := Bh14.fr Qh19 (by decide +kernel)
                have Vh19 : rV n (pA t n ((sub t n (pA t n s)).2)) := (Vh14.wk).a (by omega)
                refine zwif_eq (q := 141) (nx := 137) (by decide +kernel) (fun c20 => ?_) (fun c20 => ?_)
                · exfalso; omega
                · refine zwW_p [(0, 1, 0), (24, 142, 0)] (q := 142) (ls' := [(2, 9), (0, a)]) (st' := [(0, 1)]) (by decide +kernel) rfl ?_
                  refine zwW_ret (nx := 143) (a := 1) (b := 0) (by decide +kernel) rfl (Or.inr (Or.inl ⟨rfl, Or.inr rfl⟩)) ?_
                  refine ⟨Ch19, Xh19.le (by decide) (by decide), by omega, ?_⟩
                  show rR t n h19 1 (pFac t n o (sub t n) s)
                  first
                  | (rw [pFac_num (by omega) (by omega), ← rfl]; exact rR_t f18)
                  | (rw [pFac_wd (by omega) ⟨by omega, by omega⟩, ← rfl]; exact rR_t f18)
                  | (rw [pFac_par (ho.resolve_right (fun z => by omega)).2 (by omega) (S115.b1 (by omega)) (by omega)]; exact rR_t f18)
                  | (rw [pFac_pn (ho.resolve_right (fun z => by omega)).2 (by omega) (S115.b1 (by omega)) (by omega)]; exact rR_f f18)
                  | (rw [pFac_pf (ho.resolve_right (fun z => by omega)).2 (by omega) (S115.b0 (by omega))]; exact S115.ze (by omega))
                  | (rw [pFac_no (fun z => by omega) (fun z => by omega) (fun z => absurd z.1 (fun z1 => by have y := ho.resolve_left (fun y => by omega); rw [z1] at y; cases y.2))]; exact rR_f f18)
                  | (exfalso; omega)
    · refine zwW_p [(1, 0, 2)] (q := 51) (ls' := [(2, 9), (0, a)]) (st' := [(2, 9)]) (by decide +kernel) rfl ?_
      refine zwW_gs C.1 (kd := 7) (bn := 5) (n := 9) (t := 0) (lo := -2147483648) (hi := 2147483647) (nx := 54) (by decide +kernel) ?_
      intro v21 ev21 lv21 uv21
      have kv21 : pK t n s.1 = 1 ∨ pK t n s.1 = 2 → v21 = pV t n s.1 := fun z => ev21.trans ((Q0).vl z)
      have VA := kv21
      refine zwW_p [(0, 0, 0), (0, 12, 0)] (q := 57) (ls' := [(2, 9), (0, a)]) (st' := [(0, 12), (0, 0), (0, v21)]) (by decide +kernel) rfl ?_
      refine zwW_cs (k' := 98) (n := 3) (nx := 60) (as := [(0, v21), (0, 0), (0, 12)]) (st' := []) (by decide +kernel) rfl (x98 h C v21 0 12 (by omega) (by omega) (by omega)) (Nat.ble_eq_true_of_le (by omega)) ?_
      rintro x _ ⟨rfl, ⟨rfl, c22⟩ | ⟨rfl, c22⟩⟩
      · refine zwif_ne (q := 89) (nx := 63) (by decide +kernel) (fun c23 => ?_) (fun c23 => ?_)
        · refine zwW_p [(1, 1, 0), (0, 8, 0)] (q := 92) (ls' := [(2, 9), (0, a)]) (st' := [(0, 8), (0, a)]) (by decide +kernel) rfl ?_
          refine zwic_ge (q := 141) (nx := 95) (by decide +kernel) (fun c24 => ?_) (fun c24 => ?_)
          · refine zwW_p [(0, 0, 0)] (q := 142) (ls' := [(2, 9), (0, a)]) (st' := [(0, 0)]) (by decide +kernel) rfl ?_
            refine zwW_ret (nx := 143) (a := 1) (b := 0) (by decide +kernel) rfl (Or.inr (Or.inl ⟨rfl, Or.inl rfl⟩)) ?_
            refine ⟨C, X.le (by decide) (by decide), by omega, ?_⟩
            show rR t n h 0 (pFac t n o (sub t n) s)
            first
            | (rw [pFac_num (by omega) (by omega), ← rfl]; exact rR_t Q0)
            | (rw [pFac_wd (by omega) ⟨by omega, by omega⟩, ← rfl]; exact rR_t Q0)
            | (rw [pFac_par (ho.resolve_right (fun z => by omega)).2 (by omega) (S115.b1 (by omega)) (by omega)]; exact rR_t Q0)
            | (rw [pFac_pn (ho.resolve_right (fun z => by omega)).2 (by omega) (S115.b1 (by omega)) (by omega)]; exact rR_f Q0)
            | (rw [pFac_pf (ho.resolve_right (fun z => by omega)).2 (by omega) (S115.b0 (by omega))]; exact S115.ze (by omega))
            | (rw [pFac_no (fun z => by omega) (fun z => by omega) (fun z => absurd z.1 (fun z1 => by have y := ho.resolve_left (fun y => by omega); rw [z1] at y; cases y.2))]; exact rR_f Q0)
            | (exfalso; omega)
          · refine zwW_p [(1, 0, 2)] (q := 96) (ls' := [(2, 9), (0, a)]) (st' := [(2, 9)]) (by decide +kernel) rfl ?_
            refine zwW_gs C.1 (kd := 7) (bn := 4) (n := 9) (t := 0) (lo := -2147483648) (hi := 2147483647) (nx := 99) (by decide +kernel) ?_
            intro v25 ev25 lv25 uv25
            have kv25 : v25 = pK t n s.1 := ev25.trans (Q0).kd
            refine zwW_p [(0, 40, 0)] (q := 101) (ls' := [(2, 9), (0, a)]) (st' := [(0, 40), (0, v25)]) (by decide +kernel) rfl ?_
            refine zwic_ne (q := 141) (nx := 104) (by decide +kernel) (fun c26 => ?_) (fun c26 => ?_)
            · refine zwW_p [(0, 0, 0)] (q := 142) (ls' := [(2, 9), (0, a)]) (st' := [(0, 0)]) (by decide +kernel) rfl ?_
              refine zwW_ret (nx := 143) (a := 1) (b := 0) (by decide +kernel) rfl (Or.inr (Or.inl ⟨rfl, Or.inl rfl⟩)) ?_
              refine ⟨C, X.le (by decide) (by decide), by omega, ?_⟩
              show rR t n h 0 (pFac t n o (sub t n) s)
              first
              | (rw [pFac_num (by omega) (by omega), ← rfl]; exact rR_t Q0)
              | (rw [pFac_wd (by omega) ⟨by omega, by omega⟩, ← rfl]; exact rR_t Q0)
              | (rw [pFac_par (ho.resolve_right (fun z => by omega)).2 (by omega) (S115.b1 (by omega)) (by omega)]; exact rR_t Q0)
              | (rw [pFac_pn (ho.resolve_right (fun z => by omega)).2 (by omega) (S115.b1 (by omega)) (by omega)]; exact rR_f Q0)
              | (rw [pFac_pf (ho.resolve_right (fun z => by omega)).2 (by omega) (S115.b0 (by omega))]; exact S115.ze (by omega))
              | (rw [pFac_no (fun z => by omega) (fun z => by omega) (fun z => absurd z.1 (fun z1 => by have y := ho.resolve_left (fun y => by omega); rw [z1] at y; cases y.2))]; exact rR_f Q0)
              | (exfalso; omega)
            · refine zwW_p [(1, 0, 2)] (q := 105) (ls' := [(2, 9), (0, a)]) (st' := [(2, 9)]) (by decide +kernel) rfl ?_
              refine zwW_cm C.1 (op := 60) (k' := 198) (n := 0) (kd := 7) (m := 9) (nx := 108) (r := 9) (tl := []) (st' := []) (by decide +kernel) rfl (by decide +kernel) (Nat.ble_eq_true_of_le (by omega)) (x198_q h C t n s B Q0 (W0).2) ?_
              rintro x h28 ⟨Ch28, Qh28, rfl, f27⟩
              have Xh28 : zXR msxK (0) (0) h h28 := X.tr (c2 := 0) (s2 := 0) Qh28 (by decide +kernel) (by decide) (by decide)
              have th28_9_6 : fld h28 9 6 = fld h 9 6 := Qh28.f (a1 := 9) (a2 := 9) (j1 := 6) (j2 := 7) (by decide +kernel) (by first | decide | exact ⟨by decide, by decide⟩) (by first | decide | exact ⟨by decide, by decide⟩) (by first | decide | exact ⟨by decide, by decide⟩)
              have Bh28 : rB t n h28 := B.fr Qh28 (by decide +kernel)
              have Vh28 : rV n (pA t n s) := (W0).a (by omega)
              refine zwif_eq (q := 141) (nx := 111) (by decide +kernel) (fun c29 => ?_) (fun c29 => ?_)
              · exfalso; omega
              · refine zwW_p [(1, 0, 2), (1, 1, 0), (0, 1, 0)] (q := 114) (ls' := [(2, 9), (0, a)]) (st' := [(0, 1), (0, a), (2, 9)]) (by decide +kernel) rfl ?_
                refine zwW_add (nx := 115) (by decide +kernel) (by first | omega | exact ⟨by omega, by omega⟩) ?_
                refine zwW_cm Ch28.1 (op := 60) (k' := 241) (n := 1) (kd := 7) (m := 9) (nx := 118) (r := 9) (tl := [(0, (a + 1))]) (st' := []) (by decide +kernel) rfl (by decide +kernel) (Nat.ble_eq_true_of_le (by omega)) (HS (by omega) h28 Ch28 t n (pA t n s) Bh28 f27 Vh28.wk) ?_
                rintro v32 h33 ⟨Ch33, Qh33, f30, f31⟩
                have Xh33 : zXR msxK (0) (0) h h33 := Xh28.tr (c2 := 0) (s2 := 0) Qh33 (by decide +kernel) (by decide) (by decide)
                have Bh33 : rB t n h33 := Bh28.fr Qh33 (by decide +kernel)
                have S115 := f31
                have Vh33 : rV n ((sub t n) (pA t n s)).2 := (Vh28).fn (hs t n)
                refine zwif_eq (q := 141) (nx := 121) (by decide +kernel) (fun c34 => ?_) (fun c34 => ?_)
                · refine zwW_p [(0, 0, 0)] (q := 142) (ls' := [(2, 9), (0, a)]) (st' := [(0, 0)]) (by decide +kernel) rfl ?_
                  refine zwW_ret (nx := 143) (a := 1) (b := 0) (by decide +kernel) rfl (Or.inr (Or.inl ⟨rfl, Or.inl rfl⟩)) ?_
                  refine ⟨Ch33, Xh33.le (by decide) (by decide), by omega, ?_⟩
                  show rR t n h33 0 (pFac t n o (sub t n) s)
                  first
                  | (rw [pFac_num (by omega) (by omega), ← rfl]; exact rR_t S115.1)
                  | (rw [pFac_wd (by omega) ⟨by omega, by omega⟩, ← rfl]; exact rR_t S115.1)
                  | (rw [pFac_par (ho.resolve_right (fun z => by omega)).2 (by omega) (S115.b1 (by omega)) (by omega)]; exact rR_t S115.1)
                  | (rw [pFac_pn (ho.resolve_right (fun z => by omega)).2 (by omega) (S115.b1 (by omega)) (by omega)]; exact rR_f S115.1)
                  | (rw [pFac_pf (ho.resolve_right (fun z => by omega)).2 (by omega) (S115.b0 (by omega))]; exact S115.ze (by omega))
                  | (rw [pFac_no (fun z => by omega) (fun z => by omega) (fun z => absurd z.1 (fun z1 => by have y := ho.resolve_left (fun y => by omega); rw [z1] at y; cases y.2))]; exact rR_f S115.1)
                  | (exfalso; omega)
                · refine zwW_p [(1, 0, 2)] (q := 122) (ls' := [(2, 9), (0, a)]) (st' := [(2, 9)]) (by decide +kernel) rfl ?_
                  refine zwW_gs Ch33.1 (kd := 7) (bn := 4) (n := 9) (t := 0) (lo := -2147483648) (hi := 2147483647) (nx := 125) (by decide +kernel) ?_
                  intro v35 ev35 lv35 uv35
                  have kv35 : v35 = pK t n (sub t n (pA t n s)).2.1 := ev35.trans (S115.1).kd
                  refine zwW_p [(0, 41, 0)] (q := 127) (ls' := [(2, 9), (0, a)]) (st' := [(0, 41), (0, v35)]) (by decide +kernel) rfl ?_
                  refine zwic_ne (q := 141) (nx := 130) (by decide +kernel) (fun c36 => ?_) (fun c36 => ?_)
                  · refine zwW_p [(0, 0, 0)] (q := 142) (ls' := [(2, 9), (0, a)]) (st' := [(0, 0)]) (by decide +kernel) rfl ?_
                    refine zwW_ret (nx := 143) (a := 1) (b := 0) (by decide +kernel) rfl (Or.inr (Or.inl ⟨rfl, Or.inl rfl⟩)) ?_
                    refine ⟨Ch33, Xh33.le (by decide) (by decide), by omega, ?_⟩
                    show rR t n h33 0 (pFac t n o (sub t n) s)
                    first
                    | (rw [pFac_num (by omega) (by omega), ← rfl]; exact rR_t S115.1)
                    | (rw [pFac_wd (by omega) ⟨by omega, by omega⟩, ← rfl]; exact rR_t S115.1)
                    | (rw [pFac_par (ho.resolve_right (fun z => by omega)).2 (by omega) (S115.b1 (by omega)) (by omega)]; exact rR_t S115.1)
                    | (rw [pFac_pn (ho.resolve_right (fun z => by omega)).2 (by omega) (S115.b1 (by omega)) (by omega)]; exact rR_f S115.1)
                    | (rw [pFac_pf (ho.resolve_right (fun z => by omega)).2 (by omega) (S115.b0 (by omega))]; exact S115.ze (by omega))
                    | (rw [pFac_no (fun z => by omega) (fun z => by omega) (fun z => absurd z.1 (fun z1 => by have y := ho.resolve_left (fun y => by omega); rw [z1] at y; cases y.2))]; exact rR_f S115.1)
                    | (exfalso; omega)
                  · refine zwW_p [(1, 0, 2)] (q := 131) (ls' := [(2, 9), (0, a)]) (st' := [(2, 9)]) (by decide +kernel) rfl ?_
                    refine zwW_cm Ch33.1 (op := 60) (k' := 198) (n := 0) (kd := 7) (m := 9) (nx := 134) (r := 9) (tl := []) (st' := []) (by decide +kernel) rfl (by decide +kernel) (Nat.ble_eq_true_of_le (by omega)) (x198_q h33 Ch33 t n (sub t n (pA t n s)).2 Bh33 S115.1 (Vh33.wk).2) ?_
                    rintro x h38 ⟨Ch38, Qh38, rfl, f37⟩
                    have Xh38 : zXR msxK (0) (0) h h38 := Xh33.tr (c2 := 0) (s2 := 0) Qh38 (by decide +kernel) (by decide) (by decide)
                    have th38_9_6 : fld h38 9 6 = fld h33 9 6 := Qh38.f (a1 := 9) (a2 := 9) (j1 := 6) (j2 := 7) (by decide +kernel) (by first | decide | exact ⟨by decide, by decide⟩) (by first | decide | exact ⟨by decide, by decide⟩) (by first | decide | exact ⟨by decide, by decide⟩)
                    have Bh38 : rB t n h38 := Bh33.fr Qh38 (by decide +kernel)
                    have Vh38 : rV n (pA t n ((sub t n (pA t n s)).2)) := (Vh33.wk).a (by omega)
                    refine zwif_eq (q := 141) (nx := 137) (by decide +kernel) (fun c39 => ?_) (fun c39 => ?_)
                    · exfalso; omega
                    · refine zwW_p [(0, 1, 0), (24, 142, 0)] (q := 142) (ls' := [(2, 9), (0, a)]) (st' := [(0, 1)]) (by decide +kernel) rfl ?_
                      refine zwW_ret (nx := 143) (a := 1) (b := 0) (by decide +kernel) rfl (Or.inr (Or.inl ⟨rfl, Or.inr rfl⟩)) ?_
                      refine ⟨Ch38, Xh38.le (by decide) (by decide), by omega, ?_⟩
                      show rR t n h38 1 (pFac t n o (sub t n) s)
                      first
                      | (rw [pFac_num (by omega) (by omega), ← rfl]; exact rR_t f37)
                      | (rw [pFac_wd (by omega) ⟨by omega, by omega⟩, ← rfl]; exact rR_t f37)
                      | (rw [pFac_par (ho.resolve_right (fun z => by omega)).2 (by omega) (S115.b1 (by omega)) (by omega)]; exact rR_t f37)
                      | (rw [pFac_pn (ho.resolve_right (fun z => by omega)).2 (by omega) (S115.b1 (by omega)) (by omega)]; exact rR_f f37)
                      | (rw [pFac_pf (ho.resolve_right (fun z => by omega)).2 (by omega) (S115.b0 (by omega))]; exact S115.ze (by omega))
                      | (rw [pFac_no (fun z => by omega) (fun z => by omega) (fun z => absurd z.1 (fun z1 => by have y := ho.resolve_left (fun y => by omega); rw [z1] at y; cases y.2))]; exact rR_f f37)
                      | (exfalso; omega)
        · exfalso; omega
      · refine zwif_ne (q := 89) (nx := 63) (by decide +kernel) (fun c40 => ?_) (fun c40 => ?_)
        · exfalso; omega
        · refine zwW_p [(1, 0, 2), (0, -1, 0), (1, 0, 2)] (q := 66) (ls' := [(2, 9), (0, a)]) (st' := [(2, 9), (0, -1), (2, 9)]) (by decide +kernel) rfl ?_
          refine zwW_gs C.1 (kd := 7) (bn := 5) (n := 9) (t := 0) (lo := -2147483648) (hi := 2147483647) (nx := 69) (by decide +kernel) ?_
          intro v41 ev41 lv41 uv41
          have kv41 : pK t n s.1 = 1 ∨ pK t n s.1 = 2 → v41 = pV t n s.1 := fun z => ev41.trans ((Q0).vl z)
          have VV := kv41 (by omega)
          refine zwW_sub (nx := 70) (by decide +kernel) (by first | omega | exact ⟨by omega, by omega⟩) ?_
          refine zwW_cm C.1 (op := 60) (k' := 243) (n := 1) (kd := 7) (m := 9) (nx := 73) (r := 9) (tl := [(0, (-1 - v41))]) (st' := []) (by decide +kernel) rfl (by decide +kernel) (Nat.ble_eq_true_of_le (by omega)) (x243_q h C (-1 - v41) t n s (by omega) Q0 (W0.lt B Q0 (by omega))) ?_
          rintro x h43 ⟨Ch43, Qh43, rfl, f42⟩
          have Xh43 : zXR msxK (0) (0) h h43 := X.tr (c2 := 0) (s2 := 0) Qh43 (by decide +kernel) (by decide) (by decide)
          have Bh43 : rB t n h43 := B.fr Qh43 (by decide +kernel)
          refine zwif_eq (q := 87) (nx := 76) (by decide +kernel) (fun c44 => ?_) (fun c44 => ?_)
          · exfalso; omega
          · refine zwW_p [(1, 0, 2)] (q := 77) (ls' := [(2, 9), (0, a)]) (st' := [(2, 9)]) (by decide +kernel) rfl ?_
            refine zwW_cm Ch43.1 (op := 60) (k' := 198) (n := 0) (kd := 7) (m := 9) (nx := 80) (r := 9) (tl := []) (st' := []) (by decide +kernel) rfl (by decide +kernel) (Nat.ble_eq_true_of_le (by omega)) (x198_q h43 Ch43 t n (pW (-1 - v41) s) Bh43 f42 (W0).2) ?_
            rintro x h46 ⟨Ch46, Qh46, rfl, f45⟩
            have Xh46 : zXR msxK (0) (0) h h46 := Xh43.tr (c2 := 0) (s2 := 0) Qh46 (by decide +kernel) (by decide) (by decide)
            have th46_9_6 : fld h46 9 6 = fld h43 9 6 := Qh46.f (a1 := 9) (a2 := 9) (j1 := 6) (j2 := 7) (by decide +kernel) (by first | decide | exact ⟨by decide, by decide⟩) (by first | decide | exact ⟨by decide, by decide⟩) (by first | decide | exact ⟨by decide, by decide⟩)
            have Bh46 : rB t n h46 := Bh43.fr Qh46 (by decide +kernel)
            refine zwif_eq (q := 87) (nx := 83) (by decide +kernel) (fun c47 => ?_) (fun c47 => ?_)
            · exfalso; omega
            · refine zwW_p [(0, 1, 0), (24, 88, 0)] (q := 88) (ls' := [(2, 9), (0, a)]) (st' := [(0, 1)]) (by decide +kernel) rfl ?_
              refine zwW_ret (nx := 89) (a := 1) (b := 0) (by decide +kernel) rfl (Or.inr (Or.inl ⟨rfl, Or.inr rfl⟩)) ?_
              refine ⟨Ch46, Xh46.le (by decide) (by decide), by omega, ?_⟩
              show rR t n h46 1 (pFac t n o (sub t n) s)
              first
              | (rw [pFac_num (by omega) (by omega), ← VV]; exact rR_t f45)
              | (rw [pFac_wd (by omega) ⟨by omega, by omega⟩, ← VV]; exact rR_t f45)
              | (rw [pFac_par (ho.resolve_right (fun z => by omega)).2 (by omega) (S115.b1 (by omega)) (by omega)]; exact rR_t f45)
              | (rw [pFac_pn (ho.resolve_right (fun z => by omega)).2 (by omega) (S115.b1 (by omega)) (by omega)]; exact rR_f f45)
              | (rw [pFac_pf (ho.resolve_right (fun z => by omega)).2 (by omega) (S115.b0 (by omega))]; exact S115.ze (by omega))
              | (rw [pFac_no (fun z => by omega) (fun z => by omega) (fun z => absurd z.1 (fun z1 => by have y := ho.resolve_left (fun y => by omega); rw [z1] at y; cases y.2))]; exact rR_f f45)
              | (exfalso; omega)
  · refine zwW_p [(1, 0, 2)] (q := 9) (ls' := [(2, 9), (0, a)]) (st' := [(2, 9)]) (by decide +kernel) rfl ?_
    refine zwW_gs C.1 (kd := 7) (bn := 5) (n := 9) (t := 0) (lo := -2147483648) (hi := 2147483647) (nx := 12) (by decide +kernel) ?_
    intro v48 ev48 lv48 uv48
    have kv48 : pK t n s.1 = 1 ∨ pK t n s.1 = 2 → v48 = pV t n s.1 := fun z => ev48.trans ((Q0).vl z)
    have VA := kv48
    refine zwW_p [(0, 9999, 0)] (q := 15) (ls' := [(2, 9), (0, a)]) (st' := [(0, 9999), (0, v48)]) (by decide +kernel) rfl ?_
    refine zwic_gt (q := 42) (nx := 18) (by decide +kernel) (fun c49 => ?_) (fun c49 => ?_)
    · refine zwW_p [(1, 0, 2)] (q := 43) (ls' := [(2, 9), (0, a)]) (st' := [(2, 9)]) (by decide +kernel) rfl ?_
      refine zwW_gs C.1 (kd := 7) (bn := 4) (n := 9) (t := 0) (lo := -2147483648) (hi := 2147483647) (nx := 46) (by decide +kernel) ?_
      intro v50 ev50 lv50 uv50
      have kv50 : v50 = pK t n s.1 := ev50.trans (Q0).kd
      refine zwW_p [(0, 1, 0)] (q := 47) (ls' := [(2, 9), (0, a)]) (st' := [(0, 1), (0, v50)]) (by decide +kernel) rfl ?_
      refine zwic_ne (q := 89) (nx := 50) (by decide +kernel) (fun c51 => ?_) (fun c51 => ?_)
      · refine zwW_p [(1, 1, 0), (0, 8, 0)] (q := 92) (ls' := [(2, 9), (0, a)]) (st' := [(0, 8), (0, a)]) (by decide +kernel) rfl ?_
        refine zwic_ge (q := 141) (nx := 95) (by decide +kernel) (fun c52 => ?_) (fun c52 => ?_)
        · refine zwW_p [(0, 0, 0)] (q := 142) (ls' := [(2, 9), (0, a)]) (st' := [(0, 0)]) (by decide +kernel) rfl ?_
          refine zwW_ret (nx := 143) (a := 1) (b := 0) (by decide +kernel) rfl (Or.inr (Or.inl ⟨rfl, Or.inl rfl⟩)) ?_
          refine ⟨C, X.le (by decide) (by decide), by omega, ?_⟩
          show rR t n h 0 (pFac t n o (sub t n) s)
          first
          | (rw [pFac_num (by omega) (by omega), ← rfl]; exact rR_t Q0)
          | (rw [pFac_wd (by omega) ⟨by omega, by omega⟩, ← rfl]; exact rR_t Q0)
          | (rw [pFac_par (ho.resolve_right (fun z => by omega)).2 (by omega) (S115.b1 (by omega)) (by omega)]; exact rR_t Q0)
          | (rw [pFac_pn (ho.resolve_right (fun z => by omega)).2 (by omega) (S115.b1 (by omega)) (by omega)]; exact rR_f Q0)
          | (rw [pFac_pf (ho.resolve_right (fun z => by omega)).2 (by omega) (S115.b0 (by omega))]; exact S115.ze (by omega))
          | (rw [pFac_no (fun z => by omega) (fun z => by omega) (fun z => absurd z.1 (fun z1 => by have y := ho.resolve_left (fun y => by omega); rw [z1] at y; cases y.2))]; exact rR_f Q0)
          | (exfalso; omega)
        · refine zwW_p [(1, 0, 2)] (q := 96) (ls' := [(2, 9), (0, a)]) (st' := [(2, 9)]) (by decide +kernel) rfl ?_
          refine zwW_gs C.1 (kd := 7) (bn := 4) (n := 9) (t := 0) (lo := -2147483648) (hi := 2147483647) (nx := 99) (by decide +kernel) ?_
          intro v53 ev53 lv53 uv53
          have kv53 : v53 = pK t n s.1 := ev53.trans (Q0).kd
          refine zwW_p [(0, 40, 0)] (q := 101) (ls' := [(2, 9), (0, a)]) (st' := [(0, 40), (0, v53)]) (by decide +kernel) rfl ?_
          refine zwic_ne (q := 141) (nx := 104) (by decide +kernel) (fun c54 => ?_) (fun c54 => ?_)
          · refine zwW_p [(0, 0, 0)] (q := 142) (ls' := [(2, 9), (0, a)]) (st' := [(0, 0)]) (by decide +kernel) rfl ?_
            refine zwW_ret (nx := 143) (a := 1) (b := 0) (by decide +kernel) rfl (Or.inr (Or.inl ⟨rfl, Or.inl rfl⟩)) ?_
            refine ⟨C, X.le (by decide) (by decide), by omega, ?_⟩
            show rR t n h 0 (pFac t n o (sub t n) s)
            first
            | (rw [pFac_num (by omega) (by omega), ← rfl]; exact rR_t Q0)
            | (rw [pFac_wd (by omega) ⟨by omega, by omega⟩, ← rfl]; exact rR_t Q0)
            | (rw [pFac_par (ho.resolve_right (fun z => by omega)).2 (by omega) (S115.b1 (by omega)) (by omega)]; exact rR_t Q0)
            | (rw [pFac_pn (ho.resolve_right (fun z => by omega)).2 (by omega) (S115.b1 (by omega)) (by omega)]; exact rR_f Q0)
            | (rw [pFac_pf (ho.resolve_right (fun z => by omega)).2 (by omega) (S115.b0 (by omega))]; exact S115.ze (by omega))
            | (rw [pFac_no (fun z => by omega) (fun z => by omega) (fun z => absurd z.1 (fun z1 => by have y := ho.resolve_left (fun y => by omega); rw [z1] at y; cases y.2))]; exact rR_f Q0)
            | (exfalso; omega)
          · refine zwW_p [(1, 0, 2)] (q := 105) (ls' := [(2, 9), (0, a)]) (st' := [(2, 9)]) (by decide +kernel) rfl ?_
            refine zwW_cm C.1 (op := 60) (k' := 198) (n := 0) (kd := 7) (m := 9) (nx := 108) (r := 9) (tl := []) (st' := []) (by decide +kernel) rfl (by decide +kernel) (Nat.ble_eq_true_of_le (by omega)) (x198_q h C t n s B Q0 (W0).2) ?_
            rintro x h56 ⟨Ch56, Qh56, rfl, f55⟩
            have Xh56 : zXR msxK (0) (0) h h56 := X.tr (c2 := 0) (s2 := 0) Qh56 (by decide +kernel) (by decide) (by decide)
            have th56_9_6 : fld h56 9 6 = fld h 9 6 := Qh56.f (a1 := 9) (a2 := 9) (j1 := 6) (j2 := 7) (by decide +kernel) (by first | decide | exact ⟨by decide, by decide⟩) (by first | decide | exact ⟨by decide, by decide⟩) (by first | decide | exact ⟨by decide, by decide⟩)
            have Bh56 : rB t n h56 := B.fr Qh56 (by decide +kernel)
            have Vh56 : rV n (pA t n s) := (W0).a (by omega)
            refine zwif_eq (q := 141) (nx := 111) (by decide +kernel) (fun c57 => ?_) (fun c57 => ?_)
            · exfalso; omega
            · refine zwW_p [(1, 0, 2), (1, 1, 0), (0, 1, 0)] (q := 114) (ls' := [(2, 9), (0, a)]) (st' := [(0, 1), (0, a), (2, 9)]) (by decide +kernel) rfl ?_
              refine zwW_add (nx := 115) (by decide +kernel) (by first | omega | exact ⟨by omega, by omega⟩) ?_
              refine zwW_cm Ch56.1 (op := 60) (k' := 241) (n := 1) (kd := 7) (m := 9) (nx := 118) (r := 9) (tl := [(0, (a + 1))]) (st' := []) (by decide +kernel) rfl (by decide +kernel) (Nat.ble_eq_true_of_le (by omega)) (HS (by omega) h56 Ch56 t n (pA t n s) Bh56 f55 Vh56.wk) ?_
              rintro v60 h61 ⟨Ch61, Qh61, f58, f59⟩
              have Xh61 : zXR msxK (0) (0) h h61 := Xh56.tr (c2 := 0) (s2 := 0) Qh61 (by decide +kernel) (by decide) (by decide)
              have Bh61 : rB t n h61 := Bh56.fr Qh61 (by decide +kernel)
              have S115 := f59
              have Vh61 : rV n ((sub t n) (pA t n s)).2 := (Vh56).fn (hs t n)
              refine zwif_eq (q := 141) (nx := 121) (by decide +kernel) (fun c62 => ?_) (fun c62 => ?_)
              · refine zwW_p [(0, 0, 0)] (q := 142) (ls' := [(2, 9), (0, a)]) (st' := [(0, 0)]) (by decide +kernel) rfl ?_
                refine zwW_ret (nx := 143) (a := 1) (b := 0) (by decide +kernel) rfl (Or.inr (Or.inl ⟨rfl, Or.inl rfl⟩)) ?_
                refine ⟨Ch61, Xh61.le (by decide) (by decide), by omega, ?_⟩
                show rR t n h61 0 (pFac t n o (sub t n) s)
                first
                | (rw [pFac_num (by omega) (by omega), ← rfl]; exact rR_t S115.1)
                | (rw [pFac_wd (by omega) ⟨by omega, by omega⟩, ← rfl]; exact rR_t S115.1)
                | (rw [pFac_par (ho.resolve_right (fun z => by omega)).2 (by omega) (S115.b1 (by omega)) (by omega)]; exact rR_t S115.1)
                | (rw [pFac_pn (ho.resolve_right (fun z => by omega)).2 (by omega) (S115.b1 (by omega)) (by omega)]; exact rR_f S115.1)
                | (rw [pFac_pf (ho.resolve_right (fun z => by omega)).2 (by omega) (S115.b0 (by omega))]; exact S115.ze (by omega))
                | (rw [pFac_no (fun z => by omega) (fun z => by omega) (fun z => absurd z.1 (fun z1 => by have y := ho.resolve_left (fun y => by omega); rw [z1] at y; cases y.2))]; exact rR_f S115.1)
                | (exfalso; omega)
              · refine zwW_p [(1, 0, 2)] (q := 122) (ls' := [(2, 9), (0, a)]) (st' := [(2, 9)]) (by decide +kernel) rfl ?_
                refine zwW_gs Ch61.1 (kd := 7) (bn := 4) (n := 9) (t := 0) (lo := -2147483648) (hi := 2147483647) (nx := 125) (by decide +kernel) ?_
                intro v63 ev63 lv63 uv63
                have kv63 : v63 = pK t n (sub t n (pA t n s)).2.1 := ev63.trans (S115.1).kd
                refine zwW_p [(0, 41, 0)] (q := 127) (ls' := [(2, 9), (0, a)]) (st' := [(0, 41), (0, v63)]) (by decide +kernel) rfl ?_
                refine zwic_ne (q := 141) (nx := 130) (by decide +kernel) (fun c64 => ?_) (fun c64 => ?_)
                · refine zwW_p [(0, 0, 0)] (q := 142) (ls' := [(2, 9), (0, a)]) (st' := [(0, 0)]) (by decide +kernel) rfl ?_
                  refine zwW_ret (nx := 143) (a := 1) (b := 0) (by decide +kernel) rfl (Or.inr (Or.inl ⟨rfl, Or.inl rfl⟩)) ?_
                  refine ⟨Ch61, Xh61.le (by decide) (by decide), by omega, ?_⟩
                  show rR t n h61 0 (pFac t n o (sub t n) s)
                  first
                  | (rw [pFac_num (by omega) (by omega), ← rfl]; exact rR_t S115.1)
                  | (rw [pFac_wd (by omega) ⟨by omega, by omega⟩, ← rfl]; exact rR_t S115.1)
                  | (rw [pFac_par (ho.resolve_right (fun z => by omega)).2 (by omega) (S115.b1 (by omega)) (by omega)]; exact rR_t S115.1)
                  | (rw [pFac_pn (ho.resolve_right (fun z => by omega)).2 (by omega) (S115.b1 (by omega)) (by omega)]; exact rR_f S115.1)
                  | (rw [pFac_pf (ho.resolve_right (fun z => by omega)).2 (by omega) (S115.b0 (by omega))]; exact S115.ze (by omega))
                  | (rw [pFac_no (fun z => by omega) (fun z => by omega) (fun z => absurd z.1 (fun z1 => by have y := ho.resolve_left (fun y => by omega); rw [z1] at y; cases y.2))]; exact rR_f S115.1)
                  | (exfalso; omega)
                · refine zwW_p [(1, 0, 2)] (q := 131) (ls' := [(2, 9), (0, a)]) (st' := [(2, 9)]) (by decide +kernel) rfl ?_
                  refine zwW_cm Ch61.1 (op := 60) (k' := 198) (n := 0) (kd := 7) (m := 9) (nx := 134) (r := 9) (tl := []) (st' := []) (by decide +kernel) rfl (by decide +kernel) (Nat.ble_eq_true_of_le (by omega)) (x198_q h61 Ch61 t n (sub t n (pA t n s)).2 Bh61 S115.1 (Vh61.wk).2) ?_
                  rintro x h66 ⟨Ch66, Qh66, rfl, f65⟩
                  have Xh66 : zXR msxK (0) (0) h h66 := Xh61.tr (c2 := 0) (s2 := 0) Qh66 (by decide +kernel) (by decide) (by decide)
                  have th66_9_6 : fld h66 9 6 = fld h61 9 6 := Qh66.f (a1 := 9) (a2 := 9) (j1 := 6) (j2 := 7) (by decide +kernel) (by first | decide | exact ⟨by decide, by decide⟩) (by first | decide | exact ⟨by decide, by decide⟩) (by first | decide | exact ⟨by decide, by decide⟩)
                  have Bh66 : rB t n h66 := Bh61.fr Qh66 (by decide +kernel)
                  have Vh66 : rV n (pA t n ((sub t n (pA t n s)).2)) := (Vh61.wk).a (by omega)
                  refine zwif_eq (q := 141) (nx := 137) (by decide +kernel) (fun c67 => ?_) (fun c67 => ?_)
                  · exfalso; omega
                  · refine zwW_p [(0, 1, 0), (24, 142, 0)] (q := 142) (ls' := [(2, 9), (0, a)]) (st' := [(0, 1)]) (by decide +kernel) rfl ?_
                    refine zwW_ret (nx := 143) (a := 1) (b := 0) (by decide +kernel) rfl (Or.inr (Or.inl ⟨rfl, Or.inr rfl⟩)) ?_
                    refine ⟨Ch66, Xh66.le (by decide) (by decide), by omega, ?_⟩
                    show rR t n h66 1 (pFac t n o (sub t n) s)
                    first
                    | (rw [pFac_num (by omega) (by omega), ← rfl]; exact rR_t f65)
                    | (rw [pFac_wd (by omega) ⟨by omega, by omega⟩, ← rfl]; exact rR_t f65)
                    | (rw [pFac_par (ho.resolve_right (fun z => by omega)).2 (by omega) (S115.b1 (by omega)) (by omega)]; exact rR_t f65)
                    | (rw [pFac_pn (ho.resolve_right (fun z => by omega)).2 (by omega) (S115.b1 (by omega)) (by omega)]; exact rR_f f65)
                    | (rw [pFac_pf (ho.resolve_right (fun z => by omega)).2 (by omega) (S115.b0 (by omega))]; exact S115.ze (by omega))
                    | (rw [pFac_no (fun z => by omega) (fun z => by omega) (fun z => absurd z.1 (fun z1 => by have y := ho.resolve_left (fun y => by omega); rw [z1] at y; cases y.2))]; exact rR_f f65)
                    | (exfalso; omega)
      · refine zwW_p [(1, 0, 2)] (q := 51) (ls' := [(2, 9), (0, a)]) (st' := [(2, 9)]) (by decide +kernel) rfl ?_
        refine zwW_gs C.1 (kd := 7) (bn := 5) (n := 9) (t := 0) (lo := -2147483648) (hi := 2147483647) (nx := 54) (by decide +kernel) ?_
        intro v68 ev68 lv68 uv68
        have kv68 : pK t n s.1 = 1 ∨ pK t n s.1 = 2 → v68 = pV t n s.1 := fun z => ev68.trans ((Q0).vl z)
        have VA := kv68
        refine zwW_p [(0, 0, 0), (0, 12, 0)] (q := 57) (ls' := [(2, 9), (0, a)]) (st' := [(0, 12), (0, 0), (0, v68)]) (by decide +kernel) rfl ?_
        refine zwW_cs (k' := 98) (n := 3) (nx := 60) (as := [(0, v68), (0, 0), (0, 12)]) (st' := []) (by decide +kernel) rfl (x98 h C v68 0 12 (by omega) (by omega) (by omega)) (Nat.ble_eq_true_of_le (by omega)) ?_
        rintro x _ ⟨rfl, ⟨rfl, c69⟩ | ⟨rfl, c69⟩⟩
        · refine zwif_ne (q := 89) (nx := 63) (by decide +kernel) (fun c70 => ?_) (fun c70 => ?_)
          · refine zwW_p [(1, 1, 0), (0, 8, 0)] (q := 92) (ls' := [(2, 9), (0, a)]) (st' := [(0, 8), (0, a)]) (by decide +kernel) rfl ?_
            refine zwic_ge (q := 141) (nx := 95) (by decide +kernel) (fun c71 => ?_) (fun c71 => ?_)
            · refine zwW_p [(0, 0, 0)] (q := 142) (ls' := [(2, 9), (0, a)]) (st' := [(0, 0)]) (by decide +kernel) rfl ?_
              refine zwW_ret (nx := 143) (a := 1) (b := 0) (by decide +kernel) rfl (Or.inr (Or.inl ⟨rfl, Or.inl rfl⟩)) ?_
              refine ⟨C, X.le (by decide) (by decide), by omega, ?_⟩
              show rR t n h 0 (pFac t n o (sub t n) s)
              first
              | (rw [pFac_num (by omega) (by omega), ← rfl]; exact rR_t Q0)
              | (rw [pFac_wd (by omega) ⟨by omega, by omega⟩, ← rfl]; exact rR_t Q0)
              | (rw [pFac_par (ho.resolve_right (fun z => by omega)).2 (by omega) (S115.b1 (by omega)) (by omega)]; exact rR_t Q0)
              | (rw [pFac_pn (ho.resolve_right (fun z => by omega)).2 (by omega) (S115.b1 (by omega)) (by omega)]; exact rR_f Q0)
              | (rw [pFac_pf (ho.resolve_right (fun z => by omega)).2 (by omega) (S115.b0 (by omega))]; exact S115.ze (by omega))
              | (rw [pFac_no (fun z => by omega) (fun z => by omega) (fun z => absurd z.1 (fun z1 => by have y := ho.resolve_left (fun y => by omega); rw [z1] at y; cases y.2))]; exact rR_f Q0)
              | (exfalso; omega)
            · refine zwW_p [(1, 0, 2)] (q := 96) (ls' := [(2, 9), (0, a)]) (st' := [(2, 9)]) (by decide +kernel) rfl ?_
              refine zwW_gs C.1 (kd := 7) (bn := 4) (n := 9) (t := 0) (lo := -2147483648) (hi := 2147483647) (nx := 99) (by decide +kernel) ?_
              intro v72 ev72 lv72 uv72
              have kv72 : v72 = pK t n s.1 := ev72.trans (Q0).kd
              refine zwW_p [(0, 40, 0)] (q := 101) (ls' := [(2, 9), (0, a)]) (st' := [(0, 40), (0, v72)]) (by decide +kernel) rfl ?_
              refine zwic_ne (q := 141) (nx := 104) (by decide +kernel) (fun c73 => ?_) (fun c73 => ?_)
              · refine zwW_p [(0, 0, 0)] (q := 142) (ls' := [(2, 9), (0, a)]) (st' := [(0, 0)]) (by decide +kernel) rfl ?_
                refine zwW_ret (nx := 143) (a := 1) (b := 0) (by decide +kernel) rfl (Or.inr (Or.inl ⟨rfl, Or.inl rfl⟩)) ?_
                refine ⟨C, X.le (by decide) (by decide), by omega, ?_⟩
                show rR t n h 0 (pFac t n o (sub t n) s)
                first
                | (rw [pFac_num (by omega) (by omega), ← rfl]; exact rR_t Q0)
                | (rw [pFac_wd (by omega) ⟨by omega, by omega⟩, ← rfl]; exact rR_t Q0)
                | (rw [pFac_par (ho.resolve_right (fun z => by omega)).2 (by omega) (S115.b1 (by omega)) (by omega)]; exact rR_t Q0)
                | (rw [pFac_pn (ho.resolve_right (fun z => by omega)).2 (by omega) (S115.b1 (by omega)) (by omega)]; exact rR_f Q0)
                | (rw [pFac_pf (ho.resolve_right (fun z => by omega)).2 (by omega) (S115.b0 (by omega))]; exact S115.ze (by omega))
                | (rw [pFac_no (fun z => by omega) (fun z => by omega) (fun z => absurd z.1 (fun z1 => by have y := ho.resolve_left (fun y => by omega); rw [z1] at y; cases y.2))]; exact rR_f Q0)
                | (exfalso; omega)
              · refine zwW_p [(1, 0, 2)] (q := 105) (ls' := [(2, 9), (0, a)]) (st' := [(2, 9)]) (by decide +kernel) rfl ?_
                refine zwW_cm C.1 (op := 60) (k' := 198) (n := 0) (kd := 7) (m := 9) (nx := 108) (r := 9) (tl := []) (st' := []) (by decide +kernel) rfl (by decide +kernel) (Nat.ble_eq_true_of_le (by omega)) (x198_q h C t n s B Q0 (W0).2) ?_
                rintro x h75 ⟨Ch75, Qh75, rfl, f74⟩
                have Xh75 : zXR msxK (0) (0) h h75 := X.tr (c2 := 0) (s2 := 0) Qh75 (by decide +kernel) (by decide) (by decide)
                have th75_9_6 : fld h75 9 6 = fld h 9 6 := Qh75.f (a1 := 9) (a2 := 9) (j1 := 6) (j2 := 7) (by decide +kernel) (by first | decide | exact ⟨by decide, by decide⟩) (by first | decide | exact ⟨by decide, by decide⟩) (by first | decide | exact ⟨by decide, by decide⟩)
                have Bh75 : rB t n h75 := B.fr Qh75 (by decide +kernel)
                have Vh75 : rV n (pA t n s) := (W0).a (by omega)
                refine zwif_eq (q := 141) (nx := 111) (by decide +kernel) (fun c76 => ?_) (fun c76 => ?_)
                · exfalso; omega
                · refine zwW_p [(1, 0, 2), (1, 1, 0), (0, 1, 0)] (q := 114) (ls' := [(2, 9), (0, a)]) (st' := [(0, 1), (0, a), (2, 9)]) (by decide +kernel) rfl ?_
                  refine zwW_add (nx := 115) (by decide +kernel) (by first | omega | exact ⟨by omega, by omega⟩) ?_
                  refine zwW_cm Ch75.1 (op := 60) (k' := 241) (n := 1) (kd := 7) (m := 9) (nx := 118) (r := 9) (tl := [(0, (a + 1))]) (st' := []) (by decide +kernel) rfl (by decide +kernel) (Nat.ble_eq_true_of_le (by omega)) (HS (by omega) h75 Ch75 t n (pA t n s) Bh75 f74 Vh75.wk) ?_
                  rintro v79 h80 ⟨Ch80, Qh80, f77, f78⟩
                  have Xh80 : zXR msxK (0) (0) h h80 := Xh75.tr (c2 := 0) (s2 := 0) Qh80 (by decide +kernel) (by decide) (by decide)
                  have Bh80 : rB t n h80 := Bh75.fr Qh80 (by decide +kernel)
                  have S115 := f78
                  have Vh80 : rV n ((sub t n) (pA t n s)).2 := (Vh75).fn (hs t n)
                  refine zwif_eq (q := 141) (nx := 121) (by decide +kernel) (fun c81 => ?_) (fun c81 => ?_)
                  · refine zwW_p [(0, 0, 0)] (q := 142) (ls' := [(2, 9), (0, a)]) (st' := [(0, 0)]) (by decide +kernel) rfl ?_
                    refine zwW_ret (nx := 143) (a := 1) (b := 0) (by decide +kernel) rfl (Or.inr (Or.inl ⟨rfl, Or.inl rfl⟩)) ?_
                    refine ⟨Ch80, Xh80.le (by decide) (by decide), by omega, ?_⟩
                    show rR t n h80 0 (pFac t n o (sub t n) s)
                    first
                    | (rw [pFac_num (by omega) (by omega), ← rfl]; exact rR_t S115.1)
                    | (rw [pFac_wd (by omega) ⟨by omega, by omega⟩, ← rfl]; exact rR_t S115.1)
                    | (rw [pFac_par (ho.resolve_right (fun z => by omega)).2 (by omega) (S115.b1 (by omega)) (by omega)]; exact rR_t S115.1)
                    | (rw [pFac_pn (ho.resolve_right (fun z => by omega)).2 (by omega) (S115.b1 (by omega)) (by omega)]; exact rR_f S115.1)
                    | (rw [pFac_pf (ho.resolve_right (fun z => by omega)).2 (by omega) (S115.b0 (by omega))]; exact S115.ze (by omega))
                    | (rw [pFac_no (fun z => by omega) (fun z => by omega) (fun z => absurd z.1 (fun z1 => by have y := ho.resolve_left (fun y => by omega); rw [z1] at y; cases y.2))]; exact rR_f S115.1)
                    | (exfalso; omega)
                  · refine zwW_p [(1, 0, 2)] (q := 122) (ls' := [(2, 9), (0, a)]) (st' := [(2, 9)]) (by decide +kernel) rfl ?_
                    refine zwW_gs Ch80.1 (kd := 7) (bn := 4) (n := 9) (t := 0) (lo := -2147483648) (hi := 2147483647) (nx := 125) (by decide +kernel) ?_
                    intro v82 ev82 lv82 uv82
                    have kv82 : v82 = pK t n (sub t n (pA t n s)).2.1 := ev82.trans (S115.1).kd
                    refine zwW_p [(0, 41, 0)] (q := 127) (ls' := [(2, 9), (0, a)]) (st' := [(0, 41), (0, v82)]) (by decide +kernel) rfl ?_
                    refine zwic_ne (q := 141) (nx := 130) (by decide +kernel) (fun c83 => ?_) (fun c83 => ?_)
                    · refine zwW_p [(0, 0, 0)] (q := 142) (ls' := [(2, 9), (0, a)]) (st' := [(0, 0)]) (by decide +kernel) rfl ?_
                      refine zwW_ret (nx := 143) (a := 1) (b := 0) (by decide +kernel) rfl (Or.inr (Or.inl ⟨rfl, Or.inl rfl⟩)) ?_
                      refine ⟨Ch80, Xh80.le (by decide) (by decide), by omega, ?_⟩
                      show rR t n h80 0 (pFac t n o (sub t n) s)
                      first
                      | (rw [pFac_num (by omega) (by omega), ← rfl]; exact rR_t S115.1)
                      | (rw [pFac_wd (by omega) ⟨by omega, by omega⟩, ← rfl]; exact rR_t S115.1)
                      | (rw [pFac_par (ho.resolve_right (fun z => by omega)).2 (by omega) (S115.b1 (by omega)) (by omega)]; exact rR_t S115.1)
                      | (rw [pFac_pn (ho.resolve_right (fun z => by omega)).2 (by omega) (S115.b1 (by omega)) (by omega)]; exact rR_f S115.1)
                      | (rw [pFac_pf (ho.resolve_right (fun z => by omega)).2 (by omega) (S115.b0 (by omega))]; exact S115.ze (by omega))
                      | (rw [pFac_no (fun z => by omega) (fun z => by omega) (fun z => absurd z.1 (fun z1 => by have y := ho.resolve_left (fun y => by omega); rw [z1] at y; cases y.2))]; exact rR_f S115.1)
                      | (exfalso; omega)
                    · refine zwW_p [(1, 0, 2)] (q := 131) (ls' := [(2, 9), (0, a)]) (st' := [(2, 9)]) (by decide +kernel) rfl ?_
                      refine zwW_cm Ch80.1 (op := 60) (k' := 198) (n := 0) (kd := 7) (m := 9) (nx := 134) (r := 9) (tl := []) (st' := []) (by decide +kernel) rfl (by decide +kernel) (Nat.ble_eq_true_of_le (by omega)) (x198_q h80 Ch80 t n (sub t n (pA t n s)).2 Bh80 S115.1 (Vh80.wk).2) ?_
                      rintro x h85 ⟨Ch85, Qh85, rfl, f84⟩
                      have Xh85 : zXR msxK (0) (0) h h85 := Xh80.tr (c2 := 0) (s2 := 0) Qh85 (by decide +kernel) (by decide) (by decide)
                      have th85_9_6 : fld h85 9 6 = fld h80 9 6 := Qh85.f (a1 := 9) (a2 := 9) (j1 := 6) (j2 := 7) (by decide +kernel) (by first | decide | exact ⟨by decide, by decide⟩) (by first | decide | exact ⟨by decide, by decide⟩) (by first | decide | exact ⟨by decide, by decide⟩)
                      have Bh85 : rB t n h85 := Bh80.fr Qh85 (by decide +kernel)
                      have Vh85 : rV n (pA t n ((sub t n (pA t n s)).2)) := (Vh80.wk).a (by omega)
                      refine zwif_eq (q := 141) (nx := 137) (by decide +kernel) (fun c86 => ?_) (fun c86 => ?_)
                      · exfalso; omega
                      · refine zwW_p [(0, 1, 0), (24, 142, 0)] (q := 142) (ls' := [(2, 9), (0, a)]) (st' := [(0, 1)]) (by decide +kernel) rfl ?_
                        refine zwW_ret (nx := 143) (a := 1) (b := 0) (by decide +kernel) rfl (Or.inr (Or.inl ⟨rfl, Or.inr rfl⟩)) ?_
                        refine ⟨Ch85, Xh85.le (by decide) (by decide), by omega, ?_⟩
                        show rR t n h85 1 (pFac t n o (sub t n) s)
                        first
                        | (rw [pFac_num (by omega) (by omega), ← rfl]; exact rR_t f84)
                        | (rw [pFac_wd (by omega) ⟨by omega, by omega⟩, ← rfl]; exact rR_t f84)
                        | (rw [pFac_par (ho.resolve_right (fun z => by omega)).2 (by omega) (S115.b1 (by omega)) (by omega)]; exact rR_t f84)
                        | (rw [pFac_pn (ho.resolve_right (fun z => by omega)).2 (by omega) (S115.b1 (by omega)) (by omega)]; exact rR_f f84)
                        | (rw [pFac_pf (ho.resolve_right (fun z => by omega)).2 (by omega) (S115.b0 (by omega))]; exact S115.ze (by omega))
                        | (rw [pFac_no (fun z => by omega) (fun z => by omega) (fun z => absurd z.1 (fun z1 => by have y := ho.resolve_left (fun y => by omega); rw [z1] at y; cases y.2))]; exact rR_f f84)
                        | (exfalso; omega)
          · exfalso; omega
        · refine zwif_ne (q := 89) (nx := 63) (by decide +kernel) (fun c87 => ?_) (fun c87 => ?_)
          · exfalso; omega
          · refine zwW_p [(1, 0, 2), (0, -1, 0), (1, 0, 2)] (q := 66) (ls' := [(2, 9), (0, a)]) (st' := [(2, 9), (0, -1), (2, 9)]) (by decide +kernel) rfl ?_
            refine zwW_gs C.1 (kd := 7) (bn := 5) (n := 9) (t := 0) (lo := -2147483648) (hi := 2147483647) (nx := 69) (by decide +kernel) ?_
            intro v88 ev88 lv88 uv88
            have kv88 : pK t n s.1 = 1 ∨ pK t n s.1 = 2 → v88 = pV t n s.1 := fun z => ev88.trans ((Q0).vl z)
            have VV := kv88 (by omega)
            refine zwW_sub (nx := 70) (by decide +kernel) (by first | omega | exact ⟨by omega, by omega⟩) ?_
            refine zwW_cm C.1 (op := 60) (k' := 243) (n := 1) (kd := 7) (m := 9) (nx := 73) (r := 9) (tl := [(0, (-1 - v88))]) (st' := []) (by decide +kernel) rfl (by decide +kernel) (Nat.ble_eq_true_of_le (by omega)) (x243_q h C (-1 - v88) t n s (by omega) Q0 (W0.lt B Q0 (by omega))) ?_
            rintro x h90 ⟨Ch90, Qh90, rfl, f89⟩
            have Xh90 : zXR msxK (0) (0) h h90 := X.tr (c2 := 0) (s2 := 0) Qh90 (by decide +kernel) (by decide) (by decide)
            have Bh90 : rB t n h90 := B.fr Qh90 (by decide +kernel)
            refine zwif_eq (q := 87) (nx := 76) (by decide +kernel) (fun c91 => ?_) (fun c91 => ?_)
            · exfalso; omega
            · refine zwW_p [(1, 0, 2)] (q := 77) (ls' := [(2, 9), (0, a)]) (st' := [(2, 9)]) (by decide +kernel) rfl ?_
              refine zwW_cm Ch90.1 (op := 60) (k' := 198) (n := 0) (kd := 7) (m := 9) (nx := 80) (r := 9) (tl := []) (st' := []) (by decide +kernel) rfl (by decide +kernel) (Nat.ble_eq_true_of_le (by omega)) (x198_q h90 Ch90 t n (pW (-1 - v88) s) Bh90 f89 (W0).2) ?_
              rintro x h93 ⟨Ch93, Qh93, rfl, f92⟩
              have Xh93 : zXR msxK (0) (0) h h93 := Xh90.tr (c2 := 0) (s2 := 0) Qh93 (by decide +kernel) (by decide) (by decide)
              have th93_9_6 : fld h93 9 6 = fld h90 9 6 := Qh93.f (a1 := 9) (a2 := 9) (j1 := 6) (j2 := 7) (by decide +kernel) (by first | decide | exact ⟨by decide, by decide⟩) (by first | decide | exact ⟨by decide, by decide⟩) (by first | decide | exact ⟨by decide, by decide⟩)
              have Bh93 : rB t n h93 := Bh90.fr Qh93 (by decide +kernel)
              refine zwif_eq (q := 87) (nx := 83) (by decide +kernel) (fun c94 => ?_) (fun c94 => ?_)
              · exfalso; omega
              · refine zwW_p [(0, 1, 0), (24, 88, 0)] (q := 88) (ls' := [(2, 9), (0, a)]) (st' := [(0, 1)]) (by decide +kernel) rfl ?_
                refine zwW_ret (nx := 89) (a := 1) (b := 0) (by decide +kernel) rfl (Or.inr (Or.inl ⟨rfl, Or.inr rfl⟩)) ?_
                refine ⟨Ch93, Xh93.le (by decide) (by decide), by omega, ?_⟩
                show rR t n h93 1 (pFac t n o (sub t n) s)
                first
                | (rw [pFac_num (by omega) (by omega), ← VV]; exact rR_t f92)
                | (rw [pFac_wd (by omega) ⟨by omega, by omega⟩, ← VV]; exact rR_t f92)
                | (rw [pFac_par (ho.resolve_right (fun z => by omega)).2 (by omega) (S115.b1 (by omega)) (by omega)]; exact rR_t f92)
                | (rw [pFac_pn (ho.resolve_right (fun z => by omega)).2 (by omega) (S115.b1 (by omega)) (by omega)]; exact rR_f f92)
                | (rw [pFac_pf (ho.resolve_right (fun z => by omega)).2 (by omega) (S115.b0 (by omega))]; exact S115.ze (by omega))
                | (rw [pFac_no (fun z => by omega) (fun z => by omega) (fun z => absurd z.1 (fun z1 => by have y := ho.resolve_left (fun y => by omega); rw [z1] at y; cases y.2))]; exact rR_f f92)
                | (exfalso; omega)
    · refine zwW_p [(1, 0, 2), (1, 0, 2)] (q := 20) (ls' := [(2, 9), (0, a)]) (st' := [(2, 9), (2, 9)]) (by decide +kernel) rfl ?_
      refine zwW_gs C.1 (kd := 7) (bn := 5) (n := 9) (t := 0) (lo := -2147483648) (hi := 2147483647) (nx := 23) (by decide +kernel) ?_
      intro v95 ev95 lv95 uv95
      have kv95 : pK t n s.1 = 1 ∨ pK t n s.1 = 2 → v95 = pV t n s.1 := fun z => ev95.trans ((Q0).vl z)
      have VV := kv95 (by omega)
      refine zwW_cm C.1 (op := 60) (k' := 243) (n := 1) (kd := 7) (m := 9) (nx := 26) (r := 9) (tl := [(0, v95)]) (st' := []) (by decide +kernel) rfl (by decide +kernel) (Nat.ble_eq_true_of_le (by omega)) (x243_q h C v95 t n s (by omega) Q0 (W0.lt B Q0 (by omega))) ?_
      rintro x h97 ⟨Ch97, Qh97, rfl, f96⟩
      have Xh97 : zXR msxK (0) (0) h h97 := X.tr (c2 := 0) (s2 := 0) Qh97 (by decide +kernel) (by decide) (by decide)
      have Bh97 : rB t n h97 := B.fr Qh97 (by decide +kernel)
      refine zwif_eq (q := 40) (nx := 29) (by decide +kernel) (fun c98 => ?_) (fun c98 => ?_)
      · exfalso; omega
      · refine zwW_p [(1, 0, 2)] (q := 30) (ls' := [(2, 9), (0, a)]) (st' := [(2, 9)]) (by decide +kernel) rfl ?_
        refine zwW_cm Ch97.1 (op := 60) (k' := 198) (n := 0) (kd := 7) (m := 9) (nx := 33) (r := 9) (tl := []) (st' := []) (by decide +kernel) rfl (by decide +kernel) (Nat.ble_eq_true_of_le (by omega)) (x198_q h97 Ch97 t n (pW v95 s) Bh97 f96 (W0).2) ?_
        rintro x h100 ⟨Ch100, Qh100, rfl, f99⟩
        have Xh100 : zXR msxK (0) (0) h h100 := Xh97.tr (c2 := 0) (s2 := 0) Qh100 (by decide +kernel) (by decide) (by decide)
        have th100_9_6 : fld h100 9 6 = fld h97 9 6 := Qh100.f (a1 := 9) (a2 := 9) (j1 := 6) (j2 := 7) (by decide +kernel) (by first | decide | exact ⟨by decide, by decide⟩) (by first | decide | exact ⟨by decide, by decide⟩) (by first | decide | exact ⟨by decide, by decide⟩)
        have Bh100 : rB t n h100 := Bh97.fr Qh100 (by decide +kernel)
        refine zwif_eq (q := 40) (nx := 36) (by decide +kernel) (fun c101 => ?_) (fun c101 => ?_)
        · exfalso; omega
        · refine zwW_p [(0, 1, 0), (24, 41, 0)] (q := 41) (ls' := [(2, 9), (0, a)]) (st' := [(0, 1)]) (by decide +kernel) rfl ?_
          refine zwW_ret (nx := 42) (a := 1) (b := 0) (by decide +kernel) rfl (Or.inr (Or.inl ⟨rfl, Or.inr rfl⟩)) ?_
          refine ⟨Ch100, Xh100.le (by decide) (by decide), by omega, ?_⟩
          show rR t n h100 1 (pFac t n o (sub t n) s)
          first
          | (rw [pFac_num (by omega) (by omega), ← VV]; exact rR_t f99)
          | (rw [pFac_wd (by omega) ⟨by omega, by omega⟩, ← VV]; exact rR_t f99)
          | (rw [pFac_par (ho.resolve_right (fun z => by omega)).2 (by omega) (S115.b1 (by omega)) (by omega)]; exact rR_t f99)
          | (rw [pFac_pn (ho.resolve_right (fun z => by omega)).2 (by omega) (S115.b1 (by omega)) (by omega)]; exact rR_f f99)
          | (rw [pFac_pf (ho.resolve_right (fun z => by omega)).2 (by omega) (S115.b0 (by omega))]; exact S115.ze (by omega))
          | (rw [pFac_no (fun z => by omega) (fun z => by omega) (fun z => absurd z.1 (fun z1 => by have y := ho.resolve_left (fun y => by omega); rw [z1] at y; cases y.2))]; exact rR_f f99)
          | (exfalso; omega)
-- WheelLand$Reader.product(I)Z
theorem x262_q {sc : List Int} (a : Int) (D0 : Nat) (pa : 0 ≤ a ∧ a ≤ 8) (o : Bool) (sub : pT → Nat → pQ → pR) (ho : (a < 8 ∧ o = true) ∨ (8 ≤ a ∧ o = false)) (hs : ∀ (t : pT) (n : Nat), pG n (sub t n)) (HS : a < 8 → rX sc D0 241 (a + 1) sub) : rX sc (D0 + 21) 262 a (fun t n => pPro t n (pFac t n o (sub t n))) := by
  intro h C t n s B Q0 W0
  refine zwC_of (D := D0 + 20) 5 (by decide +kernel) rfl (ls := [(2, 9), (0, a), (9, 0), (9, 0), (9, 0)]) rfl ?_
  have X : zXR msxK 0 0 h h := zXR.rf _ _
  refine zwW_p [(1, 0, 2), (1, 1, 0)] (q := 2) (ls' := [(2, 9), (0, a), (9, 0), (9, 0), (9, 0)]) (st' := [(0, a), (2, 9)]) (by decide +kernel) rfl ?_
  refine zwW_cm C.1 (op := 60) (k' := 280) (n := 1) (kd := 7) (m := 9) (nx := 5) (r := 9) (tl := [(0, a)]) (st' := []) (by decide +kernel) rfl (by decide +kernel) (Nat.ble_eq_true_of_le (by omega)) (x280_q a D0 pa o sub ho hs HS h C t n s B Q0 W0) ?_
  rintro v3 h4 ⟨Ch4, Qh4, f1, f2⟩
  have Xh4 : zXR msxK (0) (0) h h4 := X.tr (c2 := 0) (s2 := 0) Qh4 (by decide +kernel) (by decide) (by decide)
  have Bh4 : rB t n h4 := B.fr Qh4 (by decide +kernel)
  have S2 := f2
  have Wh4 : rW n ((pFac t n o (sub t n)) s).2 := (W0).fn (pG_fac (hs t n))
  refine zwW_p [(2, 2, 0), (0, 0, 0), (2, 3, 0)] (q := 8) (ls' := [(2, 9), (0, a), (0, v3), (0, 0), (9, 0)]) (st' := []) (by decide +kernel) rfl ?_
  have L5 : ∀ (n0 : Nat) (v2L5 v3L5 : Int) (w4L5 : Vl) (hL5 : Hp), n0 = ((1000 - v3L5)).toNat → (rB t n hL5) → (rL t n hL5 v2L5 (400 - (v3L5).toNat) (pLp t n 42 47 (pFac t n o (sub t n))) (pPro t n (pFac t n o (sub t n)) s)) → (0 ≤ v2L5 ∧ v2L5 ≤ 1) → (0 ≤ v3L5 ∧ v3L5 ≤ 1000) → CI hL5 → zXR msxK (0) (0) h hL5 → zwW sc (D0 + 20) 262 8 [(2, 9), (0, a), (0, v2L5), (0, v3L5), w4L5] [] hL5 (zwRt 0 (fun x g => CI g ∧ zXR msxK (0) (0) h g ∧ (0 ≤ x ∧ x ≤ 1) ∧ rR t n g x ((pPro t n (pFac t n o (sub t n))) s))) := by
    intro n0
    induction n0 using Nat.strongRecOn with
    | ind n0 IHL5 =>
      intro v2L5 v3L5 w4L5 hL5 hnL5 iL5_0 iL5_1 iL5_2 iL5_3 ChL5 XhL5
      obtain ⟨qL, QL, WL, OL⟩ := iL5_1
      refine zwW_p [(1, 3, 0), (0, 400, 0)] (q := 12) (ls' := [(2, 9), (0, a), (0, v2L5), (0, v3L5), w4L5]) (st' := [(0, 400), (0, v3L5)]) (by decide +kernel) rfl ?_
      refine zwic_ge (q := 78) (nx := 15) (by decide +kernel) (fun c6 => ?_) (fun c6 => ?_)
      · refine zwW_p [(1, 2, 0)] (q := 79) (ls' := [(2, 9), (0, a), (0, v2L5), (0, v3L5), w4L5]) (st' := [(0, v2L5)]) (by decide +kernel) rfl ?_
        refine zwW_ret (nx := 80) (a := 1) (b := 0) (by decide +kernel) rfl (Or.inr (Or.inl ⟨rfl, by omega⟩)) ?_
        refine ⟨ChL5, XhL5.le (by decide) (by decide), by omega, ?_⟩
        show rR t n hL5 v2L5 (pPro t n (pFac t n o (sub t n)) s)
        first
        | (exact rL_x QL OL (Or.inr (pLp_z (Or.inl (by omega)))))
        | (exact rL_x QL OL (Or.inl (by omega)))
        | (exact rL_x QL OL (Or.inr (pLp_z (Or.inr (by omega)))))
        | (exfalso; omega)
      · refine zwW_p [(1, 2, 0)] (q := 16) (ls' := [(2, 9), (0, a), (0, v2L5), (0, v3L5), w4L5]) (st' := [(0, v2L5)]) (by decide +kernel) rfl ?_
        refine zwif_eq (q := 78) (nx := 19) (by decide +kernel) (fun c7 => ?_) (fun c7 => ?_)
        · refine zwW_p [(1, 2, 0)] (q := 79) (ls' := [(2, 9), (0, a), (0, v2L5), (0, v3L5), w4L5]) (st' := [(0, v2L5)]) (by decide +kernel) rfl ?_
          refine zwW_ret (nx := 80) (a := 1) (b := 0) (by decide +kernel) rfl (Or.inr (Or.inl ⟨rfl, by omega⟩)) ?_
          refine ⟨ChL5, XhL5.le (by decide) (by decide), by omega, ?_⟩
          show rR t n hL5 v2L5 (pPro t n (pFac t n o (sub t n)) s)
          first
          | (exact rL_x QL OL (Or.inr (pLp_z (Or.inl (by omega)))))
          | (exact rL_x QL OL (Or.inl (by omega)))
          | (exact rL_x QL OL (Or.inr (pLp_z (Or.inr (by omega)))))
          | (exfalso; omega)
        · refine zwW_p [(1, 0, 2)] (q := 20) (ls' := [(2, 9), (0, a), (0, v2L5), (0, v3L5), w4L5]) (st' := [(2, 9)]) (by decide +kernel) rfl ?_
          refine zwW_gs ChL5.1 (kd := 7) (bn := 4) (n := 9) (t := 0) (lo := -2147483648) (hi := 2147483647) (nx := 23) (by decide +kernel) ?_
          intro v8 ev8 lv8 uv8
          have kv8 : v8 = pK t n qL.1 := ev8.trans (QL).kd
          refine zwW_p [(0, 42, 0)] (q := 25) (ls' := [(2, 9), (0, a), (0, v2L5), (0, v3L5), w4L5]) (st' := [(0, 42), (0, v8)]) (by decide +kernel) rfl ?_
          refine zwic_eq (q := 37) (nx := 28) (by decide +kernel) (fun c9 => ?_) (fun c9 => ?_)
          · refine zwW_p [(1, 0, 2)] (q := 38) (ls' := [(2, 9), (0, a), (0, v2L5), (0, v3L5), w4L5]) (st' := [(2, 9)]) (by decide +kernel) rfl ?_
            refine zwW_gs ChL5.1 (kd := 7) (bn := 4) (n := 9) (t := 0) (lo := -2147483648) (hi := 2147483647) (nx := 41) (by decide +kernel) ?_
            intro v10 ev10 lv10 uv10
            have kv10 : v10 = pK t n qL.1 := ev10.trans (QL).kd
            refine zwW_p [(2, 4, 0), (1, 0, 2)] (q := 44) (ls' := [(2, 9), (0, a), (0, v2L5), (0, v3L5), (0, v10)]) (st' := [(2, 9)]) (by decide +kernel) rfl ?_
            refine zwW_cm ChL5.1 (op := 60) (k' := 198) (n := 0) (kd := 7) (m := 9) (nx := 47) (r := 9) (tl := []) (st' := []) (by decide +kernel) rfl (by decide +kernel) (Nat.ble_eq_true_of_le (by omega)) (x198_q hL5 ChL5 t n qL iL5_0 QL (WL).2) ?_
            rintro x h12 ⟨Ch12, Qh12, rfl, f11⟩
            have Xh12 : zXR msxK (0) (0) h h12 := XhL5.tr (c2 := 0) (s2 := 0) Qh12 (by decide +kernel) (by decide) (by decide)
            have th12_9_6 : fld h12 9 6 = fld hL5 9 6 := Qh12.f (a1 := 9) (a2 := 9) (j1 := 6) (j2 := 7) (by decide +kernel) (by first | decide | exact ⟨by decide, by decide⟩) (by first | decide | exact ⟨by decide, by decide⟩) (by first | decide | exact ⟨by decide, by decide⟩)
            have Bh12 : rB t n h12 := iL5_0.fr Qh12 (by decide +kernel)
            have Vh12 : rV n (pA t n qL) := (WL).a (by omega)
            refine zwW_p [(15, 0, 0), (1, 0, 2), (1, 1, 0)] (q := 50) (ls' := [(2, 9), (0, a), (0, v2L5), (0, v3L5), (0, v10)]) (st' := [(0, a), (2, 9)]) (by decide +kernel) rfl ?_
            refine zwW_cm Ch12.1 (op := 60) (k' := 280) (n := 1) (kd := 7) (m := 9) (nx := 53) (r := 9) (tl := [(0, a)]) (st' := []) (by decide +kernel) rfl (by decide +kernel) (Nat.ble_eq_true_of_le (by omega)) (x280_q a D0 pa o sub ho hs HS h12 Ch12 t n (pA t n qL) Bh12 f11 Vh12.wk) ?_
            rintro v15 h16 ⟨Ch16, Qh16, f13, f14⟩
            have Xh16 : zXR msxK (0) (0) h h16 := Xh12.tr (c2 := 0) (s2 := 0) Qh16 (by decide +kernel) (by decide) (by decide)
            have Bh16 : rB t n h16 := Bh12.fr Qh16 (by decide +kernel)
            have S50 := f14
            have Vh16 : rV n ((pFac t n o (sub t n)) (pA t n qL)).2 := (Vh12).fn (pG_fac (hs t n))
            refine zwif_eq (q := 70) (nx := 56) (by decide +kernel) (fun c17 => ?_) (fun c17 => ?_)
            · refine zwW_p [(0, 0, 0), (2, 2, 0)] (q := 72) (ls' := [(2, 9), (0, a), (0, 0), (0, v3L5), (0, v10)]) (st' := []) (by decide +kernel) rfl ?_
              have LB : rL t n h16 0 (400 - (v3L5 + 1).toNat) (pLp t n 42 47 (pFac t n o (sub t n))) (pPro t n (pFac t n o (sub t n)) s) := by
                first
                | exact rL_t S50.1 Vh16.wk ((x_one OL (by omega)).trans (pLp_n (k := 400 - (v3L5 + 1).toNat) (by omega) (by omega) (S50.b1 (by omega)) (by omega)))
                | exact rL_f S50.1 Vh16.wk ((x_one OL (by omega)).trans (pLp_f (k := 400 - (v3L5 + 1).toNat) (by omega) (by omega) (S50.b0 (by omega))))
              refine zwW_inc (i := 3) (c := 1) (x := v3L5) (nx := 75) (by decide +kernel) rfl (by first | omega | exact ⟨by omega, by omega⟩) (ls' := [(2, 9), (0, a), (0, 0), (0, (v3L5 + 1)), (0, v10)]) rfl ?_
              refine zwW_p [(24, 8, 0)] (q := 8) (ls' := [(2, 9), (0, a), (0, 0), (0, (v3L5 + 1)), (0, v10)]) (st' := []) (by decide +kernel) rfl ?_
              exact IHL5 ((1000 - (v3L5 + 1))).toNat (by omega) 0 (v3L5 + 1) (0, v10) h16 rfl (Bh16) (LB) (by omega) (by omega) Ch16 (Xh16.le (by decide) (by decide))
            · refine zwW_p [(1, 0, 2), (1, 4, 0)] (q := 59) (ls' := [(2, 9), (0, a), (0, v2L5), (0, v3L5), (0, v10)]) (st' := [(0, v10), (2, 9)]) (by decide +kernel) rfl ?_
              refine zwW_neg (nx := 60) (by decide +kernel) (by first | omega | exact ⟨by omega, by omega⟩) ?_
              refine zwW_cm Ch16.1 (op := 60) (k' := 243) (n := 1) (kd := 7) (m := 9) (nx := 63) (r := 9) (tl := [(0, (-v10))]) (st' := []) (by decide +kernel) rfl (by decide +kernel) (Nat.ble_eq_true_of_le (by omega)) (x243_q h16 Ch16 (-v10) t n (pFac t n o (sub t n) (pA t n qL)).2 (by omega) S50.1 (Vh16.lt Bh16 S50.1)) ?_
              rintro x h19 ⟨Ch19, Qh19, rfl, f18⟩
              have Xh19 : zXR msxK (0) (0) h h19 := Xh16.tr (c2 := 0) (s2 := 0) Qh19 (by decide +kernel) (by decide) (by decide)
              have Bh19 : rB t n h19 := Bh16.fr Qh19 (by decide +kernel)
              refine zwif_eq (q := 70) (nx := 66) (by decide +kernel) (fun c20 => ?_) (fun c20 => ?_)
              · exfalso; omega
              · refine zwW_p [(0, 1, 0), (24, 71, 0), (2, 2, 0)] (q := 72) (ls' := [(2, 9), (0, a), (0, 1), (0, v3L5), (0, v10)]) (st' := []) (by decide +kernel) rfl ?_
                have LB : rL t n h19 1 (400 - (v3L5 + 1).toNat) (pLp t n 42 47 (pFac t n o (sub t n))) (pPro t n (pFac t n o (sub t n)) s) := by
                  first
                  | exact rL_t f18 (Vh16).pw ((x_one OL (by omega)).trans (pLp_n (k := 400 - (v3L5 + 1).toNat) (by omega) (by omega) (S50.b1 (by omega)) (by omega)))
                  | exact rL_f S50.1 (Vh16).pw ((x_one OL (by omega)).trans (pLp_f (k := 400 - (v3L5 + 1).toNat) (by omega) (by omega) (S50.b0 (by omega))))
                refine zwW_inc (i := 3) (c := 1) (x := v3L5) (nx := 75) (by decide +kernel) rfl (by first | omega | exact ⟨by omega, by omega⟩) (ls' := [(2, 9), (0, a), (0, 1), (0, (v3L5 + 1)), (0, v10)]) rfl ?_
                refine zwW_p [(24, 8, 0)] (q := 8) (ls' := [(2, 9), (0, a), (0, 1), (0, (v3L5 + 1)), (0, v10)]) (st' := []) (by decide +kernel) rfl ?_
                exact IHL5 ((1000 - (v3L5 + 1))).toNat (by omega) 1 (v3L5 + 1) (0, v10) h19 rfl (Bh19) (LB) (by omega) (by omega) Ch19 (Xh19.le (by decide) (by decide))
          · refine zwW_p [(1, 0, 2)] (q := 29) (ls' := [(2, 9), (0, a), (0, v2L5), (0, v3L5), w4L5]) (st' := [(2, 9)]) (by decide +kernel) rfl ?_
            refine zwW_gs ChL5.1 (kd := 7) (bn := 4) (n := 9) (t := 0) (lo := -2147483648) (hi := 2147483647) (nx := 32) (by decide +kernel) ?_
            intro v21 ev21 lv21 uv21
            have kv21 : v21 = pK t n qL.1 := ev21.trans (QL).kd
            refine zwW_p [(0, 47, 0)] (q := 34) (ls' := [(2, 9), (0, a), (0, v2L5), (0, v3L5), w4L5]) (st' := [(0, 47), (0, v21)]) (by decide +kernel) rfl ?_
            refine zwic_ne (q := 78) (nx := 37) (by decide +kernel) (fun c22 => ?_) (fun c22 => ?_)
            · refine zwW_p [(1, 2, 0)] (q := 79) (ls' := [(2, 9), (0, a), (0, v2L5), (0, v3L5), w4L5]) (st' := [(0, v2L5)]) (by decide +kernel) rfl ?_
              refine zwW_ret (nx := 80) (a := 1) (b := 0) (by decide +kernel) rfl (Or.inr (Or.inl ⟨rfl, by omega⟩)) ?_
              refine ⟨ChL5, XhL5.le (by decide) (by decide), by omega, ?_⟩
              show rR t n hL5 v2L5 (pPro t n (pFac t n o (sub t n)) s)
              first
              | (exact rL_x QL OL (Or.inr (pLp_z (Or.inl (by omega)))))
              | (exact rL_x QL OL (Or.inl (by omega)))
              | (exact rL_x QL OL (Or.inr (pLp_z (Or.inr (by omega)))))
              | (exfalso; omega)
            · refine zwW_p [(1, 0, 2)] (q := 38) (ls' := [(2, 9), (0, a), (0, v2L5), (0, v3L5), w4L5]) (st' := [(2, 9)]) (by decide +kernel) rfl ?_
              refine zwW_gs ChL5.1 (kd := 7) (bn := 4) (n := 9) (t := 0) (lo := -2147483648) (hi := 2147483647) (nx := 41) (by decide +kernel) ?_
              intro v23 ev23 lv23 uv23
              have kv23 : v23 = pK t n qL.1 := ev23.trans (QL).kd
              refine zwW_p [(2, 4, 0), (1, 0, 2)] (q := 44) (ls' := [(2, 9), (0, a), (0, v2L5), (0, v3L5), (0, v23)]) (st' := [(2, 9)]) (by decide +kernel) rfl ?_
              refine zwW_cm ChL5.1 (op := 60) (k' := 198) (n := 0) (kd := 7) (m := 9) (nx := 47) (r := 9) (tl := []) (st' := []) (by decide +kernel) rfl (by decide +kernel) (Nat.ble_eq_true_of_le (by omega)) (x198_q hL5 ChL5 t n qL iL5_0 QL (WL).2) ?_
              rintro x h25 ⟨Ch25, Qh25, rfl, f24⟩
              have Xh25 : zXR msxK (0) (0) h h25 := XhL5.tr (c2 := 0) (s2 := 0) Qh25 (by decide +kernel) (by decide) (by decide)
              have th25_9_6 : fld h25 9 6 = fld hL5 9 6 := Qh25.f (a1 := 9) (a2 := 9) (j1 := 6) (j2 := 7) (by decide +kernel) (by first | decide | exact ⟨by decide, by decide⟩) (by first | decide | exact ⟨by decide, by decide⟩) (by first | decide | exact ⟨by decide, by decide⟩)
              have Bh25 : rB t n h25 := iL5_0.fr Qh25 (by decide +kernel)
              have Vh25 : rV n (pA t n qL) := (WL).a (by omega)
              refine zwW_p [(15, 0, 0), (1, 0, 2), (1, 1, 0)] (q := 50) (ls' := [(2, 9), (0, a), (0, v2L5), (0, v3L5), (0, v23)]) (st' := [(0, a), (2, 9)]) (by decide +kernel) rfl ?_
              refine zwW_cm Ch25.1 (op := 60) (k' := 280) (n := 1) (kd := 7) (m := 9) (nx := 53) (r := 9) (tl := [(0, a)]) (st' := []) (by decide +kernel) rfl (by decide +kernel) (Nat.ble_eq_true_of_le (by omega)) (x280_q a D0 pa o sub ho hs HS h25 Ch25 t n (pA t n qL) Bh25 f24 Vh25.wk) ?_
              rintro v28 h29 ⟨Ch29, Qh29, f26, f27⟩
              have Xh29 : zXR msxK (0) (0) h h29 := Xh25.tr (c2 := 0) (s2 := 0) Qh29 (by decide +kernel) (by decide) (by decide)
              have Bh29 : rB t n h29 := Bh25.fr Qh29 (by decide +kernel)
              have S50 := f27
              have Vh29 : rV n ((pFac t n o (sub t n)) (pA t n qL)).2 := (Vh25).fn (pG_fac (hs t n))
              refine zwif_eq (q := 70) (nx := 56) (by decide +kernel) (fun c30 => ?_) (fun c30 => ?_)
              · refine zwW_p [(0, 0, 0), (2, 2, 0)] (q := 72) (ls' := [(2, 9), (0, a), (0, 0), (0, v3L5), (0, v23)]) (st' := []) (by decide +kernel) rfl ?_
                have LB : rL t n h29 0 (400 - (v3L5 + 1).toNat) (pLp t n 42 47 (pFac t n o (sub t n))) (pPro t n (pFac t n o (sub t n)) s) := by
                  first
                  | exact rL_t S50.1 Vh29.wk ((x_one OL (by omega)).trans (pLp_n (k := 400 - (v3L5 + 1).toNat) (by omega) (by omega) (S50.b1 (by omega)) (by omega)))
                  | exact rL_f S50.1 Vh29.wk ((x_one OL (by omega)).trans (pLp_f (k := 400 - (v3L5 + 1).toNat) (by omega) (by omega) (S50.b0 (by omega))))
                refine zwW_inc (i := 3) (c := 1) (x := v3L5) (nx := 75) (by decide +kernel) rfl (by first | omega | exact ⟨by omega, by omega⟩) (ls' := [(2, 9), (0, a), (0, 0), (0, (v3L5 + 1)), (0, v23)]) rfl ?_
                refine zwW_p [(24, 8, 0)] (q := 8) (ls' := [(2, 9), (0, a), (0, 0), (0, (v3L5 + 1)), (0, v23)]) (st' := []) (by decide +kernel) rfl ?_
                exact IHL5 ((1000 - (v3L5 + 1))).toNat (by omega) 0 (v3L5 + 1) (0, v23) h29 rfl (Bh29) (LB) (by omega) (by omega) Ch29 (Xh29.le (by decide) (by decide))
              · refine zwW_p [(1, 0, 2), (1, 4, 0)] (q := 59) (ls' := [(2, 9), (0, a), (0, v2L5), (0, v3L5), (0, v23)]) (st' := [(0, v23), (2, 9)]) (by decide +kernel) rfl ?_
                refine zwW_neg (nx := 60) (by decide +kernel) (by first | omega | exact ⟨by omega, by omega⟩) ?_
                refine zwW_cm Ch29.1 (op := 60) (k' := 243) (n := 1) (kd := 7) (m := 9) (nx := 63) (r := 9) (tl := [(0, (-v23))]) (st' := []) (by decide +kernel) rfl (by decide +kernel) (Nat.ble_eq_true_of_le (by omega)) (x243_q h29 Ch29 (-v23) t n (pFac t n o (sub t n) (pA t n qL)).2 (by omega) S50.1 (Vh29.lt Bh29 S50.1)) ?_
                rintro x h32 ⟨Ch32, Qh32, rfl, f31⟩
                have Xh32 : zXR msxK (0) (0) h h32 := Xh29.tr (c2 := 0) (s2 := 0) Qh32 (by decide +kernel) (by decide) (by decide)
                have Bh32 : rB t n h32 := Bh29.fr Qh32 (by decide +kernel)
                refine zwif_eq (q := 70) (nx := 66) (by decide +kernel) (fun c33 => ?_) (fun c33 => ?_)
                · exfalso; omega
                · refine zwW_p [(0, 1, 0), (24, 71, 0), (2, 2, 0)] (q := 72) (ls' := [(2, 9), (0, a), (0, 1), (0, v3L5), (0, v23)]) (st' := []) (by decide +kernel) rfl ?_
                  have LB : rL t n h32 1 (400 - (v3L5 + 1).toNat) (pLp t n 42 47 (pFac t n o (sub t n))) (pPro t n (pFac t n o (sub t n)) s) := by
                    first
                    | exact rL_t f31 (Vh29).pw ((x_one OL (by omega)).trans (pLp_n (k := 400 - (v3L5 + 1).toNat) (by omega) (by omega) (S50.b1 (by omega)) (by omega)))
                    | exact rL_f S50.1 (Vh29).pw ((x_one OL (by omega)).trans (pLp_f (k := 400 - (v3L5 + 1).toNat) (by omega) (by omega) (S50.b0 (by omega))))
                  refine zwW_inc (i := 3) (c := 1) (x := v3L5) (nx := 75) (by decide +kernel) rfl (by first | omega | exact ⟨by omega, by omega⟩) (ls' := [(2, 9), (0, a), (0, 1), (0, (v3L5 + 1)), (0, v23)]) rfl ?_
                  refine zwW_p [(24, 8, 0)] (q := 8) (ls' := [(2, 9), (0, a), (0, 1), (0, (v3L5 + 1)), (0, v23)]) (st' := []) (by decide +kernel) rfl ?_
                  exact IHL5 ((1000 - (v3L5 + 1))).toNat (by omega) 1 (v3L5 + 1) (0, v23) h32 rfl (Bh32) (LB) (by omega) (by omega) Ch32 (Xh32.le (by decide) (by decide))
  exact L5 _ v3 0 (9, 0) h4 rfl (Bh4) (rL_0 S2 Wh4) (by omega) (by omega) Ch4 (Xh4.le (by decide) (by decide))
-- WheelLand$Reader.sum(I)Z
theorem x241_q {sc : List Int} (a : Int) (D0 : Nat) (pa : 0 ≤ a ∧ a ≤ 8) (o : Bool) (sub : pT → Nat → pQ → pR) (ho : (a < 8 ∧ o = true) ∨ (8 ≤ a ∧ o = false)) (hs : ∀ (t : pT) (n : Nat), pG n (sub t n)) (HS : a < 8 → rX sc D0 241 (a + 1) sub) : rX sc (D0 + 22) 241 a (fun t n => pSm0 t n (pFac t n o (sub t n))) := by
  intro h C t n s B Q0 W0
  refine zwC_of (D := D0 + 21) 5 (by decide +kernel) rfl (ls := [(2, 9), (0, a), (9, 0), (9, 0), (9, 0)]) rfl ?_
  have X : zXR msxK 0 0 h h := zXR.rf _ _
  refine zwW_p [(1, 0, 2), (1, 1, 0)] (q := 2) (ls' := [(2, 9), (0, a), (9, 0), (9, 0), (9, 0)]) (st' := [(0, a), (2, 9)]) (by decide +kernel) rfl ?_
  refine zwW_cm C.1 (op := 60) (k' := 262) (n := 1) (kd := 7) (m := 9) (nx := 5) (r := 9) (tl := [(0, a)]) (st' := []) (by decide +kernel) rfl (by decide +kernel) (Nat.ble_eq_true_of_le (by omega)) (x262_q a D0 pa o sub ho hs HS h C t n s B Q0 W0) ?_
  rintro v3 h4 ⟨Ch4, Qh4, f1, f2⟩
  have Xh4 : zXR msxK (0) (0) h h4 := X.tr (c2 := 0) (s2 := 0) Qh4 (by decide +kernel) (by decide) (by decide)
  have Bh4 : rB t n h4 := B.fr Qh4 (by decide +kernel)
  have S2 := f2
  have Wh4 : rW n ((pPro t n (pFac t n o (sub t n))) s).2 := (W0).fn (pG_pro (pG_fac (hs t n)))
  refine zwW_p [(2, 2, 0), (0, 0, 0), (2, 3, 0)] (q := 8) (ls' := [(2, 9), (0, a), (0, v3), (0, 0), (9, 0)]) (st' := []) (by decide +kernel) rfl ?_
  have L5 : ∀ (n0 : Nat) (v2L5 v3L5 : Int) (w4L5 : Vl) (hL5 : Hp), n0 = ((1000 - v3L5)).toNat → (rB t n hL5) → (rL t n hL5 v2L5 (400 - (v3L5).toNat) (pLp t n 43 45 (pPro t n (pFac t n o (sub t n)))) (pSm0 t n (pFac t n o (sub t n)) s)) → (0 ≤ v2L5 ∧ v2L5 ≤ 1) → (0 ≤ v3L5 ∧ v3L5 ≤ 1000) → CI hL5 → zXR msxK (0) (0) h hL5 → zwW sc (D0 + 21) 241 8 [(2, 9), (0, a), (0, v2L5), (0, v3L5), w4L5] [] hL5 (zwRt 0 (fun x g => CI g ∧ zXR msxK (0) (0) h g ∧ (0 ≤ x ∧ x ≤ 1) ∧ rR t n g x ((pSm0 t n (pFac t n o (sub t n))) s))) := by
    intro n0
    induction n0 using Nat.strongRecOn with
    | ind n0 IHL5 =>
      intro v2L5 v3L5 w4L5 hL5 hnL5 iL5_0 iL5_1 iL5_2 iL5_3 ChL5 XhL5
      obtain ⟨qL, QL, WL, OL⟩ := iL5_1
      refine zwW_p [(1, 3, 0), (0, 400, 0)] (q := 12) (ls' := [(2, 9), (0, a), (0, v2L5), (0, v3L5), w4L5]) (st' := [(0, 400), (0, v3L5)]) (by decide +kernel) rfl ?_
      refine zwic_ge (q := 78) (nx := 15) (by decide +kernel) (fun c6 => ?_) (fun c6 => ?_)
      · refine zwW_p [(1, 2, 0)] (q := 79) (ls' := [(2, 9), (0, a), (0, v2L5), (0, v3L5), w4L5]) (st' := [(0, v2L5)]) (by decide +kernel) rfl ?_
        refine zwW_ret (nx := 80) (a := 1) (b := 0) (by decide +kernel) rfl (Or.inr (Or.inl ⟨rfl, by omega⟩)) ?_
        refine ⟨ChL5, XhL5.le (by decide) (by decide), by omega, ?_⟩
        show rR t n hL5 v2L5 (pSm0 t n (pFac t n o (sub t n)) s)
        first
        | (exact rL_x QL OL (Or.inr (pLp_z (Or.inl (by omega)))))
        | (exact rL_x QL OL (Or.inl (by omega)))
        | (exact rL_x QL OL (Or.inr (pLp_z (Or.inr (by omega)))))
        | (exfalso; omega)
      · refine zwW_p [(1, 2, 0)] (q := 16) (ls' := [(2, 9), (0, a), (0, v2L5), (0, v3L5), w4L5]) (st' := [(0, v2L5)]) (by decide +kernel) rfl ?_
        refine zwif_eq (q := 78) (nx := 19) (by decide +kernel) (fun c7 => ?_) (fun c7 => ?_)
        · refine zwW_p [(1, 2, 0)] (q := 79) (ls' := [(2, 9), (0, a), (0, v2L5), (0, v3L5), w4L5]) (st' := [(0, v2L5)]) (by decide +kernel) rfl ?_
          refine zwW_ret (nx := 80) (a := 1) (b := 0) (by decide +kernel) rfl (Or.inr (Or.inl ⟨rfl, by omega⟩)) ?_
          refine ⟨ChL5, XhL5.le (by decide) (by decide), by omega, ?_⟩
          show rR t n hL5 v2L5 (pSm0 t n (pFac t n o (sub t n)) s)
          first
          | (exact rL_x QL OL (Or.inr (pLp_z (Or.inl (by omega)))))
          | (exact rL_x QL OL (Or.inl (by omega)))
          | (exact rL_x QL OL (Or.inr (pLp_z (Or.inr (by omega)))))
          | (exfalso; omega)
        · refine zwW_p [(1, 0, 2)] (q := 20) (ls' := [(2, 9), (0, a), (0, v2L5), (0, v3L5), w4L5]) (st' := [(2, 9)]) (by decide +kernel) rfl ?_
          refine zwW_gs ChL5.1 (kd := 7) (bn := 4) (n := 9) (t := 0) (lo := -2147483648) (hi := 2147483647) (nx := 23) (by decide +kernel) ?_
          intro v8 ev8 lv8 uv8
          have kv8 : v8 = pK t n qL.1 := ev8.trans (QL).kd
          refine zwW_p [(0, 43, 0)] (q := 25) (ls' := [(2, 9), (0, a), (0, v2L5), (0, v3L5), w4L5]) (st' := [(0, 43), (0, v8)]) (by decide +kernel) rfl ?_
          refine zwic_eq (q := 37) (nx := 28) (by decide +kernel) (fun c9 => ?_) (fun c9 => ?_)
          · refine zwW_p [(1, 0, 2)] (q := 38) (ls' := [(2, 9), (0, a), (0, v2L5), (0, v3L5), w4L5]) (st' := [(2, 9)]) (by decide +kernel) rfl ?_
            refine zwW_gs ChL5.1 (kd := 7) (bn := 4) (n := 9) (t := 0) (lo := -2147483648) (hi := 2147483647) (nx := 41) (by decide +kernel) ?_
            intro v10 ev10 lv10 uv10
            have kv10 : v10 = pK t n qL.1 := ev10.trans (QL).kd
            refine zwW_p [(2, 4, 0), (1, 0, 2)] (q := 44) (ls' := [(2, 9), (0, a), (0, v2L5), (0, v3L5), (0, v10)]) (st' := [(2, 9)]) (by decide +kernel) rfl ?_
            refine zwW_cm ChL5.1 (op := 60) (k' := 198) (n := 0) (kd := 7) (m := 9) (nx := 47) (r := 9) (tl := []) (st' := []) (by decide +kernel) rfl (by decide +kernel) (Nat.ble_eq_true_of_le (by omega)) (x198_q hL5 ChL5 t n qL iL5_0 QL (WL).2) ?_
            rintro x h12 ⟨Ch12, Qh12, rfl, f11⟩
            have Xh12 : zXR msxK (0) (0) h h12 := XhL5.tr (c2 := 0) (s2 := 0) Qh12 (by decide +kernel) (by decide) (by decide)
            have th12_9_6 : fld h12 9 6 = fld hL5 9 6 := Qh12.f (a1 := 9) (a2 := 9) (j1 := 6) (j2 := 7) (by decide +kernel) (by first | decide | exact ⟨by decide, by decide⟩) (by first | decide | exact ⟨by decide, by decide⟩) (by first | decide | exact ⟨by decide, by decide⟩)
            have Bh12 : rB t n h12 := iL5_0.fr Qh12 (by decide +kernel)
            have Vh12 : rV n (pA t n qL) := (WL).a (by omega)
            refine zwW_p [(15, 0, 0), (1, 0, 2), (1, 1, 0)] (q := 50) (ls' := [(2, 9), (0, a), (0, v2L5), (0, v3L5), (0, v10)]) (st' := [(0, a), (2, 9)]) (by decide +kernel) rfl ?_
            refine zwW_cm Ch12.1 (op := 60) (k' := 262) (n := 1) (kd := 7) (m := 9) (nx := 53) (r := 9) (tl := [(0, a)]) (st' := []) (by decide +kernel) rfl (by decide +kernel) (Nat.ble_eq_true_of_le (by omega)) (x262_q a D0 pa o sub ho hs HS h12 Ch12 t n (pA t n qL) Bh12 f11 Vh12.wk) ?_
            rintro v15 h16 ⟨Ch16, Qh16, f13, f14⟩
            have Xh16 : zXR msxK (0) (0) h h16 := Xh12.tr (c2 := 0) (s2 := 0) Qh16 (by decide +kernel) (by decide) (by decide)
            have Bh16 : rB t n h16 := Bh12.fr Qh16 (by decide +kernel)
            have S50 := f14
            have Vh16 : rV n ((pPro t n (pFac t n o (sub t n))) (pA t n qL)).2 := (Vh12).fn (pG_pro (pG_fac (hs t n)))
            refine zwif_eq (q := 70) (nx := 56) (by decide +kernel) (fun c17 => ?_) (fun c17 => ?_)
            · refine zwW_p [(0, 0, 0), (2, 2, 0)] (q := 72) (ls' := [(2, 9), (0, a), (0, 0), (0, v3L5), (0, v10)]) (st' := []) (by decide +kernel) rfl ?_
              have LB : rL t n h16 0 (400 - (v3L5 + 1).toNat) (pLp t n 43 45 (pPro t n (pFac t n o (sub t n)))) (pSm0 t n (pFac t n o (sub t n)) s) := by
                first
                | exact rL_t S50.1 Vh16.wk ((x_one OL (by omega)).trans (pLp_n (k := 400 - (v3L5 + 1).toNat) (by omega) (by omega) (S50.b1 (by omega)) (by omega)))
                | exact rL_f S50.1 Vh16.wk ((x_one OL (by omega)).trans (pLp_f (k := 400 - (v3L5 + 1).toNat) (by omega) (by omega) (S50.b0 (by omega))))
              refine zwW_inc (i := 3) (c := 1) (x := v3L5) (nx := 75) (by decide +kernel) rfl (by first | omega | exact ⟨by omega, by omega⟩) (ls' := [(2, 9), (0, a), (0, 0), (0, (v3L5 + 1)), (0, v10)]) rfl ?_
              refine zwW_p [(24, 8, 0)] (q := 8) (ls' := [(2, 9), (0, a), (0, 0), (0, (v3L5 + 1)), (0, v10)]) (st' := []) (by decide +kernel) rfl ?_
              exact IHL5 ((1000 - (v3L5 + 1))).toNat (by omega) 0 (v3L5 + 1) (0, v10) h16 rfl (Bh16) (LB) (by omega) (by omega) Ch16 (Xh16.le (by decide) (by decide))
            · refine zwW_p [(1, 0, 2), (1, 4, 0)] (q := 59) (ls' := [(2, 9), (0, a), (0, v2L5), (0, v3L5), (0, v10)]) (st' := [(0, v10), (2, 9)]) (by decide +kernel) rfl ?_
              refine zwW_neg (nx := 60) (by decide +kernel) (by first | omega | exact ⟨by omega, by omega⟩) ?_
              refine zwW_cm Ch16.1 (op := 60) (k' := 243) (n := 1) (kd := 7) (m := 9) (nx := 63) (r := 9) (tl := [(0, (-v10))]) (st' := []) (by decide +kernel) rfl (by decide +kernel) (Nat.ble_eq_true_of_le (by omega)) (x243_q h16 Ch16 (-v10) t n (pPro t n (pFac t n o (sub t n)) (pA t n qL)).2 (by omega) S50.1 (Vh16.lt Bh16 S50.1)) ?_
              rintro x h19 ⟨Ch19, Qh19, rfl, f18⟩
              have Xh19 : zXR msxK (0) (0) h h19 := Xh16.tr (c2 := 0) (s2 := 0) Qh19 (by decide +kernel) (by decide) (by decide)
              have Bh19 : rB t n h19 := Bh16.fr Qh19 (by decide +kernel)
              refine zwif_eq (q := 70) (nx := 66) (by decide +kernel) (fun c20 => ?_) (fun c20 => ?_)
              · exfalso; omega
              · refine zwW_p [(0, 1, 0), (24, 71, 0), (2, 2, 0)] (q := 72) (ls' := [(2, 9), (0, a), (0, 1), (0, v3L5), (0, v10)]) (st' := []) (by decide +kernel) rfl ?_
                have LB : rL t n h19 1 (400 - (v3L5 + 1).toNat) (pLp t n 43 45 (pPro t n (pFac t n o (sub t n)))) (pSm0 t n (pFac t n o (sub t n)) s) := by
                  first
                  | exact rL_t f18 (Vh16).pw ((x_one OL (by omega)).trans (pLp_n (k := 400 - (v3L5 + 1).toNat) (by omega) (by omega) (S50.b1 (by omega)) (by omega)))
                  | exact rL_f S50.1 (Vh16).pw ((x_one OL (by omega)).trans (pLp_f (k := 400 - (v3L5 + 1).toNat) (by omega) (by omega) (S50.b0 (by omega))))
                refine zwW_inc (i := 3) (c := 1) (x := v3L5) (nx := 75) (by decide +kernel) rfl (by first | omega | exact ⟨by omega, by omega⟩) (ls' := [(2, 9), (0, a), (0, 1), (0, (v3L5 + 1)), (0, v10)]) rfl ?_
                refine zwW_p [(24, 8, 0)] (q := 8) (ls' := [(2, 9), (0, a), (0, 1), (0, (v3L5 + 1)), (0, v10)]) (st' := []) (by decide +kernel) rfl ?_
                exact IHL5 ((1000 - (v3L5 + 1))).toNat (by omega) 1 (v3L5 + 1) (0, v10) h19 rfl (Bh19) (LB) (by omega) (by omega) Ch19 (Xh19.le (by decide) (by decide))
          · refine zwW_p [(1, 0, 2)] (q := 29) (ls' := [(2, 9), (0, a), (0, v2L5), (0, v3L5), w4L5]) (st' := [(2, 9)]) (by decide +kernel) rfl ?_
            refine zwW_gs ChL5.1 (kd := 7) (bn := 4) (n := 9) (t := 0) (lo := -2147483648) (hi := 2147483647) (nx := 32) (by decide +kernel) ?_
            intro v21 ev21 lv21 uv21
            have kv21 : v21 = pK t n qL.1 := ev21.trans (QL).kd
            refine zwW_p [(0, 45, 0)] (q := 34) (ls' := [(2, 9), (0, a), (0, v2L5), (0, v3L5), w4L5]) (st' := [(0, 45), (0, v21)]) (by decide +kernel) rfl ?_
            refine zwic_ne (q := 78) (nx := 37) (by decide +kernel) (fun c22 => ?_) (fun c22 => ?_)
            · refine zwW_p [(1, 2, 0)] (q := 79) (ls' := [(2, 9), (0, a), (0, v2L5), (0, v3L5), w4L5]) (st' := [(0, v2L5)]) (by decide +kernel) rfl ?_
              refine zwW_ret (nx := 80) (a := 1) (b := 0) (by decide +kernel) rfl (Or.inr (Or.inl ⟨rfl, by omega⟩)) ?_
              refine ⟨ChL5, XhL5.le (by decide) (by decide), by omega, ?_⟩
              show rR t n hL5 v2L5 (pSm0 t n (pFac t n o (sub t n)) s)
              first
              | (exact rL_x QL OL (Or.inr (pLp_z (Or.inl (by omega)))))
              | (exact rL_x QL OL (Or.inl (by omega)))
              | (exact rL_x QL OL (Or.inr (pLp_z (Or.inr (by omega)))))
              | (exfalso; omega)
            · refine zwW_p [(1, 0, 2)] (q := 38) (ls' := [(2, 9), (0, a), (0, v2L5), (0, v3L5), w4L5]) (st' := [(2, 9)]) (by decide +kernel) rfl ?_
              refine zwW_gs ChL5.1 (kd := 7) (bn := 4) (n := 9) (t := 0) (lo := -2147483648) (hi := 2147483647) (nx := 41) (by decide +kernel) ?_
              intro v23 ev23 lv23 uv23
              have kv23 : v23 = pK t n qL.1 := ev23.trans (QL).kd
              refine zwW_p [(2, 4, 0), (1, 0, 2)] (q := 44) (ls' := [(2, 9), (0, a), (0, v2L5), (0, v3L5), (0, v23)]) (st' := [(2, 9)]) (by decide +kernel) rfl ?_
              refine zwW_cm ChL5.1 (op := 60) (k' := 198) (n := 0) (kd := 7) (m := 9) (nx := 47) (r := 9) (tl := []) (st' := []) (by decide +kernel) rfl (by decide +kernel) (Nat.ble_eq_true_of_le (by omega)) (x198_q hL5 ChL5 t n qL iL5_0 QL (WL).2) ?_
              rintro x h25 ⟨Ch25, Qh25, rfl, f24⟩
              have Xh25 : zXR msxK (0) (0) h h25 := XhL5.tr (c2 := 0) (s2 := 0) Qh25 (by decide +kernel) (by decide) (by decide)
              have th25_9_6 : fld h25 9 6 = fld hL5 9 6 := Qh25.f (a1 := 9) (a2 := 9) (j1 := 6) (j2 := 7) (by decide +kernel) (by first | decide | exact ⟨by decide, by decide⟩) (by first | decide | exact ⟨by decide, by decide⟩) (by first | decide | exact ⟨by decide, by decide⟩)
              have Bh25 : rB t n h25 := iL5_0.fr Qh25 (by decide +kernel)
              have Vh25 : rV n (pA t n qL) := (WL).a (by omega)
              refine zwW_p [(15, 0, 0), (1, 0, 2), (1, 1, 0)] (q := 50) (ls' := [(2, 9), (0, a), (0, v2L5), (0, v3L5), (0, v23)]) (st' := [(0, a), (2, 9)]) (by decide +kernel) rfl ?_
              refine zwW_cm Ch25.1 (op := 60) (k' := 262) (n := 1) (kd := 7) (m := 9) (nx := 53) (r := 9) (tl := [(0, a)]) (st' := []) (by decide +kernel) rfl (by decide +kernel) (Nat.ble_eq_true_of_le (by omega)) (x262_q a D0 pa o sub ho hs HS h25 Ch25 t n (pA t n qL) Bh25 f24 Vh25.wk) ?_
              rintro v28 h29 ⟨Ch29, Qh29, f26, f27⟩
              have Xh29 : zXR msxK (0) (0) h h29 := Xh25.tr (c2 := 0) (s2 := 0) Qh29 (by decide +kernel) (by decide) (by decide)
              have Bh29 : rB t n h29 := Bh25.fr Qh29 (by decide +kernel)
              have S50 := f27
              have Vh29 : rV n ((pPro t n (pFac t n o (sub t n))) (pA t n qL)).2 := (Vh25).fn (pG_pro (pG_fac (hs t n)))
              refine zwif_eq (q := 70) (nx := 56) (by decide +kernel) (fun c30 => ?_) (fun c30 => ?_)
              · refine zwW_p [(0, 0, 0), (2, 2, 0)] (q := 72) (ls' := [(2, 9), (0, a), (0, 0), (0, v3L5), (0, v23)]) (st' := []) (by decide +kernel) rfl ?_
                have LB : rL t n h29 0 (400 - (v3L5 + 1).toNat) (pLp t n 43 45 (pPro t n (pFac t n o (sub t n)))) (pSm0 t n (pFac t n o (sub t n)) s) := by
                  first
                  | exact rL_t S50.1 Vh29.wk ((x_one OL (by omega)).trans (pLp_n (k := 400 - (v3L5 + 1).toNat) (by omega) (by omega) (S50.b1 (by omega)) (by omega)))
                  | exact rL_f S50.1 Vh29.wk ((x_one OL (by omega)).trans (pLp_f (k := 400 - (v3L5 + 1).toNat) (by omega) (by omega) (S50.b0 (by omega))))
                refine zwW_inc (i := 3) (c := 1) (x := v3L5) (nx := 75) (by decide +kernel) rfl (by first | omega | exact ⟨by omega, by omega⟩) (ls' := [(2, 9), (0, a), (0, 0), (0, (v3L5 + 1)), (0, v23)]) rfl ?_
                refine zwW_p [(24, 8, 0)] (q := 8) (ls' := [(2, 9), (0, a), (0, 0), (0, (v3L5 + 1)), (0, v23)]) (st' := []) (by decide +kernel) rfl ?_
                exact IHL5 ((1000 - (v3L5 + 1))).toNat (by omega) 0 (v3L5 + 1) (0, v23) h29 rfl (Bh29) (LB) (by omega) (by omega) Ch29 (Xh29.le (by decide) (by decide))
              · refine zwW_p [(1, 0, 2), (1, 4, 0)] (q := 59) (ls' := [(2, 9), (0, a), (0, v2L5), (0, v3L5), (0, v23)]) (st' := [(0, v23), (2, 9)]) (by decide +kernel) rfl ?_
                refine zwW_neg (nx := 60) (by decide +kernel) (by first | omega | exact ⟨by omega, by omega⟩) ?_
                refine zwW_cm Ch29.1 (op := 60) (k' := 243) (n := 1) (kd := 7) (m := 9) (nx := 63) (r := 9) (tl := [(0, (-v23))]) (st' := []) (by decide +kernel) rfl (by decide +kernel) (Nat.ble_eq_true_of_le (by omega)) (x243_q h29 Ch29 (-v23) t n (pPro t n (pFac t n o (sub t n)) (pA t n qL)).2 (by omega) S50.1 (Vh29.lt Bh29 S50.1)) ?_
                rintro x h32 ⟨Ch32, Qh32, rfl, f31⟩
                have Xh32 : zXR msxK (0) (0) h h32 := Xh29.tr (c2 := 0) (s2 := 0) Qh32 (by decide +kernel) (by decide) (by decide)
                have Bh32 : rB t n h32 := Bh29.fr Qh32 (by decide +kernel)
                refine zwif_eq (q := 70) (nx := 66) (by decide +kernel) (fun c33 => ?_) (fun c33 => ?_)
                · exfalso; omega
                · refine zwW_p [(0, 1, 0), (24, 71, 0), (2, 2, 0)] (q := 72) (ls' := [(2, 9), (0, a), (0, 1), (0, v3L5), (0, v23)]) (st' := []) (by decide +kernel) rfl ?_
                  have LB : rL t n h32 1 (400 - (v3L5 + 1).toNat) (pLp t n 43 45 (pPro t n (pFac t n o (sub t n)))) (pSm0 t n (pFac t n o (sub t n)) s) := by
                    first
                    | exact rL_t f31 (Vh29).pw ((x_one OL (by omega)).trans (pLp_n (k := 400 - (v3L5 + 1).toNat) (by omega) (by omega) (S50.b1 (by omega)) (by omega)))
                    | exact rL_f S50.1 (Vh29).pw ((x_one OL (by omega)).trans (pLp_f (k := 400 - (v3L5 + 1).toNat) (by omega) (by omega) (S50.b0 (by omega))))
                  refine zwW_inc (i := 3) (c := 1) (x := v3L5) (nx := 75) (by decide +kernel) rfl (by first | omega | exact ⟨by omega, by omega⟩) (ls' := [(2, 9), (0, a), (0, 1), (0, (v3L5 + 1)), (0, v23)]) rfl ?_
                  refine zwW_p [(24, 8, 0)] (q := 8) (ls' := [(2, 9), (0, a), (0, 1), (0, (v3L5 + 1)), (0, v23)]) (st' := []) (by decide +kernel) rfl ?_
                  exact IHL5 ((1000 - (v3L5 + 1))).toNat (by omega) 1 (v3L5 + 1) (0, v23) h32 rfl (Bh32) (LB) (by omega) (by omega) Ch32 (Xh32.le (by decide) (by decide))
  exact L5 _ v3 0 (9, 0) h4 rfl (Bh4) (rL_0 S2 Wh4) (by omega) (by omega) Ch4 (Xh4.le (by decide) (by decide))
-- WheelLand$Reader.holds(I)Z
theorem x281_q {sc : List Int} (a : Int) (D0 : Nat) (pa : 0 ≤ a ∧ a ≤ 8) (o : Bool) (sub : pT → Nat → pQ → pR) (ho : (a < 8 ∧ o = true) ∨ (8 ≤ a ∧ o = false)) (hs : ∀ (t : pT) (n : Nat), pG n (sub t n)) (HS : a < 8 → rX sc D0 241 (a + 1) sub) (hol eit : pT → Nat → pQ → pR) (hh : ∀ (t : pT) (n : Nat), pG n (hol t n)) (he : ∀ (t : pT) (n : Nat), pG n (eit t n)) (HT : a < 8 → rX sc D0 281 (a + 1) hol) (HE : a < 8 → rX sc D0 242 (a + 1) eit) : rX sc (D0 + 23) 281 a (fun t n => pHol t n o (hol t n) (eit t n) (pSm0 t n (pFac t n o (sub t n)))) := by
  intro h C t n s B Q0 W0
  refine zwC_of (D := D0 + 22) 3 (by decide +kernel) rfl (ls := [(2, 9), (0, a), (9, 0)]) rfl ?_
  have X : zXR msxK 0 0 h h := zXR.rf _ _
  refine zwW_p [(1, 0, 2), (0, 20, 0)] (q := 3) (ls' := [(2, 9), (0, a), (9, 0)]) (st' := [(0, 20), (2, 9)]) (by decide +kernel) rfl ?_
  refine zwW_cm C.1 (op := 60) (k' := 264) (n := 1) (kd := 7) (m := 9) (nx := 6) (r := 9) (tl := [(0, 20)]) (st' := []) (by decide +kernel) rfl (by decide +kernel) (Nat.ble_eq_true_of_le (by omega)) (x264_p h C 20 t n s.1 (by omega) Q0.1) ?_
  rintro x _ ⟨rfl, ⟨rfl, c1⟩ | ⟨rfl, c1⟩⟩
  · refine zwif_eq (q := 47) (nx := 9) (by decide +kernel) (fun c2 => ?_) (fun c2 => ?_)
    · exfalso; omega
    · refine zwW_p [(1, 1, 0), (0, 8, 0)] (q := 12) (ls' := [(2, 9), (0, a), (9, 0)]) (st' := [(0, 8), (0, a)]) (by decide +kernel) rfl ?_
      refine zwic_ge (q := 45) (nx := 15) (by decide +kernel) (fun c3 => ?_) (fun c3 => ?_)
      · refine zwW_p [(0, 0, 0)] (q := 46) (ls' := [(2, 9), (0, a), (9, 0)]) (st' := [(0, 0)]) (by decide +kernel) rfl ?_
        refine zwW_ret (nx := 47) (a := 1) (b := 0) (by decide +kernel) rfl (Or.inr (Or.inl ⟨rfl, Or.inl rfl⟩)) ?_
        refine ⟨C, X.le (by decide) (by decide), by omega, ?_⟩
        show rR t n h 0 (pHol t n o (hol t n) (eit t n) (pSm0 t n (pFac t n o (sub t n))) s)
        first
        | (rw [pHol_n1 c1.1 c1.2 (ho.resolve_right (fun z => by omega)).2 (S26.b1 (by omega))]; exact rR_t Q0)
        | (rw [pHol_n0 c1.1 c1.2 (ho.resolve_right (fun z => by omega)).2 (S26.b0 (by omega))]; exact S26.ze (by omega))
        | (rw [pHol_nd c1.1 c1.2 (fun z1 => by have y := ho.resolve_left (fun y => by omega); rw [z1] at y; cases y.2)]; exact rR_f Q0)
        | (rw [pHol_b1 (by omega) (ho.resolve_right (fun z => by omega)).2 (S73.b1 (by omega)) (by omega)]; exact rR_t Q0)
        | (rw [pHol_bn (by omega) (ho.resolve_right (fun z => by omega)).2 (S73.b1 (by omega)) (by omega)]; exact rR_f Q0)
        | (rw [pHol_b0 (by omega) (ho.resolve_right (fun z => by omega)).2 (S73.b0 (by omega))]; exact S73.ze (by omega))
        | (rw [pHol_bd (by omega) (fun z1 => by have y := ho.resolve_left (fun y => by omega); rw [z1] at y; cases y.2)]; exact rR_f Q0)
        | (rw [pHol_s0 c1 (by omega) (S103.b0 (by omega))]; exact S103.ze (by omega))
        | (rw [pHol_sn c1 (by omega) (S103.b1 (by omega)) (by omega)]; exact rR_f Q0)
        | (rw [pHol_s1 c1 (by omega) (S103.b1 (by omega)) (by omega) (S145.b1 (by omega)), ← kz]; exact rR_t Q0)
        | (rw [pHol_s2 c1 (by omega) (S103.b1 (by omega)) (by omega) (S145.b0 (by omega))]; exact S145.ze (by omega))
        | (exfalso; omega)
      · refine zwW_p [(1, 0, 2)] (q := 16) (ls' := [(2, 9), (0, a), (9, 0)]) (st' := [(2, 9)]) (by decide +kernel) rfl ?_
        refine zwW_cm C.1 (op := 60) (k' := 198) (n := 0) (kd := 7) (m := 9) (nx := 19) (r := 9) (tl := []) (st' := []) (by decide +kernel) rfl (by decide +kernel) (Nat.ble_eq_true_of_le (by omega)) (x198_q h C t n s B Q0 (W0).2) ?_
        rintro x h5 ⟨Ch5, Qh5, rfl, f4⟩
        have Xh5 : zXR msxK (0) (0) h h5 := X.tr (c2 := 0) (s2 := 0) Qh5 (by decide +kernel) (by decide) (by decide)
        have th5_9_6 : fld h5 9 6 = fld h 9 6 := Qh5.f (a1 := 9) (a2 := 9) (j1 := 6) (j2 := 7) (by decide +kernel) (by first | decide | exact ⟨by decide, by decide⟩) (by first | decide | exact ⟨by decide, by decide⟩) (by first | decide | exact ⟨by decide, by decide⟩)
        have Bh5 : rB t n h5 := B.fr Qh5 (by decide +kernel)
        have Vh5 : rV n (pA t n s) := (W0).a (by omega)
        refine zwif_eq (q := 45) (nx := 22) (by decide +kernel) (fun c6 => ?_) (fun c6 => ?_)
        · exfalso; omega
        · refine zwW_p [(1, 0, 2), (1, 1, 0), (0, 1, 0)] (q := 25) (ls' := [(2, 9), (0, a), (9, 0)]) (st' := [(0, 1), (0, a), (2, 9)]) (by decide +kernel) rfl ?_
          refine zwW_add (nx := 26) (by decide +kernel) (by first | omega | exact ⟨by omega, by omega⟩) ?_
          refine zwW_cm Ch5.1 (op := 60) (k' := 281) (n := 1) (kd := 7) (m := 9) (nx := 29) (r := 9) (tl := [(0, (a + 1))]) (st' := []) (by decide +kernel) rfl (by decide +kernel) (Nat.ble_eq_true_of_le (by omega)) (HT (by omega) h5 Ch5 t n (pA t n s) Bh5 f4 Vh5.wk) ?_
          rintro v9 h10 ⟨Ch10, Qh10, f7, f8⟩
          have Xh10 : zXR msxK (0) (0) h h10 := Xh5.tr (c2 := 0) (s2 := 0) Qh10 (by decide +kernel) (by decide) (by decide)
          have Bh10 : rB t n h10 := Bh5.fr Qh10 (by decide +kernel)
          have S26 := f8
          have Vh10 : rV n ((hol t n) (pA t n s)).2 := (Vh5).fn (hh t n)
          refine zwif_eq (q := 45) (nx := 32) (by decide +kernel) (fun c11 => ?_) (fun c11 => ?_)
          · refine zwW_p [(0, 0, 0)] (q := 46) (ls' := [(2, 9), (0, a), (9, 0)]) (st' := [(0, 0)]) (by decide +kernel) rfl ?_
            refine zwW_ret (nx := 47) (a := 1) (b := 0) (by decide +kernel) rfl (Or.inr (Or.inl ⟨rfl, Or.inl rfl⟩)) ?_
            refine ⟨Ch10, Xh10.le (by decide) (by decide), by omega, ?_⟩
            show rR t n h10 0 (pHol t n o (hol t n) (eit t n) (pSm0 t n (pFac t n o (sub t n))) s)
            first
            | (rw [pHol_n1 c1.1 c1.2 (ho.resolve_right (fun z => by omega)).2 (S26.b1 (by omega))]; exact rR_t S26.1)
            | (rw [pHol_n0 c1.1 c1.2 (ho.resolve_right (fun z => by omega)).2 (S26.b0 (by omega))]; exact S26.ze (by omega))
            | (rw [pHol_nd c1.1 c1.2 (fun z1 => by have y := ho.resolve_left (fun y => by omega); rw [z1] at y; cases y.2)]; exact rR_f S26.1)
            | (rw [pHol_b1 (by omega) (ho.resolve_right (fun z => by omega)).2 (S73.b1 (by omega)) (by omega)]; exact rR_t S26.1)
            | (rw [pHol_bn (by omega) (ho.resolve_right (fun z => by omega)).2 (S73.b1 (by omega)) (by omega)]; exact rR_f S26.1)
            | (rw [pHol_b0 (by omega) (ho.resolve_right (fun z => by omega)).2 (S73.b0 (by omega))]; exact S73.ze (by omega))
            | (rw [pHol_bd (by omega) (fun z1 => by have y := ho.resolve_left (fun y => by omega); rw [z1] at y; cases y.2)]; exact rR_f S26.1)
            | (rw [pHol_s0 c1 (by omega) (S103.b0 (by omega))]; exact S103.ze (by omega))
            | (rw [pHol_sn c1 (by omega) (S103.b1 (by omega)) (by omega)]; exact rR_f S26.1)
            | (rw [pHol_s1 c1 (by omega) (S103.b1 (by omega)) (by omega) (S145.b1 (by omega)), ← kz]; exact rR_t S26.1)
            | (rw [pHol_s2 c1 (by omega) (S103.b1 (by omega)) (by omega) (S145.b0 (by omega))]; exact S145.ze (by omega))
            | (exfalso; omega)
          · refine zwW_p [(1, 0, 2), (0, -20, 0)] (q := 35) (ls' := [(2, 9), (0, a), (9, 0)]) (st' := [(0, -20), (2, 9)]) (by decide +kernel) rfl ?_
            refine zwW_cm Ch10.1 (op := 60) (k' := 243) (n := 1) (kd := 7) (m := 9) (nx := 38) (r := 9) (tl := [(0, -20)]) (st' := []) (by decide +kernel) rfl (by decide +kernel) (Nat.ble_eq_true_of_le (by omega)) (x243_q h10 Ch10 (-20) t n (hol t n (pA t n s)).2 (by omega) S26.1 (Vh10.lt Bh10 S26.1)) ?_
            rintro x h13 ⟨Ch13, Qh13, rfl, f12⟩
            have Xh13 : zXR msxK (0) (0) h h13 := Xh10.tr (c2 := 0) (s2 := 0) Qh13 (by decide +kernel) (by decide) (by decide)
            have Bh13 : rB t n h13 := Bh10.fr Qh13 (by decide +kernel)
            refine zwif_eq (q := 45) (nx := 41) (by decide +kernel) (fun c14 => ?_) (fun c14 => ?_)
            · exfalso; omega
            · refine zwW_p [(0, 1, 0), (24, 46, 0)] (q := 46) (ls' := [(2, 9), (0, a), (9, 0)]) (st' := [(0, 1)]) (by decide +kernel) rfl ?_
              refine zwW_ret (nx := 47) (a := 1) (b := 0) (by decide +kernel) rfl (Or.inr (Or.inl ⟨rfl, Or.inr rfl⟩)) ?_
              refine ⟨Ch13, Xh13.le (by decide) (by decide), by omega, ?_⟩
              show rR t n h13 1 (pHol t n o (hol t n) (eit t n) (pSm0 t n (pFac t n o (sub t n))) s)
              first
              | (rw [pHol_n1 c1.1 c1.2 (ho.resolve_right (fun z => by omega)).2 (S26.b1 (by omega))]; exact rR_t f12)
              | (rw [pHol_n0 c1.1 c1.2 (ho.resolve_right (fun z => by omega)).2 (S26.b0 (by omega))]; exact S26.ze (by omega))
              | (rw [pHol_nd c1.1 c1.2 (fun z1 => by have y := ho.resolve_left (fun y => by omega); rw [z1] at y; cases y.2)]; exact rR_f f12)
              | (rw [pHol_b1 (by omega) (ho.resolve_right (fun z => by omega)).2 (S73.b1 (by omega)) (by omega)]; exact rR_t f12)
              | (rw [pHol_bn (by omega) (ho.resolve_right (fun z => by omega)).2 (S73.b1 (by omega)) (by omega)]; exact rR_f f12)
              | (rw [pHol_b0 (by omega) (ho.resolve_right (fun z => by omega)).2 (S73.b0 (by omega))]; exact S73.ze (by omega))
              | (rw [pHol_bd (by omega) (fun z1 => by have y := ho.resolve_left (fun y => by omega); rw [z1] at y; cases y.2)]; exact rR_f f12)
              | (rw [pHol_s0 c1 (by omega) (S103.b0 (by omega))]; exact S103.ze (by omega))
              | (rw [pHol_sn c1 (by omega) (S103.b1 (by omega)) (by omega)]; exact rR_f f12)
              | (rw [pHol_s1 c1 (by omega) (S103.b1 (by omega)) (by omega) (S145.b1 (by omega)), ← kz]; exact rR_t f12)
              | (rw [pHol_s2 c1 (by omega) (S103.b1 (by omega)) (by omega) (S145.b0 (by omega))]; exact S145.ze (by omega))
              | (exfalso; omega)
  · refine zwif_eq (q := 47) (nx := 9) (by decide +kernel) (fun c15 => ?_) (fun c15 => ?_)
    · refine zwW_p [(1, 0, 2)] (q := 48) (ls' := [(2, 9), (0, a), (9, 0)]) (st' := [(2, 9)]) (by decide +kernel) rfl ?_
      refine zwW_gs C.1 (kd := 7) (bn := 4) (n := 9) (t := 0) (lo := -2147483648) (hi := 2147483647) (nx := 51) (by decide +kernel) ?_
      intro v16 ev16 lv16 uv16
      have kv16 : v16 = pK t n s.1 := ev16.trans (Q0).kd
      refine zwW_p [(0, 91, 0)] (q := 53) (ls' := [(2, 9), (0, a), (9, 0)]) (st' := [(0, 91), (0, v16)]) (by decide +kernel) rfl ?_
      refine zwic_ne (q := 101) (nx := 56) (by decide +kernel) (fun c17 => ?_) (fun c17 => ?_)
      · refine zwW_p [(1, 0, 2), (1, 1, 0)] (q := 103) (ls' := [(2, 9), (0, a), (9, 0)]) (st' := [(0, a), (2, 9)]) (by decide +kernel) rfl ?_
        refine zwW_cm C.1 (op := 60) (k' := 241) (n := 1) (kd := 7) (m := 9) (nx := 106) (r := 9) (tl := [(0, a)]) (st' := []) (by decide +kernel) rfl (by decide +kernel) (Nat.ble_eq_true_of_le (by omega)) (x241_q a D0 pa o sub ho hs HS h C t n s B Q0 W0) ?_
        rintro v20 h21 ⟨Ch21, Qh21, f18, f19⟩
        have Xh21 : zXR msxK (0) (0) h h21 := X.tr (c2 := 0) (s2 := 0) Qh21 (by decide +kernel) (by decide) (by decide)
        have Bh21 : rB t n h21 := B.fr Qh21 (by decide +kernel)
        have S103 := f19
        have Wh21 : rW n ((pSm0 t n (pFac t n o (sub t n))) s).2 := (W0).fn (pG_sm0 (pG_fac (hs t n)))
        refine zwif_ne (q := 111) (nx := 109) (by decide +kernel) (fun c22 => ?_) (fun c22 => ?_)
        · refine zwW_p [(1, 0, 2)] (q := 112) (ls' := [(2, 9), (0, a), (9, 0)]) (st' := [(2, 9)]) (by decide +kernel) rfl ?_
          refine zwW_gs Ch21.1 (kd := 7) (bn := 4) (n := 9) (t := 0) (lo := -2147483648) (hi := 2147483647) (nx := 115) (by decide +kernel) ?_
          intro v23 ev23 lv23 uv23
          have kv23 : v23 = pK t n (pSm0 t n (pFac t n o (sub t n)) s).2.1 := ev23.trans (S103.1).kd
          refine zwW_p [(2, 2, 0), (1, 2, 0), (0, 60, 0)] (q := 119) (ls' := [(2, 9), (0, a), (0, v23)]) (st' := [(0, 60), (0, v23)]) (by decide +kernel) rfl ?_
          refine zwic_eq (q := 136) (nx := 122) (by decide +kernel) (fun c24 => ?_) (fun c24 => ?_)
          · refine zwW_p [(1, 0, 2)] (q := 137) (ls' := [(2, 9), (0, a), (0, v23)]) (st' := [(2, 9)]) (by decide +kernel) rfl ?_
            refine zwW_cm Ch21.1 (op := 60) (k' := 198) (n := 0) (kd := 7) (m := 9) (nx := 140) (r := 9) (tl := []) (st' := []) (by decide +kernel) rfl (by decide +kernel) (Nat.ble_eq_true_of_le (by omega)) (x198_q h21 Ch21 t n (pSm0 t n (pFac t n o (sub t n)) s).2 Bh21 S103.1 (Wh21).2) ?_
            rintro x h26 ⟨Ch26, Qh26, rfl, f25⟩
            have Xh26 : zXR msxK (0) (0) h h26 := Xh21.tr (c2 := 0) (s2 := 0) Qh26 (by decide +kernel) (by decide) (by decide)
            have th26_9_6 : fld h26 9 6 = fld h21 9 6 := Qh26.f (a1 := 9) (a2 := 9) (j1 := 6) (j2 := 7) (by decide +kernel) (by first | decide | exact ⟨by decide, by decide⟩) (by first | decide | exact ⟨by decide, by decide⟩) (by first | decide | exact ⟨by decide, by decide⟩)
            have Bh26 : rB t n h26 := Bh21.fr Qh26 (by decide +kernel)
            have Vh26 : rV n (pA t n ((pSm0 t n (pFac t n o (sub t n)) s).2)) := (Wh21).a (by omega)
            refine zwif_eq (q := 164) (nx := 143) (by decide +kernel) (fun c27 => ?_) (fun c27 => ?_)
            · exfalso; omega
            · refine zwW_p [(1, 0, 2), (1, 1, 0)] (q := 145) (ls' := [(2, 9), (0, a), (0, v23)]) (st' := [(0, a), (2, 9)]) (by decide +kernel) rfl ?_
              refine zwW_cm Ch26.1 (op := 60) (k' := 241) (n := 1) (kd := 7) (m := 9) (nx := 148) (r := 9) (tl := [(0, a)]) (st' := []) (by decide +kernel) rfl (by decide +kernel) (Nat.ble_eq_true_of_le (by omega)) (x241_q a D0 pa o sub ho hs HS h26 Ch26 t n (pA t n ((pSm0 t n (pFac t n o (sub t n)) s).2)) Bh26 f25 Vh26.wk) ?_
              rintro v30 h31 ⟨Ch31, Qh31, f28, f29⟩
              have Xh31 : zXR msxK (0) (0) h h31 := Xh26.tr (c2 := 0) (s2 := 0) Qh31 (by decide +kernel) (by decide) (by decide)
              have Bh31 : rB t n h31 := Bh26.fr Qh31 (by decide +kernel)
              have S145 := f29
              have Vh31 : rV n ((pSm0 t n (pFac t n o (sub t n))) (pA t n ((pSm0 t n (pFac t n o (sub t n)) s).2))).2 := (Vh26).fn (pG_sm0 (pG_fac (hs t n)))
              refine zwif_eq (q := 164) (nx := 151) (by decide +kernel) (fun c32 => ?_) (fun c32 => ?_)
              · refine zwW_p [(0, 0, 0)] (q := 165) (ls' := [(2, 9), (0, a), (0, v23)]) (st' := [(0, 0)]) (by decide +kernel) rfl ?_
                refine zwW_ret (nx := 166) (a := 1) (b := 0) (by decide +kernel) rfl (Or.inr (Or.inl ⟨rfl, Or.inl rfl⟩)) ?_
                refine ⟨Ch31, Xh31.le (by decide) (by decide), by omega, ?_⟩
                show rR t n h31 0 (pHol t n o (hol t n) (eit t n) (pSm0 t n (pFac t n o (sub t n))) s)
                first
                | (rw [pHol_n1 c1.1 c1.2 (ho.resolve_right (fun z => by omega)).2 (S26.b1 (by omega))]; exact rR_t S145.1)
                | (rw [pHol_n0 c1.1 c1.2 (ho.resolve_right (fun z => by omega)).2 (S26.b0 (by omega))]; exact S26.ze (by omega))
                | (rw [pHol_nd c1.1 c1.2 (fun z1 => by have y := ho.resolve_left (fun y => by omega); rw [z1] at y; cases y.2)]; exact rR_f S145.1)
                | (rw [pHol_b1 (by omega) (ho.resolve_right (fun z => by omega)).2 (S73.b1 (by omega)) (by omega)]; exact rR_t S145.1)
                | (rw [pHol_bn (by omega) (ho.resolve_right (fun z => by omega)).2 (S73.b1 (by omega)) (by omega)]; exact rR_f S145.1)
                | (rw [pHol_b0 (by omega) (ho.resolve_right (fun z => by omega)).2 (S73.b0 (by omega))]; exact S73.ze (by omega))
                | (rw [pHol_bd (by omega) (fun z1 => by have y := ho.resolve_left (fun y => by omega); rw [z1] at y; cases y.2)]; exact rR_f S145.1)
                | (rw [pHol_s0 c1 (by omega) (S103.b0 (by omega))]; exact S103.ze (by omega))
                | (rw [pHol_sn c1 (by omega) (S103.b1 (by omega)) (by omega)]; exact rR_f S145.1)
                | (rw [pHol_s1 c1 (by omega) (S103.b1 (by omega)) (by omega) (S145.b1 (by omega)), ← kv23]; exact rR_t S145.1)
                | (rw [pHol_s2 c1 (by omega) (S103.b1 (by omega)) (by omega) (S145.b0 (by omega))]; exact S145.ze (by omega))
                | (exfalso; omega)
              · refine zwW_p [(1, 0, 2), (1, 2, 0)] (q := 153) (ls' := [(2, 9), (0, a), (0, v23)]) (st' := [(0, v23), (2, 9)]) (by decide +kernel) rfl ?_
                refine zwW_neg (nx := 154) (by decide +kernel) (by first | omega | exact ⟨by omega, by omega⟩) ?_
                refine zwW_cm Ch31.1 (op := 60) (k' := 243) (n := 1) (kd := 7) (m := 9) (nx := 157) (r := 9) (tl := [(0, (-v23))]) (st' := []) (by decide +kernel) rfl (by decide +kernel) (Nat.ble_eq_true_of_le (by omega)) (x243_q h31 Ch31 (-v23) t n (pSm0 t n (pFac t n o (sub t n)) (pA t n ((pSm0 t n (pFac t n o (sub t n)) s).2))).2 (by omega) S145.1 (Vh31.lt Bh31 S145.1)) ?_
                rintro x h34 ⟨Ch34, Qh34, rfl, f33⟩
                have Xh34 : zXR msxK (0) (0) h h34 := Xh31.tr (c2 := 0) (s2 := 0) Qh34 (by decide +kernel) (by decide) (by decide)
                have Bh34 : rB t n h34 := Bh31.fr Qh34 (by decide +kernel)
                refine zwif_eq (q := 164) (nx := 160) (by decide +kernel) (fun c35 => ?_) (fun c35 => ?_)
                · exfalso; omega
                · refine zwW_p [(0, 1, 0), (24, 165, 0)] (q := 165) (ls' := [(2, 9), (0, a), (0, v23)]) (st' := [(0, 1)]) (by decide +kernel) rfl ?_
                  refine zwW_ret (nx := 166) (a := 1) (b := 0) (by decide +kernel) rfl (Or.inr (Or.inl ⟨rfl, Or.inr rfl⟩)) ?_
                  refine ⟨Ch34, Xh34.le (by decide) (by decide), by omega, ?_⟩
                  show rR t n h34 1 (pHol t n o (hol t n) (eit t n) (pSm0 t n (pFac t n o (sub t n))) s)
                  first
                  | (rw [pHol_n1 c1.1 c1.2 (ho.resolve_right (fun z => by omega)).2 (S26.b1 (by omega))]; exact rR_t f33)
                  | (rw [pHol_n0 c1.1 c1.2 (ho.resolve_right (fun z => by omega)).2 (S26.b0 (by omega))]; exact S26.ze (by omega))
                  | (rw [pHol_nd c1.1 c1.2 (fun z1 => by have y := ho.resolve_left (fun y => by omega); rw [z1] at y; cases y.2)]; exact rR_f f33)
                  | (rw [pHol_b1 (by omega) (ho.resolve_right (fun z => by omega)).2 (S73.b1 (by omega)) (by omega)]; exact rR_t f33)
                  | (rw [pHol_bn (by omega) (ho.resolve_right (fun z => by omega)).2 (S73.b1 (by omega)) (by omega)]; exact rR_f f33)
                  | (rw [pHol_b0 (by omega) (ho.resolve_right (fun z => by omega)).2 (S73.b0 (by omega))]; exact S73.ze (by omega))
                  | (rw [pHol_bd (by omega) (fun z1 => by have y := ho.resolve_left (fun y => by omega); rw [z1] at y; cases y.2)]; exact rR_f f33)
                  | (rw [pHol_s0 c1 (by omega) (S103.b0 (by omega))]; exact S103.ze (by omega))
                  | (rw [pHol_sn c1 (by omega) (S103.b1 (by omega)) (by omega)]; exact rR_f f33)
                  | (rw [pHol_s1 c1 (by omega) (S103.b1 (by omega)) (by omega) (S145.b1 (by omega)), ← kv23]; exact rR_t f33)
                  | (rw [pHol_s2 c1 (by omega) (S103.b1 (by omega)) (by omega) (S145.b0 (by omega))]; exact S145.ze (by omega))
                  | (exfalso; omega)
          · refine zwW_p [(1, 2, 0), (0, 62, 0)] (q := 125) (ls' := [(2, 9), (0, a), (0, v23)]) (st' := [(0, 62), (0, v23)]) (by decide +kernel) rfl ?_
            refine zwic_eq (q := 136) (nx := 128) (by decide +kernel) (fun c36 => ?_) (fun c36 => ?_)
            · refine zwW_p [(1, 0, 2)] (q := 137) (ls' := [(2, 9), (0, a), (0, v23)]) (st' := [(2, 9)]) (by decide +kernel) rfl ?_
              refine zwW_cm Ch21.1 (op := 60) (k' := 198) (n := 0) (kd := 7) (m := 9) (nx := 140) (r := 9) (tl := []) (st' := []) (by decide +kernel) rfl (by decide +kernel) (Nat.ble_eq_true_of_le (by omega)) (x198_q h21 Ch21 t n (pSm0 t n (pFac t n o (sub t n)) s).2 Bh21 S103.1 (Wh21).2) ?_
              rintro x h38 ⟨Ch38, Qh38, rfl, f37⟩
              have Xh38 : zXR msxK (0) (0) h h38 := Xh21.tr (c2 := 0) (s2 := 0) Qh38 (by decide +kernel) (by decide) (by decide)
              have th38_9_6 : fld h38 9 6 = fld h21 9 6 := Qh38.f (a1 := 9) (a2 := 9) (j1 := 6) (j2 := 7) (by decide +kernel) (by first | decide | exact ⟨by decide, by decide⟩) (by first | decide | exact ⟨by decide, by decide⟩) (by first | decide | exact ⟨by decide, by decide⟩)
              have Bh38 : rB t n h38 := Bh21.fr Qh38 (by decide +kernel)
              have Vh38 : rV n (pA t n ((pSm0 t n (pFac t n o (sub t n)) s).2)) := (Wh21).a (by omega)
              refine zwif_eq (q := 164) (nx := 143) (by decide +kernel) (fun c39 => ?_) (fun c39 => ?_)
              · exfalso; omega
              · refine zwW_p [(1, 0, 2), (1, 1, 0)] (q := 145) (ls' := [(2, 9), (0, a), (0, v23)]) (st' := [(0, a), (2, 9)]) (by decide +kernel) rfl ?_
                refine zwW_cm Ch38.1 (op := 60) (k' := 241) (n := 1) (kd := 7) (m := 9) (nx := 148) (r := 9) (tl := [(0, a)]) (st' := []) (by decide +kernel) rfl (by decide +kernel) (Nat.ble_eq_true_of_le (by omega)) (x241_q a D0 pa o sub ho hs HS h38 Ch38 t n (pA t n ((pSm0 t n (pFac t n o (sub t n)) s).2)) Bh38 f37 Vh38.wk) ?_
                rintro v42 h43 ⟨Ch43, Qh43, f40, f41⟩
                have Xh43 : zXR msxK (0) (0) h h43 := Xh38.tr (c2 := 0) (s2 := 0) Qh43 (by decide +kernel) (by decide) (by decide)
                have Bh43 : rB t n h43 := Bh38.fr Qh43 (by decide +kernel)
                have S145 := f41
                have Vh43 : rV n ((pSm0 t n (pFac t n o (sub t n))) (pA t n ((pSm0 t n (pFac t n o (sub t n)) s).2))).2 := (Vh38).fn (pG_sm0 (pG_fac (hs t n)))
                refine zwif_eq (q := 164) (nx := 151) (by decide +kernel) (fun c44 => ?_) (fun c44 => ?_)
                · refine zwW_p [(0, 0, 0)] (q := 165) (ls' := [(2, 9), (0, a), (0, v23)]) (st' := [(0, 0)]) (by decide +kernel) rfl ?_
                  refine zwW_ret (nx := 166) (a := 1) (b := 0) (by decide +kernel) rfl (Or.inr (Or.inl ⟨rfl, Or.inl rfl⟩)) ?_
                  refine ⟨Ch43, Xh43.le (by decide) (by decide), by omega, ?_⟩
                  show rR t n h43 0 (pHol t n o (hol t n) (eit t n) (pSm0 t n (pFac t n o (sub t n))) s)
                  first
                  | (rw [pHol_n1 c1.1 c1.2 (ho.resolve_right (fun z => by omega)).2 (S26.b1 (by omega))]; exact rR_t S145.1)
                  | (rw [pHol_n0 c1.1 c1.2 (ho.resolve_right (fun z => by omega)).2 (S26.b0 (by omega))]; exact S26.ze (by omega))
                  | (rw [pHol_nd c1.1 c1.2 (fun z1 => by have y := ho.resolve_left (fun y => by omega); rw [z1] at y; cases y.2)]; exact rR_f S145.1)
                  | (rw [pHol_b1 (by omega) (ho.resolve_right (fun z => by omega)).2 (S73.b1 (by omega)) (by omega)]; exact rR_t S145.1)
                  | (rw [pHol_bn (by omega) (ho.resolve_right (fun z => by omega)).2 (S73.b1 (by omega)) (by omega)]; exact rR_f S145.1)
                  | (rw [pHol_b0 (by omega) (ho.resolve_right (fun z => by omega)).2 (S73.b0 (by omega))]; exact S73.ze (by omega))
                  | (rw [pHol_bd (by omega) (fun z1 => by have y := ho.resolve_left (fun y => by omega); rw [z1] at y; cases y.2)]; exact rR_f S145.1)
                  | (rw [pHol_s0 c1 (by omega) (S103.b0 (by omega))]; exact S103.ze (by omega))
                  | (rw [pHol_sn c1 (by omega) (S103.b1 (by omega)) (by omega)]; exact rR_f S145.1)
                  | (rw [pHol_s1 c1 (by omega) (S103.b1 (by omega)) (by omega) (S145.b1 (by omega)), ← kv23]; exact rR_t S145.1)
                  | (rw [pHol_s2 c1 (by omega) (S103.b1 (by omega)) (by omega) (S145.b0 (by omega))]; exact S145.ze (by omega))
                  | (exfalso; omega)
                · refine zwW_p [(1, 0, 2), (1, 2, 0)] (q := 153) (ls' := [(2, 9), (0, a), (0, v23)]) (st' := [(0, v23), (2, 9)]) (by decide +kernel) rfl ?_
                  refine zwW_neg (nx := 154) (by decide +kernel) (by first | omega | exact ⟨by omega, by omega⟩) ?_
                  refine zwW_cm Ch43.1 (op := 60) (k' := 243) (n := 1) (kd := 7) (m := 9) (nx := 157) (r := 9) (tl := [(0, (-v23))]) (st' := []) (by decide +kernel) rfl (by decide +kernel) (Nat.ble_eq_true_of_le (by omega)) (x243_q h43 Ch43 (-v23) t n (pSm0 t n (pFac t n o (sub t n)) (pA t n ((pSm0 t n (pFac t n o (sub t n)) s).2))).2 (by omega) S145.1 (Vh43.lt Bh43 S145.1)) ?_
                  rintro x h46 ⟨Ch46, Qh46, rfl, f45⟩
                  have Xh46 : zXR msxK (0) (0) h h46 := Xh43.tr (c2 := 0) (s2 := 0) Qh46 (by decide +kernel) (by decide) (by decide)
                  have Bh46 : rB t n h46 := Bh43.fr Qh46 (by decide +kernel)
                  refine zwif_eq (q := 164) (nx := 160) (by decide +kernel) (fun c47 => ?_) (fun c47 => ?_)
                  · exfalso; omega
                  · refine zwW_p [(0, 1, 0), (24, 165, 0)] (q := 165) (ls' := [(2, 9), (0, a), (0, v23)]) (st' := [(0, 1)]) (by decide +kernel) rfl ?_
                    refine zwW_ret (nx := 166) (a := 1) (b := 0) (by decide +kernel) rfl (Or.inr (Or.inl ⟨rfl, Or.inr rfl⟩)) ?_
                    refine ⟨Ch46, Xh46.le (by decide) (by decide), by omega, ?_⟩
                    show rR t n h46 1 (pHol t n o (hol t n) (eit t n) (pSm0 t n (pFac t n o (sub t n))) s)
                    first
                    | (rw [pHol_n1 c1.1 c1.2 (ho.resolve_right (fun z => by omega)).2 (S26.b1 (by omega))]; exact rR_t f45)
                    | (rw [pHol_n0 c1.1 c1.2 (ho.resolve_right (fun z => by omega)).2 (S26.b0 (by omega))]; exact S26.ze (by omega))
                    | (rw [pHol_nd c1.1 c1.2 (fun z1 => by have y := ho.resolve_left (fun y => by omega); rw [z1] at y; cases y.2)]; exact rR_f f45)
                    | (rw [pHol_b1 (by omega) (ho.resolve_right (fun z => by omega)).2 (S73.b1 (by omega)) (by omega)]; exact rR_t f45)
                    | (rw [pHol_bn (by omega) (ho.resolve_right (fun z => by omega)).2 (S73.b1 (by omega)) (by omega)]; exact rR_f f45)
                    | (rw [pHol_b0 (by omega) (ho.resolve_right (fun z => by omega)).2 (S73.b0 (by omega))]; exact S73.ze (by omega))
                    | (rw [pHol_bd (by omega) (fun z1 => by have y := ho.resolve_left (fun y => by omega); rw [z1] at y; cases y.2)]; exact rR_f f45)
                    | (rw [pHol_s0 c1 (by omega) (S103.b0 (by omega))]; exact S103.ze (by omega))
                    | (rw [pHol_sn c1 (by omega) (S103.b1 (by omega)) (by omega)]; exact rR_f f45)
                    | (rw [pHol_s1 c1 (by omega) (S103.b1 (by omega)) (by omega) (S145.b1 (by omega)), ← kv23]; exact rR_t f45)
                    | (rw [pHol_s2 c1 (by omega) (S103.b1 (by omega)) (by omega) (S145.b0 (by omega))]; exact S145.ze (by omega))
                    | (exfalso; omega)
            · refine zwW_p [(1, 2, 0), (0, 61, 0)] (q := 131) (ls' := [(2, 9), (0, a), (0, v23)]) (st' := [(0, 61), (0, v23)]) (by decide +kernel) rfl ?_
              refine zwic_eq (q := 136) (nx := 134) (by decide +kernel) (fun c48 => ?_) (fun c48 => ?_)
              · refine zwW_p [(1, 0, 2)] (q := 137) (ls' := [(2, 9), (0, a), (0, v23)]) (st' := [(2, 9)]) (by decide +kernel) rfl ?_
                refine zwW_cm Ch21.1 (op := 60) (k' := 198) (n := 0) (kd := 7) (m := 9) (nx := 140) (r := 9) (tl := []) (st' := []) (by decide +kernel) rfl (by decide +kernel) (Nat.ble_eq_true_of_le (by omega)) (x198_q h21 Ch21 t n (pSm0 t n (pFac t n o (sub t n)) s).2 Bh21 S103.1 (Wh21).2) ?_
                rintro x h50 ⟨Ch50, Qh50, rfl, f49⟩
                have Xh50 : zXR msxK (0) (0) h h50 := Xh21.tr (c2 := 0) (s2 := 0) Qh50 (by decide +kernel) (by decide) (by decide)
                have th50_9_6 : fld h50 9 6 = fld h21 9 6 := Qh50.f (a1 := 9) (a2 := 9) (j1 := 6) (j2 := 7) (by decide +kernel) (by first | decide | exact ⟨by decide, by decide⟩) (by first | decide | exact ⟨by decide, by decide⟩) (by first | decide | exact ⟨by decide, by decide⟩)
                have Bh50 : rB t n h50 := Bh21.fr Qh50 (by decide +kernel)
                have Vh50 : rV n (pA t n ((pSm0 t n (pFac t n o (sub t n)) s).2)) := (Wh21).a (by omega)
                refine zwif_eq (q := 164) (nx := 143) (by decide +kernel) (fun c51 => ?_) (fun c51 => ?_)
                · exfalso; omega
                · refine zwW_p [(1, 0, 2), (1, 1, 0)] (q := 145) (ls' := [(2, 9), (0, a), (0, v23)]) (st' := [(0, a), (2, 9)]) (by decide +kernel) rfl ?_
                  refine zwW_cm Ch50.1 (op := 60) (k' := 241) (n := 1) (kd := 7) (m := 9) (nx := 148) (r := 9) (tl := [(0, a)]) (st' := []) (by decide +kernel) rfl (by decide +kernel) (Nat.ble_eq_true_of_le (by omega)) (x241_q a D0 pa o sub ho hs HS h50 Ch50 t n (pA t n ((pSm0 t n (pFac t n o (sub t n)) s).2)) Bh50 f49 Vh50.wk) ?_
                  rintro v54 h55 ⟨Ch55, Qh55, f52, f53⟩
                  have Xh55 : zXR msxK (0) (0) h h55 := Xh50.tr (c2 := 0) (s2 := 0) Qh55 (by decide +kernel) (by decide) (by decide)
                  have Bh55 : rB t n h55 := Bh50.fr Qh55 (by decide +kernel)
                  have S145 := f53
                  have Vh55 : rV n ((pSm0 t n (pFac t n o (sub t n))) (pA t n ((pSm0 t n (pFac t n o (sub t n)) s).2))).2 := (Vh50).fn (pG_sm0 (pG_fac (hs t n)))
                  refine zwif_eq (q := 164) (nx := 151) (by decide +kernel) (fun c56 => ?_) (fun c56 => ?_)
                  · refine zwW_p [(0, 0, 0)] (q := 165) (ls' := [(2, 9), (0, a), (0, v23)]) (st' := [(0, 0)]) (by decide +kernel) rfl ?_
                    refine zwW_ret (nx := 166) (a := 1) (b := 0) (by decide +kernel) rfl (Or.inr (Or.inl ⟨rfl, Or.inl rfl⟩)) ?_
                    refine ⟨Ch55, Xh55.le (by decide) (by decide), by omega, ?_⟩
                    show rR t n h55 0 (pHol t n o (hol t n) (eit t n) (pSm0 t n (pFac t n o (sub t n))) s)
                    first
                    | (rw [pHol_n1 c1.1 c1.2 (ho.resolve_right (fun z => by omega)).2 (S26.b1 (by omega))]; exact rR_t S145.1)
                    | (rw [pHol_n0 c1.1 c1.2 (ho.resolve_right (fun z => by omega)).2 (S26.b0 (by omega))]; exact S26.ze (by omega))
                    | (rw [pHol_nd c1.1 c1.2 (fun z1 => by have y := ho.resolve_left (fun y => by omega); rw [z1] at y; cases y.2)]; exact rR_f S145.1)
                    | (rw [pHol_b1 (by omega) (ho.resolve_right (fun z => by omega)).2 (S73.b1 (by omega)) (by omega)]; exact rR_t S145.1)
                    | (rw [pHol_bn (by omega) (ho.resolve_right (fun z => by omega)).2 (S73.b1 (by omega)) (by omega)]; exact rR_f S145.1)
                    | (rw [pHol_b0 (by omega) (ho.resolve_right (fun z => by omega)).2 (S73.b0 (by omega))]; exact S73.ze (by omega))
                    | (rw [pHol_bd (by omega) (fun z1 => by have y := ho.resolve_left (fun y => by omega); rw [z1] at y; cases y.2)]; exact rR_f S145.1)
                    | (rw [pHol_s0 c1 (by omega) (S103.b0 (by omega))]; exact S103.ze (by omega))
                    | (rw [pHol_sn c1 (by omega) (S103.b1 (by omega)) (by omega)]; exact rR_f S145.1)
                    | (rw [pHol_s1 c1 (by omega) (S103.b1 (by omega)) (by omega) (S145.b1 (by omega)), ← kv23]; exact rR_t S145.1)
                    | (rw [pHol_s2 c1 (by omega) (S103.b1 (by omega)) (by omega) (S145.b0 (by omega))]; exact S145.ze (by omega))
                    | (exfalso; omega)
                  · refine zwW_p [(1, 0, 2), (1, 2, 0)] (q := 153) (ls' := [(2, 9), (0, a), (0, v23)]) (st' := [(0, v23), (2, 9)]) (by decide +kernel) rfl ?_
                    refine zwW_neg (nx := 154) (by decide +kernel) (by first | omega | exact ⟨by omega, by omega⟩) ?_
                    refine zwW_cm Ch55.1 (op := 60) (k' := 243) (n := 1) (kd := 7) (m := 9) (nx := 157) (r := 9) (tl := [(0, (-v23))]) (st' := []) (by decide +kernel) rfl (by decide +kernel) (Nat.ble_eq_true_of_le (by omega)) (x243_q h55 Ch55 (-v23) t n (pSm0 t n (pFac t n o (sub t n)) (pA t n ((pSm0 t n (pFac t n o (sub t n)) s).2))).2 (by omega) S145.1 (Vh55.lt Bh55 S145.1)) ?_
                    rintro x h58 ⟨Ch58, Qh58, rfl, f57⟩
                    have Xh58 : zXR msxK (0) (0) h h58 := Xh55.tr (c2 := 0) (s2 := 0) Qh58 (by decide +kernel) (by decide) (by decide)
                    have Bh58 : rB t n h58 := Bh55.fr Qh58 (by decide +kernel)
                    refine zwif_eq (q := 164) (nx := 160) (by decide +kernel) (fun c59 => ?_) (fun c59 => ?_)
                    · exfalso; omega
                    · refine zwW_p [(0, 1, 0), (24, 165, 0)] (q := 165) (ls' := [(2, 9), (0, a), (0, v23)]) (st' := [(0, 1)]) (by decide +kernel) rfl ?_
                      refine zwW_ret (nx := 166) (a := 1) (b := 0) (by decide +kernel) rfl (Or.inr (Or.inl ⟨rfl, Or.inr rfl⟩)) ?_
                      refine ⟨Ch58, Xh58.le (by decide) (by decide), by omega, ?_⟩
                      show rR t n h58 1 (pHol t n o (hol t n) (eit t n) (pSm0 t n (pFac t n o (sub t n))) s)
                      first
                      | (rw [pHol_n1 c1.1 c1.2 (ho.resolve_right (fun z => by omega)).2 (S26.b1 (by omega))]; exact rR_t f57)
                      | (rw [pHol_n0 c1.1 c1.2 (ho.resolve_right (fun z => by omega)).2 (S26.b0 (by omega))]; exact S26.ze (by omega))
                      | (rw [pHol_nd c1.1 c1.2 (fun z1 => by have y := ho.resolve_left (fun y => by omega); rw [z1] at y; cases y.2)]; exact rR_f f57)
                      | (rw [pHol_b1 (by omega) (ho.resolve_right (fun z => by omega)).2 (S73.b1 (by omega)) (by omega)]; exact rR_t f57)
                      | (rw [pHol_bn (by omega) (ho.resolve_right (fun z => by omega)).2 (S73.b1 (by omega)) (by omega)]; exact rR_f f57)
                      | (rw [pHol_b0 (by omega) (ho.resolve_right (fun z => by omega)).2 (S73.b0 (by omega))]; exact S73.ze (by omega))
                      | (rw [pHol_bd (by omega) (fun z1 => by have y := ho.resolve_left (fun y => by omega); rw [z1] at y; cases y.2)]; exact rR_f f57)
                      | (rw [pHol_s0 c1 (by omega) (S103.b0 (by omega))]; exact S103.ze (by omega))
                      | (rw [pHol_sn c1 (by omega) (S103.b1 (by omega)) (by omega)]; exact rR_f f57)
                      | (rw [pHol_s1 c1 (by omega) (S103.b1 (by omega)) (by omega) (S145.b1 (by omega)), ← kv23]; exact rR_t f57)
                      | (rw [pHol_s2 c1 (by omega) (S103.b1 (by omega)) (by omega) (S145.b0 (by omega))]; exact S145.ze (by omega))
                      | (exfalso; omega)
              · refine zwW_p [(0, 0, 0)] (q := 135) (ls' := [(2, 9), (0, a), (0, v23)]) (st' := [(0, 0)]) (by decide +kernel) rfl ?_
                refine zwW_ret (nx := 136) (a := 1) (b := 0) (by decide +kernel) rfl (Or.inr (Or.inl ⟨rfl, Or.inl rfl⟩)) ?_
                refine ⟨Ch21, Xh21.le (by decide) (by decide), by omega, ?_⟩
                show rR t n h21 0 (pHol t n o (hol t n) (eit t n) (pSm0 t n (pFac t n o (sub t n))) s)
                first
                | (rw [pHol_n1 c1.1 c1.2 (ho.resolve_right (fun z => by omega)).2 (S26.b1 (by omega))]; exact rR_t S103.1)
                | (rw [pHol_n0 c1.1 c1.2 (ho.resolve_right (fun z => by omega)).2 (S26.b0 (by omega))]; exact S26.ze (by omega))
                | (rw [pHol_nd c1.1 c1.2 (fun z1 => by have y := ho.resolve_left (fun y => by omega); rw [z1] at y; cases y.2)]; exact rR_f S103.1)
                | (rw [pHol_b1 (by omega) (ho.resolve_right (fun z => by omega)).2 (S73.b1 (by omega)) (by omega)]; exact rR_t S103.1)
                | (rw [pHol_bn (by omega) (ho.resolve_right (fun z => by omega)).2 (S73.b1 (by omega)) (by omega)]; exact rR_f S103.1)
                | (rw [pHol_b0 (by omega) (ho.resolve_right (fun z => by omega)).2 (S73.b0 (by omega))]; exact S73.ze (by omega))
                | (rw [pHol_bd (by omega) (fun z1 => by have y := ho.resolve_left (fun y => by omega); rw [z1] at y; cases y.2)]; exact rR_f S103.1)
                | (rw [pHol_s0 c1 (by omega) (S103.b0 (by omega))]; exact S103.ze (by omega))
                | (rw [pHol_sn c1 (by omega) (S103.b1 (by omega)) (by omega)]; exact rR_f S103.1)
                | (rw [pHol_s1 c1 (by omega) (S103.b1 (by omega)) (by omega) (S145.b1 (by omega)), ← kv23]; exact rR_t S103.1)
                | (rw [pHol_s2 c1 (by omega) (S103.b1 (by omega)) (by omega) (S145.b0 (by omega))]; exact S145.ze (by omega))
                | (exfalso; omega)
        · refine zwW_p [(0, 0, 0)] (q := 110) (ls' := [(2, 9), (0, a), (9, 0)]) (st' := [(0, 0)]) (by decide +kernel) rfl ?_
          refine zwW_ret (nx := 111) (a := 1) (b := 0) (by decide +kernel) rfl (Or.inr (Or.inl ⟨rfl, Or.inl rfl⟩)) ?_
          refine ⟨Ch21, Xh21.le (by decide) (by decide), by omega, ?_⟩
          show rR t n h21 0 (pHol t n o (hol t n) (eit t n) (pSm0 t n (pFac t n o (sub t n))) s)
          first
          | (rw [pHol_n1 c1.1 c1.2 (ho.resolve_right (fun z => by omega)).2 (S26.b1 (by omega))]; exact rR_t S103.1)
          | (rw [pHol_n0 c1.1 c1.2 (ho.resolve_right (fun z => by omega)).2 (S26.b0 (by omega))]; exact S26.ze (by omega))
          | (rw [pHol_nd c1.1 c1.2 (fun z1 => by have y := ho.resolve_left (fun y => by omega); rw [z1] at y; cases y.2)]; exact rR_f S103.1)
          | (rw [pHol_b1 (by omega) (ho.resolve_right (fun z => by omega)).2 (S73.b1 (by omega)) (by omega)]; exact rR_t S103.1)
          | (rw [pHol_bn (by omega) (ho.resolve_right (fun z => by omega)).2 (S73.b1 (by omega)) (by omega)]; exact rR_f S103.1)
          | (rw [pHol_b0 (by omega) (ho.resolve_right (fun z => by omega)).2 (S73.b0 (by omega))]; exact S73.ze (by omega))
          | (rw [pHol_bd (by omega) (fun z1 => by have y := ho.resolve_left (fun y => by omega); rw [z1] at y; cases y.2)]; exact rR_f S103.1)
          | (rw [pHol_s0 c1 (by omega) (S103.b0 (by omega))]; exact S103.ze (by omega))
          | (rw [pHol_sn c1 (by omega) (S103.b1 (by omega)) (by omega)]; exact rR_f S103.1)
          | (rw [pHol_s1 c1 (by omega) (S103.b1 (by omega)) (by omega) (S145.b1 (by omega)), ← kz]; exact rR_t S103.1)
          | (rw [pHol_s2 c1 (by omega) (S103.b1 (by omega)) (by omega) (S145.b0 (by omega))]; exact S145.ze (by omega))
          | (exfalso; omega)
      · refine zwW_p [(1, 1, 0), (0, 8, 0)] (q := 59) (ls' := [(2, 9), (0, a), (9, 0)]) (st' := [(0, 8), (0, a)]) (by decide +kernel) rfl ?_
        refine zwic_ge (q := 99) (nx := 62) (by decide +kernel) (fun c60 => ?_) (fun c60 => ?_)
        · refine zwW_p [(0, 0, 0)] (q := 100) (ls' := [(2, 9), (0, a), (9, 0)]) (st' := [(0, 0)]) (by decide +kernel) rfl ?_
          refine zwW_ret (nx := 101) (a := 1) (b := 0) (by decide +kernel) rfl (Or.inr (Or.inl ⟨rfl, Or.inl rfl⟩)) ?_
          refine ⟨C, X.le (by decide) (by decide), by omega, ?_⟩
          show rR t n h 0 (pHol t n o (hol t n) (eit t n) (pSm0 t n (pFac t n o (sub t n))) s)
          first
          | (rw [pHol_n1 c1.1 c1.2 (ho.resolve_right (fun z => by omega)).2 (S26.b1 (by omega))]; exact rR_t Q0)
          | (rw [pHol_n0 c1.1 c1.2 (ho.resolve_right (fun z => by omega)).2 (S26.b0 (by omega))]; exact S26.ze (by omega))
          | (rw [pHol_nd c1.1 c1.2 (fun z1 => by have y := ho.resolve_left (fun y => by omega); rw [z1] at y; cases y.2)]; exact rR_f Q0)
          | (rw [pHol_b1 (by omega) (ho.resolve_right (fun z => by omega)).2 (S73.b1 (by omega)) (by omega)]; exact rR_t Q0)
          | (rw [pHol_bn (by omega) (ho.resolve_right (fun z => by omega)).2 (S73.b1 (by omega)) (by omega)]; exact rR_f Q0)
          | (rw [pHol_b0 (by omega) (ho.resolve_right (fun z => by omega)).2 (S73.b0 (by omega))]; exact S73.ze (by omega))
          | (rw [pHol_bd (by omega) (fun z1 => by have y := ho.resolve_left (fun y => by omega); rw [z1] at y; cases y.2)]; exact rR_f Q0)
          | (rw [pHol_s0 c1 (by omega) (S103.b0 (by omega))]; exact S103.ze (by omega))
          | (rw [pHol_sn c1 (by omega) (S103.b1 (by omega)) (by omega)]; exact rR_f Q0)
          | (rw [pHol_s1 c1 (by omega) (S103.b1 (by omega)) (by omega) (S145.b1 (by omega)), ← kz]; exact rR_t Q0)
          | (rw [pHol_s2 c1 (by omega) (S103.b1 (by omega)) (by omega) (S145.b0 (by omega))]; exact S145.ze (by omega))
          | (exfalso; omega)
        · refine zwW_p [(1, 0, 2)] (q := 63) (ls' := [(2, 9), (0, a), (9, 0)]) (st' := [(2, 9)]) (by decide +kernel) rfl ?_
          refine zwW_cm C.1 (op := 60) (k' := 198) (n := 0) (kd := 7) (m := 9) (nx := 66) (r := 9) (tl := []) (st' := []) (by decide +kernel) rfl (by decide +kernel) (Nat.ble_eq_true_of_le (by omega)) (x198_q h C t n s B Q0 (W0).2) ?_
          rintro x h62 ⟨Ch62, Qh62, rfl, f61⟩
          have Xh62 : zXR msxK (0) (0) h h62 := X.tr (c2 := 0) (s2 := 0) Qh62 (by decide +kernel) (by decide) (by decide)
          have th62_9_6 : fld h62 9 6 = fld h 9 6 := Qh62.f (a1 := 9) (a2 := 9) (j1 := 6) (j2 := 7) (by decide +kernel) (by first | decide | exact ⟨by decide, by decide⟩) (by first | decide | exact ⟨by decide, by decide⟩) (by first | decide | exact ⟨by decide, by decide⟩)
          have Bh62 : rB t n h62 := B.fr Qh62 (by decide +kernel)
          have Vh62 : rV n (pA t n s) := (W0).a (by omega)
          refine zwif_eq (q := 99) (nx := 69) (by decide +kernel) (fun c63 => ?_) (fun c63 => ?_)
          · exfalso; omega
          · refine zwW_p [(1, 0, 2), (1, 1, 0), (0, 1, 0)] (q := 72) (ls' := [(2, 9), (0, a), (9, 0)]) (st' := [(0, 1), (0, a), (2, 9)]) (by decide +kernel) rfl ?_
            refine zwW_add (nx := 73) (by decide +kernel) (by first | omega | exact ⟨by omega, by omega⟩) ?_
            refine zwW_cm Ch62.1 (op := 60) (k' := 242) (n := 1) (kd := 7) (m := 9) (nx := 76) (r := 9) (tl := [(0, (a + 1))]) (st' := []) (by decide +kernel) rfl (by decide +kernel) (Nat.ble_eq_true_of_le (by omega)) (HE (by omega) h62 Ch62 t n (pA t n s) Bh62 f61 Vh62.wk) ?_
            rintro v66 h67 ⟨Ch67, Qh67, f64, f65⟩
            have Xh67 : zXR msxK (0) (0) h h67 := Xh62.tr (c2 := 0) (s2 := 0) Qh67 (by decide +kernel) (by decide) (by decide)
            have Bh67 : rB t n h67 := Bh62.fr Qh67 (by decide +kernel)
            have S73 := f65
            have Vh67 : rV n ((eit t n) (pA t n s)).2 := (Vh62).fn (he t n)
            refine zwif_eq (q := 99) (nx := 79) (by decide +kernel) (fun c68 => ?_) (fun c68 => ?_)
            · refine zwW_p [(0, 0, 0)] (q := 100) (ls' := [(2, 9), (0, a), (9, 0)]) (st' := [(0, 0)]) (by decide +kernel) rfl ?_
              refine zwW_ret (nx := 101) (a := 1) (b := 0) (by decide +kernel) rfl (Or.inr (Or.inl ⟨rfl, Or.inl rfl⟩)) ?_
              refine ⟨Ch67, Xh67.le (by decide) (by decide), by omega, ?_⟩
              show rR t n h67 0 (pHol t n o (hol t n) (eit t n) (pSm0 t n (pFac t n o (sub t n))) s)
              first
              | (rw [pHol_n1 c1.1 c1.2 (ho.resolve_right (fun z => by omega)).2 (S26.b1 (by omega))]; exact rR_t S73.1)
              | (rw [pHol_n0 c1.1 c1.2 (ho.resolve_right (fun z => by omega)).2 (S26.b0 (by omega))]; exact S26.ze (by omega))
              | (rw [pHol_nd c1.1 c1.2 (fun z1 => by have y := ho.resolve_left (fun y => by omega); rw [z1] at y; cases y.2)]; exact rR_f S73.1)
              | (rw [pHol_b1 (by omega) (ho.resolve_right (fun z => by omega)).2 (S73.b1 (by omega)) (by omega)]; exact rR_t S73.1)
              | (rw [pHol_bn (by omega) (ho.resolve_right (fun z => by omega)).2 (S73.b1 (by omega)) (by omega)]; exact rR_f S73.1)
              | (rw [pHol_b0 (by omega) (ho.resolve_right (fun z => by omega)).2 (S73.b0 (by omega))]; exact S73.ze (by omega))
              | (rw [pHol_bd (by omega) (fun z1 => by have y := ho.resolve_left (fun y => by omega); rw [z1] at y; cases y.2)]; exact rR_f S73.1)
              | (rw [pHol_s0 c1 (by omega) (S103.b0 (by omega))]; exact S103.ze (by omega))
              | (rw [pHol_sn c1 (by omega) (S103.b1 (by omega)) (by omega)]; exact rR_f S73.1)
              | (rw [pHol_s1 c1 (by omega) (S103.b1 (by omega)) (by omega) (S145.b1 (by omega)), ← kz]; exact rR_t S73.1)
              | (rw [pHol_s2 c1 (by omega) (S103.b1 (by omega)) (by omega) (S145.b0 (by omega))]; exact S145.ze (by omega))
              | (exfalso; omega)
            · refine zwW_p [(1, 0, 2)] (q := 80) (ls' := [(2, 9), (0, a), (9, 0)]) (st' := [(2, 9)]) (by decide +kernel) rfl ?_
              refine zwW_gs Ch67.1 (kd := 7) (bn := 4) (n := 9) (t := 0) (lo := -2147483648) (hi := 2147483647) (nx := 83) (by decide +kernel) ?_
              intro v69 ev69 lv69 uv69
              have kv69 : v69 = pK t n (eit t n (pA t n s)).2.1 := ev69.trans (S73.1).kd
              refine zwW_p [(0, 93, 0)] (q := 85) (ls' := [(2, 9), (0, a), (9, 0)]) (st' := [(0, 93), (0, v69)]) (by decide +kernel) rfl ?_
              refine zwic_ne (q := 99) (nx := 88) (by decide +kernel) (fun c70 => ?_) (fun c70 => ?_)
              · refine zwW_p [(0, 0, 0)] (q := 100) (ls' := [(2, 9), (0, a), (9, 0)]) (st' := [(0, 0)]) (by decide +kernel) rfl ?_
                refine zwW_ret (nx := 101) (a := 1) (b := 0) (by decide +kernel) rfl (Or.inr (Or.inl ⟨rfl, Or.inl rfl⟩)) ?_
                refine ⟨Ch67, Xh67.le (by decide) (by decide), by omega, ?_⟩
                show rR t n h67 0 (pHol t n o (hol t n) (eit t n) (pSm0 t n (pFac t n o (sub t n))) s)
                first
                | (rw [pHol_n1 c1.1 c1.2 (ho.resolve_right (fun z => by omega)).2 (S26.b1 (by omega))]; exact rR_t S73.1)
                | (rw [pHol_n0 c1.1 c1.2 (ho.resolve_right (fun z => by omega)).2 (S26.b0 (by omega))]; exact S26.ze (by omega))
                | (rw [pHol_nd c1.1 c1.2 (fun z1 => by have y := ho.resolve_left (fun y => by omega); rw [z1] at y; cases y.2)]; exact rR_f S73.1)
                | (rw [pHol_b1 (by omega) (ho.resolve_right (fun z => by omega)).2 (S73.b1 (by omega)) (by omega)]; exact rR_t S73.1)
                | (rw [pHol_bn (by omega) (ho.resolve_right (fun z => by omega)).2 (S73.b1 (by omega)) (by omega)]; exact rR_f S73.1)
                | (rw [pHol_b0 (by omega) (ho.resolve_right (fun z => by omega)).2 (S73.b0 (by omega))]; exact S73.ze (by omega))
                | (rw [pHol_bd (by omega) (fun z1 => by have y := ho.resolve_left (fun y => by omega); rw [z1] at y; cases y.2)]; exact rR_f S73.1)
                | (rw [pHol_s0 c1 (by omega) (S103.b0 (by omega))]; exact S103.ze (by omega))
                | (rw [pHol_sn c1 (by omega) (S103.b1 (by omega)) (by omega)]; exact rR_f S73.1)
                | (rw [pHol_s1 c1 (by omega) (S103.b1 (by omega)) (by omega) (S145.b1 (by omega)), ← kz]; exact rR_t S73.1)
                | (rw [pHol_s2 c1 (by omega) (S103.b1 (by omega)) (by omega) (S145.b0 (by omega))]; exact S145.ze (by omega))
                | (exfalso; omega)
              · refine zwW_p [(1, 0, 2)] (q := 89) (ls' := [(2, 9), (0, a), (9, 0)]) (st' := [(2, 9)]) (by decide +kernel) rfl ?_
                refine zwW_cm Ch67.1 (op := 60) (k' := 198) (n := 0) (kd := 7) (m := 9) (nx := 92) (r := 9) (tl := []) (st' := []) (by decide +kernel) rfl (by decide +kernel) (Nat.ble_eq_true_of_le (by omega)) (x198_q h67 Ch67 t n (eit t n (pA t n s)).2 Bh67 S73.1 (Vh67.wk).2) ?_
                rintro x h72 ⟨Ch72, Qh72, rfl, f71⟩
                have Xh72 : zXR msxK (0) (0) h h72 := Xh67.tr (c2 := 0) (s2 := 0) Qh72 (by decide +kernel) (by decide) (by decide)
                have th72_9_6 : fld h72 9 6 = fld h67 9 6 := Qh72.f (a1 := 9) (a2 := 9) (j1 := 6) (j2 := 7) (by decide +kernel) (by first | decide | exact ⟨by decide, by decide⟩) (by first | decide | exact ⟨by decide, by decide⟩) (by first | decide | exact ⟨by decide, by decide⟩)
                have Bh72 : rB t n h72 := Bh67.fr Qh72 (by decide +kernel)
                have Vh72 : rV n (pA t n ((eit t n (pA t n s)).2)) := (Vh67.wk).a (by omega)
                refine zwif_eq (q := 99) (nx := 95) (by decide +kernel) (fun c73 => ?_) (fun c73 => ?_)
                · exfalso; omega
                · refine zwW_p [(0, 1, 0), (24, 100, 0)] (q := 100) (ls' := [(2, 9), (0, a), (9, 0)]) (st' := [(0, 1)]) (by decide +kernel) rfl ?_
                  refine zwW_ret (nx := 101) (a := 1) (b := 0) (by decide +kernel) rfl (Or.inr (Or.inl ⟨rfl, Or.inr rfl⟩)) ?_
                  refine ⟨Ch72, Xh72.le (by decide) (by decide), by omega, ?_⟩
                  show rR t n h72 1 (pHol t n o (hol t n) (eit t n) (pSm0 t n (pFac t n o (sub t n))) s)
                  first
                  | (rw [pHol_n1 c1.1 c1.2 (ho.resolve_right (fun z => by omega)).2 (S26.b1 (by omega))]; exact rR_t f71)
                  | (rw [pHol_n0 c1.1 c1.2 (ho.resolve_right (fun z => by omega)).2 (S26.b0 (by omega))]; exact S26.ze (by omega))
                  | (rw [pHol_nd c1.1 c1.2 (fun z1 => by have y := ho.resolve_left (fun y => by omega); rw [z1] at y; cases y.2)]; exact rR_f f71)
                  | (rw [pHol_b1 (by omega) (ho.resolve_right (fun z => by omega)).2 (S73.b1 (by omega)) (by omega)]; exact rR_t f71)
                  | (rw [pHol_bn (by omega) (ho.resolve_right (fun z => by omega)).2 (S73.b1 (by omega)) (by omega)]; exact rR_f f71)
                  | (rw [pHol_b0 (by omega) (ho.resolve_right (fun z => by omega)).2 (S73.b0 (by omega))]; exact S73.ze (by omega))
                  | (rw [pHol_bd (by omega) (fun z1 => by have y := ho.resolve_left (fun y => by omega); rw [z1] at y; cases y.2)]; exact rR_f f71)
                  | (rw [pHol_s0 c1 (by omega) (S103.b0 (by omega))]; exact S103.ze (by omega))
                  | (rw [pHol_sn c1 (by omega) (S103.b1 (by omega)) (by omega)]; exact rR_f f71)
                  | (rw [pHol_s1 c1 (by omega) (S103.b1 (by omega)) (by omega) (S145.b1 (by omega)), ← kz]; exact rR_t f71)
                  | (rw [pHol_s2 c1 (by omega) (S103.b1 (by omega)) (by omega) (S145.b0 (by omega))]; exact S145.ze (by omega))
                  | (exfalso; omega)
    · exfalso; omega
-- WheelLand$Reader.both(I)Z
theorem x263_q {sc : List Int} (a : Int) (D0 : Nat) (pa : 0 ≤ a ∧ a ≤ 8) (o : Bool) (sub : pT → Nat → pQ → pR) (ho : (a < 8 ∧ o = true) ∨ (8 ≤ a ∧ o = false)) (hs : ∀ (t : pT) (n : Nat), pG n (sub t n)) (HS : a < 8 → rX sc D0 241 (a + 1) sub) (hol eit : pT → Nat → pQ → pR) (hh : ∀ (t : pT) (n : Nat), pG n (hol t n)) (he : ∀ (t : pT) (n : Nat), pG n (eit t n)) (HT : a < 8 → rX sc D0 281 (a + 1) hol) (HE : a < 8 → rX sc D0 242 (a + 1) eit) : rX sc (D0 + 24) 263 a (fun t n => pBth t n (pHol t n o (hol t n) (eit t n) (pSm0 t n (pFac t n o (sub t n))))) := by
  intro h C t n s B Q0 W0
  refine zwC_of (D := D0 + 23) 4 (by decide +kernel) rfl (ls := [(2, 9), (0, a), (9, 0), (9, 0)]) rfl ?_
  have X : zXR msxK 0 0 h h := zXR.rf _ _
  refine zwW_p [(1, 0, 2), (1, 1, 0)] (q := 2) (ls' := [(2, 9), (0, a), (9, 0), (9, 0)]) (st' := [(0, a), (2, 9)]) (by decide +kernel) rfl ?_
  refine zwW_cm C.1 (op := 60) (k' := 281) (n := 1) (kd := 7) (m := 9) (nx := 5) (r := 9) (tl := [(0, a)]) (st' := []) (by decide +kernel) rfl (by decide +kernel) (Nat.ble_eq_true_of_le (by omega)) (x281_q a D0 pa o sub ho hs HS hol eit hh he HT HE h C t n s B Q0 W0) ?_
  rintro v3 h4 ⟨Ch4, Qh4, f1, f2⟩
  have Xh4 : zXR msxK (0) (0) h h4 := X.tr (c2 := 0) (s2 := 0) Qh4 (by decide +kernel) (by decide) (by decide)
  have Bh4 : rB t n h4 := B.fr Qh4 (by decide +kernel)
  have S2 := f2
  have Wh4 : rW n ((pHol t n o (hol t n) (eit t n) (pSm0 t n (pFac t n o (sub t n)))) s).2 := (W0).fn (pG_hol (hh t n) (he t n) (pG_sm0 (pG_fac (hs t n))))
  refine zwW_p [(2, 2, 0), (0, 0, 0), (2, 3, 0)] (q := 8) (ls' := [(2, 9), (0, a), (0, v3), (0, 0)]) (st' := []) (by decide +kernel) rfl ?_
  have L5 : ∀ (n0 : Nat) (v2L5 v3L5 : Int) (hL5 : Hp), n0 = ((1000 - v3L5)).toNat → (rB t n hL5) → (rL t n hL5 v2L5 (400 - (v3L5).toNat) (pLw t n 19 (pHol t n o (hol t n) (eit t n) (pSm0 t n (pFac t n o (sub t n))))) (pBth t n (pHol t n o (hol t n) (eit t n) (pSm0 t n (pFac t n o (sub t n)))) s)) → (0 ≤ v2L5 ∧ v2L5 ≤ 1) → (0 ≤ v3L5 ∧ v3L5 ≤ 1000) → CI hL5 → zXR msxK (0) (0) h hL5 → zwW sc (D0 + 23) 263 8 [(2, 9), (0, a), (0, v2L5), (0, v3L5)] [] hL5 (zwRt 0 (fun x g => CI g ∧ zXR msxK (0) (0) h g ∧ (0 ≤ x ∧ x ≤ 1) ∧ rR t n g x ((pBth t n (pHol t n o (hol t n) (eit t n) (pSm0 t n (pFac t n o (sub t n))))) s))) := by
    intro n0
    induction n0 using Nat.strongRecOn with
    | ind n0 IHL5 =>
      intro v2L5 v3L5 hL5 hnL5 iL5_0 iL5_1 iL5_2 iL5_3 ChL5 XhL5
      obtain ⟨qL, QL, WL, OL⟩ := iL5_1
      refine zwW_p [(1, 3, 0), (0, 400, 0)] (q := 12) (ls' := [(2, 9), (0, a), (0, v2L5), (0, v3L5)]) (st' := [(0, 400), (0, v3L5)]) (by decide +kernel) rfl ?_
      refine zwic_ge (q := 62) (nx := 15) (by decide +kernel) (fun c6 => ?_) (fun c6 => ?_)
      · refine zwW_p [(1, 2, 0)] (q := 63) (ls' := [(2, 9), (0, a), (0, v2L5), (0, v3L5)]) (st' := [(0, v2L5)]) (by decide +kernel) rfl ?_
        refine zwW_ret (nx := 64) (a := 1) (b := 0) (by decide +kernel) rfl (Or.inr (Or.inl ⟨rfl, by omega⟩)) ?_
        refine ⟨ChL5, XhL5.le (by decide) (by decide), by omega, ?_⟩
        show rR t n hL5 v2L5 (pBth t n (pHol t n o (hol t n) (eit t n) (pSm0 t n (pFac t n o (sub t n)))) s)
        first
        | (exact rL_x QL OL (Or.inr (pLw_z (Or.inl (by omega)))))
        | (exact rL_x QL OL (Or.inl (by omega)))
        | (exact rL_x QL OL (Or.inr (pLw_z (Or.inr trivial))))
        | (exfalso; omega)
      · refine zwW_p [(1, 2, 0)] (q := 16) (ls' := [(2, 9), (0, a), (0, v2L5), (0, v3L5)]) (st' := [(0, v2L5)]) (by decide +kernel) rfl ?_
        refine zwif_eq (q := 62) (nx := 19) (by decide +kernel) (fun c7 => ?_) (fun c7 => ?_)
        · refine zwW_p [(1, 2, 0)] (q := 63) (ls' := [(2, 9), (0, a), (0, v2L5), (0, v3L5)]) (st' := [(0, v2L5)]) (by decide +kernel) rfl ?_
          refine zwW_ret (nx := 64) (a := 1) (b := 0) (by decide +kernel) rfl (Or.inr (Or.inl ⟨rfl, by omega⟩)) ?_
          refine ⟨ChL5, XhL5.le (by decide) (by decide), by omega, ?_⟩
          show rR t n hL5 v2L5 (pBth t n (pHol t n o (hol t n) (eit t n) (pSm0 t n (pFac t n o (sub t n)))) s)
          first
          | (exact rL_x QL OL (Or.inr (pLw_z (Or.inl (by omega)))))
          | (exact rL_x QL OL (Or.inl (by omega)))
          | (exact rL_x QL OL (Or.inr (pLw_z (Or.inr trivial))))
          | (exfalso; omega)
        · refine zwW_p [(1, 0, 2), (0, 19, 0)] (q := 22) (ls' := [(2, 9), (0, a), (0, v2L5), (0, v3L5)]) (st' := [(0, 19), (2, 9)]) (by decide +kernel) rfl ?_
          refine zwW_cm ChL5.1 (op := 60) (k' := 264) (n := 1) (kd := 7) (m := 9) (nx := 25) (r := 9) (tl := [(0, 19)]) (st' := []) (by decide +kernel) rfl (by decide +kernel) (Nat.ble_eq_true_of_le (by omega)) (x264_p hL5 ChL5 19 t n qL.1 (by omega) QL.1) ?_
          rintro x _ ⟨rfl, ⟨rfl, c8⟩ | ⟨rfl, c8⟩⟩
          · refine zwif_eq (q := 62) (nx := 28) (by decide +kernel) (fun c9 => ?_) (fun c9 => ?_)
            · exfalso; omega
            · refine zwW_p [(1, 0, 2)] (q := 29) (ls' := [(2, 9), (0, a), (0, v2L5), (0, v3L5)]) (st' := [(2, 9)]) (by decide +kernel) rfl ?_
              have KZ := c8.1
              refine zwW_cm ChL5.1 (op := 60) (k' := 198) (n := 0) (kd := 7) (m := 9) (nx := 32) (r := 9) (tl := []) (st' := []) (by decide +kernel) rfl (by decide +kernel) (Nat.ble_eq_true_of_le (by omega)) (x198_q hL5 ChL5 t n qL iL5_0 QL (WL).2) ?_
              rintro x h11 ⟨Ch11, Qh11, rfl, f10⟩
              have Xh11 : zXR msxK (0) (0) h h11 := XhL5.tr (c2 := 0) (s2 := 0) Qh11 (by decide +kernel) (by decide) (by decide)
              have th11_9_6 : fld h11 9 6 = fld hL5 9 6 := Qh11.f (a1 := 9) (a2 := 9) (j1 := 6) (j2 := 7) (by decide +kernel) (by first | decide | exact ⟨by decide, by decide⟩) (by first | decide | exact ⟨by decide, by decide⟩) (by first | decide | exact ⟨by decide, by decide⟩)
              have Bh11 : rB t n h11 := iL5_0.fr Qh11 (by decide +kernel)
              have Vh11 : rV n (pA t n qL) := (WL).a (by omega)
              refine zwW_p [(15, 0, 0), (1, 0, 2), (1, 1, 0)] (q := 35) (ls' := [(2, 9), (0, a), (0, v2L5), (0, v3L5)]) (st' := [(0, a), (2, 9)]) (by decide +kernel) rfl ?_
              refine zwW_cm Ch11.1 (op := 60) (k' := 281) (n := 1) (kd := 7) (m := 9) (nx := 38) (r := 9) (tl := [(0, a)]) (st' := []) (by decide +kernel) rfl (by decide +kernel) (Nat.ble_eq_true_of_le (by omega)) (x281_q a D0 pa o sub ho hs HS hol eit hh he HT HE h11 Ch11 t n (pA t n qL) Bh11 f10 Vh11.wk) ?_
              rintro v14 h15 ⟨Ch15, Qh15, f12, f13⟩
              have Xh15 : zXR msxK (0) (0) h h15 := Xh11.tr (c2 := 0) (s2 := 0) Qh15 (by decide +kernel) (by decide) (by decide)
              have Bh15 : rB t n h15 := Bh11.fr Qh15 (by decide +kernel)
              have S35 := f13
              have Vh15 : rV n ((pHol t n o (hol t n) (eit t n) (pSm0 t n (pFac t n o (sub t n)))) (pA t n qL)).2 := (Vh11).fn (pG_hol (hh t n) (he t n) (pG_sm0 (pG_fac (hs t n))))
              refine zwif_eq (q := 54) (nx := 41) (by decide +kernel) (fun c16 => ?_) (fun c16 => ?_)
              · refine zwW_p [(0, 0, 0), (2, 2, 0)] (q := 56) (ls' := [(2, 9), (0, a), (0, 0), (0, v3L5)]) (st' := []) (by decide +kernel) rfl ?_
                have LB : rL t n h15 0 (400 - (v3L5 + 1).toNat) (pLw t n 19 (pHol t n o (hol t n) (eit t n) (pSm0 t n (pFac t n o (sub t n))))) (pBth t n (pHol t n o (hol t n) (eit t n) (pSm0 t n (pFac t n o (sub t n)))) s) := by
                  first
                  | exact rL_t S35.1 Vh15.wk ((x_one OL (by omega)).trans (pLw_n (k := 400 - (v3L5 + 1).toNat) (by omega) c8 (S35.b1 (by omega))))
                  | exact rL_f S35.1 Vh15.wk ((x_one OL (by omega)).trans (pLw_f (k := 400 - (v3L5 + 1).toNat) (by omega) c8 (S35.b0 (by omega))))
                refine zwW_inc (i := 3) (c := 1) (x := v3L5) (nx := 59) (by decide +kernel) rfl (by first | omega | exact ⟨by omega, by omega⟩) (ls' := [(2, 9), (0, a), (0, 0), (0, (v3L5 + 1))]) rfl ?_
                refine zwW_p [(24, 8, 0)] (q := 8) (ls' := [(2, 9), (0, a), (0, 0), (0, (v3L5 + 1))]) (st' := []) (by decide +kernel) rfl ?_
                exact IHL5 ((1000 - (v3L5 + 1))).toNat (by omega) 0 (v3L5 + 1) h15 rfl (Bh15) (LB) (by omega) (by omega) Ch15 (Xh15.le (by decide) (by decide))
              · refine zwW_p [(1, 0, 2), (0, -19, 0)] (q := 44) (ls' := [(2, 9), (0, a), (0, v2L5), (0, v3L5)]) (st' := [(0, -19), (2, 9)]) (by decide +kernel) rfl ?_
                refine zwW_cm Ch15.1 (op := 60) (k' := 243) (n := 1) (kd := 7) (m := 9) (nx := 47) (r := 9) (tl := [(0, -19)]) (st' := []) (by decide +kernel) rfl (by decide +kernel) (Nat.ble_eq_true_of_le (by omega)) (x243_q h15 Ch15 (-19) t n (pHol t n o (hol t n) (eit t n) (pSm0 t n (pFac t n o (sub t n))) (pA t n qL)).2 (by omega) S35.1 (Vh15.lt Bh15 S35.1)) ?_
                rintro x h18 ⟨Ch18, Qh18, rfl, f17⟩
                have Xh18 : zXR msxK (0) (0) h h18 := Xh15.tr (c2 := 0) (s2 := 0) Qh18 (by decide +kernel) (by decide) (by decide)
                have Bh18 : rB t n h18 := Bh15.fr Qh18 (by decide +kernel)
                refine zwif_eq (q := 54) (nx := 50) (by decide +kernel) (fun c19 => ?_) (fun c19 => ?_)
                · exfalso; omega
                · refine zwW_p [(0, 1, 0), (24, 55, 0), (2, 2, 0)] (q := 56) (ls' := [(2, 9), (0, a), (0, 1), (0, v3L5)]) (st' := []) (by decide +kernel) rfl ?_
                  have LB : rL t n h18 1 (400 - (v3L5 + 1).toNat) (pLw t n 19 (pHol t n o (hol t n) (eit t n) (pSm0 t n (pFac t n o (sub t n))))) (pBth t n (pHol t n o (hol t n) (eit t n) (pSm0 t n (pFac t n o (sub t n)))) s) := by
                    first
                    | exact rL_t f17 (Vh15).pw ((x_one OL (by omega)).trans (pLw_n (k := 400 - (v3L5 + 1).toNat) (by omega) c8 (S35.b1 (by omega))))
                    | exact rL_f S35.1 (Vh15).pw ((x_one OL (by omega)).trans (pLw_f (k := 400 - (v3L5 + 1).toNat) (by omega) c8 (S35.b0 (by omega))))
                  refine zwW_inc (i := 3) (c := 1) (x := v3L5) (nx := 59) (by decide +kernel) rfl (by first | omega | exact ⟨by omega, by omega⟩) (ls' := [(2, 9), (0, a), (0, 1), (0, (v3L5 + 1))]) rfl ?_
                  refine zwW_p [(24, 8, 0)] (q := 8) (ls' := [(2, 9), (0, a), (0, 1), (0, (v3L5 + 1))]) (st' := []) (by decide +kernel) rfl ?_
                  exact IHL5 ((1000 - (v3L5 + 1))).toNat (by omega) 1 (v3L5 + 1) h18 rfl (Bh18) (LB) (by omega) (by omega) Ch18 (Xh18.le (by decide) (by decide))
          · refine zwif_eq (q := 62) (nx := 28) (by decide +kernel) (fun c20 => ?_) (fun c20 => ?_)
            · refine zwW_p [(1, 2, 0)] (q := 63) (ls' := [(2, 9), (0, a), (0, v2L5), (0, v3L5)]) (st' := [(0, v2L5)]) (by decide +kernel) rfl ?_
              refine zwW_ret (nx := 64) (a := 1) (b := 0) (by decide +kernel) rfl (Or.inr (Or.inl ⟨rfl, by omega⟩)) ?_
              refine ⟨ChL5, XhL5.le (by decide) (by decide), by omega, ?_⟩
              show rR t n hL5 v2L5 (pBth t n (pHol t n o (hol t n) (eit t n) (pSm0 t n (pFac t n o (sub t n)))) s)
              first
              | (exact rL_x QL OL (Or.inr (pLw_z (Or.inl (by omega)))))
              | (exact rL_x QL OL (Or.inl (by omega)))
              | (exact rL_x QL OL (Or.inr (pLw_z (Or.inr c8))))
              | (exfalso; omega)
            · exfalso; omega
  exact L5 _ v3 0 h4 rfl (Bh4) (rL_0 S2 Wh4) (by omega) (by omega) Ch4 (Xh4.le (by decide) (by decide))
-- WheelLand$Reader.either(I)Z
theorem x242_q {sc : List Int} (a : Int) (D0 : Nat) (pa : 0 ≤ a ∧ a ≤ 8) (o : Bool) (sub : pT → Nat → pQ → pR) (ho : (a < 8 ∧ o = true) ∨ (8 ≤ a ∧ o = false)) (hs : ∀ (t : pT) (n : Nat), pG n (sub t n)) (HS : a < 8 → rX sc D0 241 (a + 1) sub) (hol eit : pT → Nat → pQ → pR) (hh : ∀ (t : pT) (n : Nat), pG n (hol t n)) (he : ∀ (t : pT) (n : Nat), pG n (eit t n)) (HT : a < 8 → rX sc D0 281 (a + 1) hol) (HE : a < 8 → rX sc D0 242 (a + 1) eit) : rX sc (D0 + 25) 242 a (fun t n => pEi0 t n (pHol t n o (hol t n) (eit t n) (pSm0 t n (pFac t n o (sub t n))))) := by
  intro h C t n s B Q0 W0
  refine zwC_of (D := D0 + 24) 4 (by decide +kernel) rfl (ls := [(2, 9), (0, a), (9, 0), (9, 0)]) rfl ?_
  have X : zXR msxK 0 0 h h := zXR.rf _ _
  refine zwW_p [(1, 0, 2), (1, 1, 0)] (q := 2) (ls' := [(2, 9), (0, a), (9, 0), (9, 0)]) (st' := [(0, a), (2, 9)]) (by decide +kernel) rfl ?_
  refine zwW_cm C.1 (op := 60) (k' := 263) (n := 1) (kd := 7) (m := 9) (nx := 5) (r := 9) (tl := [(0, a)]) (st' := []) (by decide +kernel) rfl (by decide +kernel) (Nat.ble_eq_true_of_le (by omega)) (x263_q a D0 pa o sub ho hs HS hol eit hh he HT HE h C t n s B Q0 W0) ?_
  rintro v3 h4 ⟨Ch4, Qh4, f1, f2⟩
  have Xh4 : zXR msxK (0) (0) h h4 := X.tr (c2 := 0) (s2 := 0) Qh4 (by decide +kernel) (by decide) (by decide)
  have Bh4 : rB t n h4 := B.fr Qh4 (by decide +kernel)
  have S2 := f2
  have Wh4 : rW n ((pBth t n (pHol t n o (hol t n) (eit t n) (pSm0 t n (pFac t n o (sub t n))))) s).2 := (W0).fn (pG_bth (pG_hol (hh t n) (he t n) (pG_sm0 (pG_fac (hs t n)))))
  refine zwW_p [(2, 2, 0), (0, 0, 0), (2, 3, 0)] (q := 8) (ls' := [(2, 9), (0, a), (0, v3), (0, 0)]) (st' := []) (by decide +kernel) rfl ?_
  have L5 : ∀ (n0 : Nat) (v2L5 v3L5 : Int) (hL5 : Hp), n0 = ((1000 - v3L5)).toNat → (rB t n hL5) → (rL t n hL5 v2L5 (400 - (v3L5).toNat) (pLw t n 18 (pBth t n (pHol t n o (hol t n) (eit t n) (pSm0 t n (pFac t n o (sub t n)))))) (pEi0 t n (pHol t n o (hol t n) (eit t n) (pSm0 t n (pFac t n o (sub t n)))) s)) → (0 ≤ v2L5 ∧ v2L5 ≤ 1) → (0 ≤ v3L5 ∧ v3L5 ≤ 1000) → CI hL5 → zXR msxK (0) (0) h hL5 → zwW sc (D0 + 24) 242 8 [(2, 9), (0, a), (0, v2L5), (0, v3L5)] [] hL5 (zwRt 0 (fun x g => CI g ∧ zXR msxK (0) (0) h g ∧ (0 ≤ x ∧ x ≤ 1) ∧ rR t n g x ((pEi0 t n (pHol t n o (hol t n) (eit t n) (pSm0 t n (pFac t n o (sub t n))))) s))) := by
    intro n0
    induction n0 using Nat.strongRecOn with
    | ind n0 IHL5 =>
      intro v2L5 v3L5 hL5 hnL5 iL5_0 iL5_1 iL5_2 iL5_3 ChL5 XhL5
      obtain ⟨qL, QL, WL, OL⟩ := iL5_1
      refine zwW_p [(1, 3, 0), (0, 400, 0)] (q := 12) (ls' := [(2, 9), (0, a), (0, v2L5), (0, v3L5)]) (st' := [(0, 400), (0, v3L5)]) (by decide +kernel) rfl ?_
      refine zwic_ge (q := 62) (nx := 15) (by decide +kernel) (fun c6 => ?_) (fun c6 => ?_)
      · refine zwW_p [(1, 2, 0)] (q := 63) (ls' := [(2, 9), (0, a), (0, v2L5), (0, v3L5)]) (st' := [(0, v2L5)]) (by decide +kernel) rfl ?_
        refine zwW_ret (nx := 64) (a := 1) (b := 0) (by decide +kernel) rfl (Or.inr (Or.inl ⟨rfl, by omega⟩)) ?_
        refine ⟨ChL5, XhL5.le (by decide) (by decide), by omega, ?_⟩
        show rR t n hL5 v2L5 (pEi0 t n (pHol t n o (hol t n) (eit t n) (pSm0 t n (pFac t n o (sub t n)))) s)
        first
        | (exact rL_x QL OL (Or.inr (pLw_z (Or.inl (by omega)))))
        | (exact rL_x QL OL (Or.inl (by omega)))
        | (exact rL_x QL OL (Or.inr (pLw_z (Or.inr trivial))))
        | (exfalso; omega)
      · refine zwW_p [(1, 2, 0)] (q := 16) (ls' := [(2, 9), (0, a), (0, v2L5), (0, v3L5)]) (st' := [(0, v2L5)]) (by decide +kernel) rfl ?_
        refine zwif_eq (q := 62) (nx := 19) (by decide +kernel) (fun c7 => ?_) (fun c7 => ?_)
        · refine zwW_p [(1, 2, 0)] (q := 63) (ls' := [(2, 9), (0, a), (0, v2L5), (0, v3L5)]) (st' := [(0, v2L5)]) (by decide +kernel) rfl ?_
          refine zwW_ret (nx := 64) (a := 1) (b := 0) (by decide +kernel) rfl (Or.inr (Or.inl ⟨rfl, by omega⟩)) ?_
          refine ⟨ChL5, XhL5.le (by decide) (by decide), by omega, ?_⟩
          show rR t n hL5 v2L5 (pEi0 t n (pHol t n o (hol t n) (eit t n) (pSm0 t n (pFac t n o (sub t n)))) s)
          first
          | (exact rL_x QL OL (Or.inr (pLw_z (Or.inl (by omega)))))
          | (exact rL_x QL OL (Or.inl (by omega)))
          | (exact rL_x QL OL (Or.inr (pLw_z (Or.inr trivial))))
          | (exfalso; omega)
        · refine zwW_p [(1, 0, 2), (0, 18, 0)] (q := 22) (ls' := [(2, 9), (0, a), (0, v2L5), (0, v3L5)]) (st' := [(0, 18), (2, 9)]) (by decide +kernel) rfl ?_
          refine zwW_cm ChL5.1 (op := 60) (k' := 264) (n := 1) (kd := 7) (m := 9) (nx := 25) (r := 9) (tl := [(0, 18)]) (st' := []) (by decide +kernel) rfl (by decide +kernel) (Nat.ble_eq_true_of_le (by omega)) (x264_p hL5 ChL5 18 t n qL.1 (by omega) QL.1) ?_
          rintro x _ ⟨rfl, ⟨rfl, c8⟩ | ⟨rfl, c8⟩⟩
          · refine zwif_eq (q := 62) (nx := 28) (by decide +kernel) (fun c9 => ?_) (fun c9 => ?_)
            · exfalso; omega
            · refine zwW_p [(1, 0, 2)] (q := 29) (ls' := [(2, 9), (0, a), (0, v2L5), (0, v3L5)]) (st' := [(2, 9)]) (by decide +kernel) rfl ?_
              have KZ := c8.1
              refine zwW_cm ChL5.1 (op := 60) (k' := 198) (n := 0) (kd := 7) (m := 9) (nx := 32) (r := 9) (tl := []) (st' := []) (by decide +kernel) rfl (by decide +kernel) (Nat.ble_eq_true_of_le (by omega)) (x198_q hL5 ChL5 t n qL iL5_0 QL (WL).2) ?_
              rintro x h11 ⟨Ch11, Qh11, rfl, f10⟩
              have Xh11 : zXR msxK (0) (0) h h11 := XhL5.tr (c2 := 0) (s2 := 0) Qh11 (by decide +kernel) (by decide) (by decide)
              have th11_9_6 : fld h11 9 6 = fld hL5 9 6 := Qh11.f (a1 := 9) (a2 := 9) (j1 := 6) (j2 := 7) (by decide +kernel) (by first | decide | exact ⟨by decide, by decide⟩) (by first | decide | exact ⟨by decide, by decide⟩) (by first | decide | exact ⟨by decide, by decide⟩)
              have Bh11 : rB t n h11 := iL5_0.fr Qh11 (by decide +kernel)
              have Vh11 : rV n (pA t n qL) := (WL).a (by omega)
              refine zwW_p [(15, 0, 0), (1, 0, 2), (1, 1, 0)] (q := 35) (ls' := [(2, 9), (0, a), (0, v2L5), (0, v3L5)]) (st' := [(0, a), (2, 9)]) (by decide +kernel) rfl ?_
              refine zwW_cm Ch11.1 (op := 60) (k' := 263) (n := 1) (kd := 7) (m := 9) (nx := 38) (r := 9) (tl := [(0, a)]) (st' := []) (by decide +kernel) rfl (by decide +kernel) (Nat.ble_eq_true_of_le (by omega)) (x263_q a D0 pa o sub ho hs HS hol eit hh he HT HE h11 Ch11 t n (pA t n qL) Bh11 f10 Vh11.wk) ?_
              rintro v14 h15 ⟨Ch15, Qh15, f12, f13⟩
              have Xh15 : zXR msxK (0) (0) h h15 := Xh11.tr (c2 := 0) (s2 := 0) Qh15 (by decide +kernel) (by decide) (by decide)
              have Bh15 : rB t n h15 := Bh11.fr Qh15 (by decide +kernel)
              have S35 := f13
              have Vh15 : rV n ((pBth t n (pHol t n o (hol t n) (eit t n) (pSm0 t n (pFac t n o (sub t n))))) (pA t n qL)).2 := (Vh11).fn (pG_bth (pG_hol (hh t n) (he t n) (pG_sm0 (pG_fac (hs t n)))))
              refine zwif_eq (q := 54) (nx := 41) (by decide +kernel) (fun c16 => ?_) (fun c16 => ?_)
              · refine zwW_p [(0, 0, 0), (2, 2, 0)] (q := 56) (ls' := [(2, 9), (0, a), (0, 0), (0, v3L5)]) (st' := []) (by decide +kernel) rfl ?_
                have LB : rL t n h15 0 (400 - (v3L5 + 1).toNat) (pLw t n 18 (pBth t n (pHol t n o (hol t n) (eit t n) (pSm0 t n (pFac t n o (sub t n)))))) (pEi0 t n (pHol t n o (hol t n) (eit t n) (pSm0 t n (pFac t n o (sub t n)))) s) := by
                  first
                  | exact rL_t S35.1 Vh15.wk ((x_one OL (by omega)).trans (pLw_n (k := 400 - (v3L5 + 1).toNat) (by omega) c8 (S35.b1 (by omega))))
                  | exact rL_f S35.1 Vh15.wk ((x_one OL (by omega)).trans (pLw_f (k := 400 - (v3L5 + 1).toNat) (by omega) c8 (S35.b0 (by omega))))
                refine zwW_inc (i := 3) (c := 1) (x := v3L5) (nx := 59) (by decide +kernel) rfl (by first | omega | exact ⟨by omega, by omega⟩) (ls' := [(2, 9), (0, a), (0, 0), (0, (v3L5 + 1))]) rfl ?_
                refine zwW_p [(24, 8, 0)] (q := 8) (ls' := [(2, 9), (0, a), (0, 0), (0, (v3L5 + 1))]) (st' := []) (by decide +kernel) rfl ?_
                exact IHL5 ((1000 - (v3L5 + 1))).toNat (by omega) 0 (v3L5 + 1) h15 rfl (Bh15) (LB) (by omega) (by omega) Ch15 (Xh15.le (by decide) (by decide))
              · refine zwW_p [(1, 0, 2), (0, -18, 0)] (q := 44) (ls' := [(2, 9), (0, a), (0, v2L5), (0, v3L5)]) (st' := [(0, -18), (2, 9)]) (by decide +kernel) rfl ?_
                refine zwW_cm Ch15.1 (op := 60) (k' := 243) (n := 1) (kd := 7) (m := 9) (nx := 47) (r := 9) (tl := [(0, -18)]) (st' := []) (by decide +kernel) rfl (by decide +kernel) (Nat.ble_eq_true_of_le (by omega)) (x243_q h15 Ch15 (-18) t n (pBth t n (pHol t n o (hol t n) (eit t n) (pSm0 t n (pFac t n o (sub t n)))) (pA t n qL)).2 (by omega) S35.1 (Vh15.lt Bh15 S35.1)) ?_
                rintro x h18 ⟨Ch18, Qh18, rfl, f17⟩
                have Xh18 : zXR msxK (0) (0) h h18 := Xh15.tr (c2 := 0) (s2 := 0) Qh18 (by decide +kernel) (by decide) (by decide)
                have Bh18 : rB t n h18 := Bh15.fr Qh18 (by decide +kernel)
                refine zwif_eq (q := 54) (nx := 50) (by decide +kernel) (fun c19 => ?_) (fun c19 => ?_)
                · exfalso; omega
                · refine zwW_p [(0, 1, 0), (24, 55, 0), (2, 2, 0)] (q := 56) (ls' := [(2, 9), (0, a), (0, 1), (0, v3L5)]) (st' := []) (by decide +kernel) rfl ?_
                  have LB : rL t n h18 1 (400 - (v3L5 + 1).toNat) (pLw t n 18 (pBth t n (pHol t n o (hol t n) (eit t n) (pSm0 t n (pFac t n o (sub t n)))))) (pEi0 t n (pHol t n o (hol t n) (eit t n) (pSm0 t n (pFac t n o (sub t n)))) s) := by
                    first
                    | exact rL_t f17 (Vh15).pw ((x_one OL (by omega)).trans (pLw_n (k := 400 - (v3L5 + 1).toNat) (by omega) c8 (S35.b1 (by omega))))
                    | exact rL_f S35.1 (Vh15).pw ((x_one OL (by omega)).trans (pLw_f (k := 400 - (v3L5 + 1).toNat) (by omega) c8 (S35.b0 (by omega))))
                  refine zwW_inc (i := 3) (c := 1) (x := v3L5) (nx := 59) (by decide +kernel) rfl (by first | omega | exact ⟨by omega, by omega⟩) (ls' := [(2, 9), (0, a), (0, 1), (0, (v3L5 + 1))]) rfl ?_
                  refine zwW_p [(24, 8, 0)] (q := 8) (ls' := [(2, 9), (0, a), (0, 1), (0, (v3L5 + 1))]) (st' := []) (by decide +kernel) rfl ?_
                  exact IHL5 ((1000 - (v3L5 + 1))).toNat (by omega) 1 (v3L5 + 1) h18 rfl (Bh18) (LB) (by omega) (by omega) Ch18 (Xh18.le (by decide) (by decide))
          · refine zwif_eq (q := 62) (nx := 28) (by decide +kernel) (fun c20 => ?_) (fun c20 => ?_)
            · refine zwW_p [(1, 2, 0)] (q := 63) (ls' := [(2, 9), (0, a), (0, v2L5), (0, v3L5)]) (st' := [(0, v2L5)]) (by decide +kernel) rfl ?_
              refine zwW_ret (nx := 64) (a := 1) (b := 0) (by decide +kernel) rfl (Or.inr (Or.inl ⟨rfl, by omega⟩)) ?_
              refine ⟨ChL5, XhL5.le (by decide) (by decide), by omega, ?_⟩
              show rR t n hL5 v2L5 (pEi0 t n (pHol t n o (hol t n) (eit t n) (pSm0 t n (pFac t n o (sub t n)))) s)
              first
              | (exact rL_x QL OL (Or.inr (pLw_z (Or.inl (by omega)))))
              | (exact rL_x QL OL (Or.inl (by omega)))
              | (exact rL_x QL OL (Or.inr (pLw_z (Or.inr c8))))
              | (exfalso; omega)
            · exfalso; omega
  exact L5 _ v3 0 h4 rfl (Bh4) (rL_0 S2 Wh4) (by omega) (by omega) Ch4 (Xh4.le (by decide) (by decide))
end
section
/-! the model's reading and the pure reading -/
section RM
variable {h g h1 h2 h3 : Hp} {t : pT} {n p q m k i w0 : Nat} {s u : pQ} {x v o1 o2 w op : Int} {ms : Zms} {f : pQ → pR} {T r : pR}
/-- the bytes are t, n of them -/
def vB (t : pT) (n : Nat) (h : Hp) : Prop := fld h 37 41 = (n : Int) ∧ n ≤ 400 ∧ ∀ i : Nat, i < n → fld h 98 i = t i
theorem vB.fr (B : vB t n h) (R : zMR ms h g) (e : (zqN ms 37 37 41 42 && zqN ms 98 98 0 400) = true) : vB t n g := by
  rw [Bool.and_eq_true] at e
  obtain ⟨b1, b2, b3⟩ := B
  have q1 : fld g 37 41 = fld h 37 41 := R.f e.1 (by first | decide | exact ⟨by decide, by decide⟩) (by first | decide | exact ⟨by decide, by decide⟩)
  refine ⟨q1.trans b1, b2, fun i hi => ?_⟩
  have q2 : fld g 98 i = fld h 98 i := R.f e.2 (by first | decide | exact ⟨by decide, by decide⟩) (by first | omega | exact ⟨by omega, by omega⟩)
  rw [q2]
  exact b3 i hi
def msS2 : Zms := [(37, 37, 42, 44)]
def mTk (t : pT) (n : Nat) (h : Hp) (p : Nat) : Prop := fld h 37 42 = (p : Int) ∧ p ≤ n ∧ fld h 37 43 = ((pEn t n p : Nat) : Int)
theorem mTk.fr (K : mTk t n h p) (R : zMR ms h g) (e : zqN ms 37 37 42 44 = true) : mTk t n g p := by
  obtain ⟨k1, k2, k3⟩ := K
  have q1 : fld g 37 42 = fld h 37 42 := R.f e (by first | decide | exact ⟨by decide, by decide⟩) (by first | decide | exact ⟨by decide, by decide⟩)
  have q2 : fld g 37 43 = fld h 37 43 := R.f e (by first | decide | exact ⟨by decide, by decide⟩) (by first | decide | exact ⟨by decide, by decide⟩)
  exact ⟨q1.trans k1, k2, q2.trans k3⟩
/-- one step of the codes -/
def mCd (F : Nat → Int) (j : Nat) (x : Int) : Prop := eEn (F (2 * j)) (F (2 * j + 1)) = x ∧ ((F (2 * j) = 110 ∧ 0 ≤ F (2 * j + 1)) ∨ (F (2 * j) = 118 ∧ 0 ≤ F (2 * j + 1) ∧ F (2 * j + 1) ≤ 12) ∨ (F (2 * j) = 33 ∨ F (2 * j) = 38 ∨ F (2 * j) = 124 ∨ F (2 * j) = 43 ∨ F (2 * j) = 45 ∨ F (2 * j) = 42 ∨ F (2 * j) = 47 ∨ F (2 * j) = 60 ∨ F (2 * j) = 62 ∨ F (2 * j) = 61))
def mQ (t : pT) (n w0 : Nat) (h : Hp) (s : pQ) : Prop := mTk t n h s.1 ∧ w0 ≤ s.2.1 ∧ fld h 37 45 = ((s.2.1 : Nat) : Int) - w0 ∧ ∀ k, w0 ≤ k → k < s.2.1 → mCd (fld h (149 + fld h 37 47)) (k - w0) (s.2.2 k)
/-- the rows of other clauses stay -/
def mO (h g : Hp) : Prop := fld g 37 47 = fld h 37 47 ∧ ∀ r : Int, 149 ≤ r → r ≤ 153 → r ≠ 149 + fld h 37 47 → fld g r = fld h r
theorem mO.rf : mO h h := ⟨rfl, fun _ _ _ _ => rfl⟩
theorem mO.tr (A : mO h h1) (C : mO h1 g) : mO h g := ⟨C.1.trans A.1, fun r k1 k2 k3 => (C.2 r k1 k2 (by rw [A.1]; exact k3)).trans (A.2 r k1 k2 k3)⟩
theorem mO.fr (R : zMR ms h g) (e : (zqN ms 37 37 47 48 && ms.all (fun q => Nat.blt q.2.1 149 || Nat.blt 153 q.1)) = true) : mO h g ∧ ∀ r : Int, 149 ≤ r → r ≤ 153 → fld g r = fld h r := by
  rw [Bool.and_eq_true] at e
  have q1 : fld g 37 47 = fld h 37 47 := R.f e.1 (by first | decide | exact ⟨by decide, by decide⟩) (by first | decide | exact ⟨by decide, by decide⟩)
  have q : ∀ r : Int, 149 ≤ r → r ≤ 153 → fld g r = fld h r := by
    intro r k1 k2
    refine funext (fun j => R.2.2.2 _ j (fun f hf hz => ?_))
    have e := List.all_eq_true.mp e.2 f hf
    rw [Bool.or_eq_true] at e
    rcases e with e | e
    · have := Nat.le_of_ble_eq_true e
      omega
    · have := Nat.le_of_ble_eq_true e
      omega
  exact ⟨⟨q1, fun r k1 k2 _ => q r k1 k2⟩, q⟩
/-- nothing but the token moves -/
theorem mQ.tk (Q : mQ t n w0 h s) (R : zMR ms h g) (e : (zqN ms 37 37 45 46 && (zqN ms 37 37 47 48 && ms.all (fun q => Nat.blt q.2.1 149 || Nat.blt 153 q.1))) = true) (hc : 0 ≤ fld h 37 47 ∧ fld h 37 47 ≤ 4) (K : mTk t n g q) : mQ t n w0 g (q, s.2) := by
  rw [Bool.and_eq_true] at e
  obtain ⟨q1, q2, q3, q4⟩ := Q
  have f1 : fld g 37 45 = fld h 37 45 := R.f e.1 (by first | decide | exact ⟨by decide, by decide⟩) (by first | decide | exact ⟨by decide, by decide⟩)
  obtain ⟨O, E⟩ := mO.fr R e.2
  refine ⟨K, q2, f1.trans q3, fun k k1 k2 => ?_⟩
  rw [O.1, E _ (by omega) (by omega)]
  exact q4 k k1 k2
/-- one more step is put -/
theorem mQ.put (Q : mQ t n w0 h s) (R : zMR ms h g) (e : (zqN ms 37 37 42 44 && zqN ms 37 37 47 48) = true) (e1 : fld g 37 45 = fld h 37 45 + 1) (e2 : ∀ j : Nat, fld g (149 + fld h 37 47) j = if j = 2 * (fld h 37 45).toNat + 1 then v else if j = 2 * (fld h 37 45).toNat then op else fld h (149 + fld h 37 47) j) (hx : eEn op v = x) (ho : (op = 110 ∧ 0 ≤ v) ∨ (op = 118 ∧ 0 ≤ v ∧ v ≤ 12) ∨ (op = 33 ∨ op = 38 ∨ op = 124 ∨ op = 43 ∨ op = 45 ∨ op = 42 ∨ op = 47 ∨ op = 60 ∨ op = 62 ∨ op = 61)) : mQ t n w0 g (pW x s) := by
  rw [Bool.and_eq_true] at e
  obtain ⟨q1, q2, q3, q4⟩ := Q
  have f2 : fld g 37 47 = fld h 37 47 := R.f e.2 (by first | decide | exact ⟨by decide, by decide⟩) (by first | decide | exact ⟨by decide, by decide⟩)
  refine ⟨q1.fr R e.1, show w0 ≤ s.2.1 + 1 by omega, ?_, fun k k1 k2 => ?_⟩
  · show fld g 37 45 = ((s.2.1 + 1 : Nat) : Int) - w0
    omega
  · have k2 : k < s.2.1 + 1 := k2
    show mCd (fld g (149 + fld g 37 47)) (k - w0) (zu s.2.2 s.2.1 x k)
    rw [f2]
    have hm : (fld h 37 45).toNat = s.2.1 - w0 := by omega
    unfold mCd
    rw [e2, e2, hm]
    by_cases z : k = s.2.1
    · subst z
      rw [zu_eq, if_neg (by omega), if_pos rfl, if_pos rfl]
      exact ⟨hx, ho⟩
    · rw [zu_ne z, if_neg (by omega), if_neg (by omega), if_neg (by omega), if_neg (by omega)]
      exact q4 k k1 (by omega)
theorem mO.put (R : zMR ms h g) (e : zqN ms 37 37 47 48 = true) (e3 : ∀ r : Int, 149 ≤ r → r ≤ 153 → r ≠ 149 + fld h 37 47 → fld g r = fld h r) : mO h g := ⟨R.f e (by first | decide | exact ⟨by decide, by decide⟩) (by first | decide | exact ⟨by decide, by decide⟩), e3⟩
theorem rV.mlt (V : rV n s) (B : vB t n h) (Q : mQ t n w0 h s) : fld h 37 45 ≤ 399 := by
  have a := B.2.1
  have b := Q.2.2.1
  obtain ⟨v1, v2⟩ := V
  omega
/-- an answer and what it leaves -/
def vR (t : pT) (n w0 : Nat) (g : Hp) (x : Int) (r : pR) : Prop := (x = 1 ∧ r.1 = true ∧ mQ t n w0 g r.2 ∧ fld g 37 44 = -1) ∨ (x = 0 ∧ r.1 = false ∧ fld g 37 44 = ((r.2.1 : Nat) : Int))
theorem mR_t (Q : mQ t n w0 g s) (e : fld g 37 44 = -1) : vR t n w0 g 1 (true, s) := Or.inl ⟨rfl, rfl, Q, e⟩
theorem mR_f (e : fld g 37 44 = ((s.1 : Nat) : Int)) : vR t n w0 g 0 (false, s) := Or.inr ⟨rfl, rfl, e⟩
theorem vR.z (R : vR t n w0 g x r) (e : x = 0) : vR t n w0 g 0 r := e ▸ R
theorem vR.b1 (R : vR t n w0 g x r) (e : x ≠ 0) : r.1 = true := by
  rcases R with ⟨_, z, _⟩ | ⟨z, _⟩
  · exact z
  · exact absurd z e
theorem vR.b0 (R : vR t n w0 g x r) (e : x = 0) : ¬ (r.1 = true) := by
  rcases R with ⟨z, _⟩ | ⟨_, z, _⟩
  · omega
  · rw [z]; exact Bool.false_ne_true
theorem vR.qq (R : vR t n w0 g x r) (e : x ≠ 0) : mQ t n w0 g r.2 := by
  rcases R with ⟨_, _, z, _⟩ | ⟨z, _⟩
  · exact z
  · exact absurd z e
theorem vR.e (R : vR t n w0 g x r) (e : x ≠ 0) : fld g 37 44 = -1 := by
  rcases R with ⟨_, _, _, z⟩ | ⟨z, _⟩
  · exact z
  · exact absurd z e
theorem vR.fl (R : vR t n w0 g x r) (e : x = 0) : r = (false, r.2) ∧ fld g 37 44 = ((r.2.1 : Nat) : Int) := by
  rcases R with ⟨z, _⟩ | ⟨_, z, y⟩
  · omega
  · exact ⟨pR_f z, y⟩
/-! tokens of the model -/
theorem pK_sg (hc : pSig w = true) : pK t n p = w ↔ p < n ∧ t p = w := by
  have c := pSig_t.mp hc
  unfold pK
  by_cases h1 : p < n
  · rw [if_pos h1]
    by_cases h2 : pLet (t p) = true
    · rw [if_pos h2]
      have := pLet_t.mp h2
      constructor <;> intro z <;> omega
    · rw [if_neg h2]
      by_cases h3 : pDig (t p) = true
      · rw [if_pos h3]
        have := pDig_t.mp h3
        constructor <;> intro z <;> omega
      · rw [if_neg h3]
        by_cases h4 : pSig (t p) = true
        · rw [if_pos h4]
          constructor <;> intro z
          · exact ⟨h1, z⟩
          · exact z.2
        · rw [if_neg h4]
          constructor
          · intro z
            omega
          · rintro ⟨-, z⟩
            rw [z] at h4
            exact absurd hc h4
  · rw [if_neg h1]
    constructor <;> intro z <;> omega
theorem pK_dg : pK t n p = 2 ↔ p < n ∧ pDig (t p) = true := by
  unfold pK
  by_cases h1 : p < n
  · rw [if_pos h1]
    by_cases h2 : pLet (t p) = true
    · rw [if_pos h2]
      have := pLet_t.mp h2
      constructor
      · intro z
        omega
      · rintro ⟨-, z⟩
        have := pDig_t.mp z
        omega
    · rw [if_neg h2]
      by_cases h3 : pDig (t p) = true
      · rw [if_pos h3]
        exact ⟨fun _ => ⟨h1, h3⟩, fun _ => rfl⟩
      · rw [if_neg h3]
        constructor
        · intro z
          exfalso
          by_cases h4 : pSig (t p) = true
          · rw [if_pos h4] at z
            have := pSig_t.mp h4
            omega
          · rw [if_neg h4] at z
            omega
        · rintro ⟨-, z⟩
          exact absurd z h3
  · rw [if_neg h1]
    constructor <;> intro z <;> omega
theorem pK_lt1 : pK t n p = 1 ↔ p < n ∧ pLet (t p) = true := by
  unfold pK
  by_cases h1 : p < n
  · rw [if_pos h1]
    by_cases h2 : pLet (t p) = true
    · rw [if_pos h2]
      exact ⟨fun _ => ⟨h1, h2⟩, fun _ => rfl⟩
    · rw [if_neg h2]
      constructor
      · intro z
        exfalso
        by_cases h3 : pDig (t p) = true
        · rw [if_pos h3] at z
          omega
        · rw [if_neg h3] at z
          by_cases h4 : pSig (t p) = true
          · rw [if_pos h4] at z
            have := pSig_t.mp h4
            omega
          · rw [if_neg h4] at z
            omega
      · rintro ⟨-, z⟩
        exact absurd z h2
  · rw [if_neg h1]
    constructor <;> intro z <;> omega
/-! words of the model -/
def mWi (w : Int) : Nat := if -16 ≤ w then (1 - w).toNat else if -29 ≤ w then (-17 - w).toNat else (w + 50).toNat
theorem mWi_ok : (List.range 21).all (fun j => zby (-12 - (j : Int)) == pWs.getD (mWi (-12 - (j : Int))) [] && (decide (mWi (-12 - (j : Int)) < 21) && decide (0 < (zby (-12 - (j : Int))).length))) = true := by decide +kernel
theorem mWi_at (h : -33 < w ∧ w ≤ -12) : zby w = pWs.getD (mWi w) [] ∧ mWi w < 21 ∧ 0 < (zby w).length := by
  have q := List.all_eq_true.mp mWi_ok (-12 - w).toNat (List.mem_range.mpr (by omega))
  simp only [Bool.and_eq_true, decide_eq_true_eq, beq_iff_eq] at q
  rw [show -12 - (((-12 - w).toNat : Nat) : Int) = w by omega] at q
  exact q
theorem pWs_nd : (List.range 21).all (fun i => (List.range 21).all (fun j => (pWs.getD i [] == pWs.getD j []) == decide (i = j))) = true := by decide +kernel
theorem pWs_let : (List.range 21).all (fun i => (List.range (pWs.getD i []).length).all (fun j => decide (97 ≤ (pWs.getD i []).getD j 0) && decide ((pWs.getD i []).getD j 0 ≤ 122))) = true := by decide +kernel
theorem pFd_of (t : pT) (p l : Nat) : ∀ (d k : Nat), k + d = 21 → ∀ j, k ≤ j → j < 21 → ((pWs.getD j []).length = l ∧ pEq t p (pWs.getD j []) = true) → pFd t p l (pWs.drop k) k = (j : Int)
  | 0, k, hk, j, h1, h2, _ => by omega
  | d + 1, k, hk, j, h1, h2, h3 => by
    have q : pWs.length = 21 := rfl
    rw [pFd_drop t p l (by omega)]
    by_cases z : k = j
    · subst z
      rw [if_pos h3]
    · rw [if_neg (fun y => z ?_)]
      · exact pFd_of t p l d (k + 1) (by omega) j (by omega) h2 h3
      · have e : pWs.getD k [] = pWs.getD j [] := by
          refine List.ext_getElem (y.1.trans h3.1.symm) (fun i i1 i2 => ?_)
          have a := (pEq_iff t _ p).mp y.2 i i1
          have b := (pEq_iff t _ p).mp h3.2 i i2
          rw [List.getD_eq_getElem?_getD, List.getElem?_eq_getElem i1] at a
          rw [List.getD_eq_getElem?_getD, List.getElem?_eq_getElem i2] at b
          exact a.symm.trans b
        have w := List.all_eq_true.mp (List.all_eq_true.mp pWs_nd k (List.mem_range.mpr (by omega))) j (List.mem_range.mpr h2)
        rw [e] at w
        have w := eq_of_beq w
        rw [beq_self_eq_true] at w
        exact of_decide_eq_true w.symm
theorem pFd_to (t : pT) (p l : Nat) : ∀ (d k : Nat), k + d = 21 → ∀ j : Nat, pFd t p l (pWs.drop k) k = (j : Int) → j < 21 ∧ (pWs.getD j []).length = l ∧ pEq t p (pWs.getD j []) = true
  | 0, k, hk, j, h => by
    have e : pWs.drop k = [] := List.drop_eq_nil_of_le (by have q : pWs.length = 21 := rfl; omega)
    rw [e] at h
    have h : (-1 : Int) = (j : Int) := h
    omega
  | d + 1, k, hk, j, h => by
    have q : pWs.length = 21 := rfl
    rw [pFd_drop t p l (by omega)] at h
    split at h
    · rename_i c
      have e : k = j := by omega
      subst e
      exact ⟨by omega, c.1, c.2⟩
    · exact pFd_to t p l d (k + 1) (by omega) j h
/-- a word is the token -/
theorem pW_iff (hj : i < 21) (hp : p ≤ n) : (pK t n p = 1 ∧ pV t n p = (i : Int)) ↔ (pEn t n p - p = (pWs.getD i []).length ∧ p < n ∧ pEq t p (pWs.getD i []) = true) := by
  constructor
  · rintro ⟨h1, h2⟩
    obtain ⟨h3, h4⟩ := pK_lt1.mp h1
    unfold pV at h2
    rw [if_pos h4] at h2
    obtain ⟨a1, a2, a3⟩ := pFd_to t p (pEn t n p - p) 21 0 rfl i h2
    exact ⟨a2.symm, h3, a3⟩
  · rintro ⟨h1, h3, h2⟩
    have hl : pLet (t p) = true := by
      have pos : 0 < (pWs.getD i []).length := by
        have := (pEn_b (t := t) hp).2.2 h3
        omega
      have a := (pEq_iff t _ p).mp h2 0 pos
      have w := List.all_eq_true.mp (List.all_eq_true.mp pWs_let i (List.mem_range.mpr hj)) 0 (List.mem_range.mpr pos)
      simp only [Bool.and_eq_true, decide_eq_true_eq] at w
      rw [Nat.add_zero] at a
      exact pLet_t.mpr (by omega)
    refine ⟨pK_lt1.mpr ⟨h3, hl⟩, ?_⟩
    unfold pV
    rw [if_pos hl]
    exact pFd_of t p (pEn t n p - p) 21 0 rfl i (Nat.zero_le _) hj ⟨h1.symm, h2⟩
/-- numbers: the model's goes to 999999, the class's to 10000 -/
def mNu (t : pT) : Nat → Nat → Int → Int
  | 0, _, v => v
  | f + 1, p, v => mNu t f (p + 1) (if 99999 < v then 999999 else 10 * v + t p - 48)
theorem mNu_s (t : pT) : ∀ (f p : Nat) (v : Int), mNu t (f + 1) p v = if 99999 < mNu t f p v then 999999 else 10 * mNu t f p v + t (p + f) - 48
  | 0, p, v => rfl
  | f + 1, p, v => by
    show mNu t (f + 1) (p + 1) _ = _
    rw [mNu_s t f (p + 1) _, show p + 1 + f = p + (f + 1) by omega]
    rfl
theorem mNu_n (t : pT) (p : Nat) : ∀ f : Nat, (∀ j, j < f → 48 ≤ t (p + j) ∧ t (p + j) ≤ 57) → 0 ≤ mNu t f p 0 ∧ mNu t f p 0 ≤ 999999 ∧ ((mNu t f p 0 ≤ 9999 ∧ pNu t f p 0 = mNu t f p 0) ∨ (9999 < mNu t f p 0 ∧ pNu t f p 0 = 10000))
  | 0, _ => by
    show (0 : Int) ≤ 0 ∧ (0 : Int) ≤ 999999 ∧ (((0 : Int) ≤ 9999 ∧ (0 : Int) = 0) ∨ _)
    exact ⟨by decide, by decide, Or.inl ⟨by decide, rfl⟩⟩
  | f + 1, H => by
    have a := mNu_n t p f (fun j hj => H j (by omega))
    have d := H f (by omega)
    rw [mNu_s, pNu_s]
    split <;> omega
theorem mNu_0 (e : x = 0) (z : k = 0) : x = mNu t k p 0 := by subst z; exact e
theorem mVal (h1 : pK t n p = 2) (hb : p ≤ n) (e : x = mNu t (pEn t n p - p) p 0) : 0 ≤ x ∧ x ≤ 999999 ∧ ((x ≤ 9999 ∧ pV t n p = x) ∨ (9999 < x ∧ pV t n p = 10000)) := by
  obtain ⟨h2, h3⟩ := pK_dg.mp h1
  have hl : ¬ pLet (t p) = true := fun z => by
    have a := pLet_t.mp z
    have b := pDig_t.mp h3
    omega
  have he : pEn t n p = pRun pDig t n p := by unfold pEn; rw [if_pos h2, if_neg hl, if_pos h3]
  have r := pRun_b (P := pDig) (t := t) (n := n) (n - p) p rfl hb
  unfold pV pVl
  rw [if_neg hl, e]
  refine mNu_n t p _ (fun j hj => ?_)
  exact pDig_t.mp (r.2.2.1 (p + j) (by omega) (by omega))
theorem mDg (h1 : pK t n p = 2) (hb : p ≤ n) : ∀ j, p ≤ j → j < pEn t n p → 48 ≤ t j ∧ t j ≤ 57 := by
  obtain ⟨h2, h3⟩ := pK_dg.mp h1
  have hl : ¬ pLet (t p) = true := fun z => by
    have a := pLet_t.mp z
    have b := pDig_t.mp h3
    omega
  have he : pEn t n p = pRun pDig t n p := by unfold pEn; rw [if_pos h2, if_neg hl, if_pos h3]
  have r := pRun_b (P := pDig) (t := t) (n := n) (n - p) p rfl hb
  intro j j1 j2
  rw [he] at j2
  exact pDig_t.mp (r.2.2.1 j j1 j2)
/-- nothing of the reading moves -/
theorem mQ.fr (Q : mQ t n w0 h s) (R : zMR ms h g) (e : (zqN ms 37 37 42 44 && (zqN ms 37 37 45 46 && (zqN ms 37 37 47 48 && ms.all (fun q => Nat.blt q.2.1 149 || Nat.blt 153 q.1)))) = true) (hc : 0 ≤ fld h 37 47 ∧ fld h 37 47 ≤ 4) : mQ t n w0 g s := by
  rw [Bool.and_eq_true] at e
  exact Q.tk R e.2 hc (Q.1.fr R e.1)
theorem mTk_e (h1 : fld h 37 42 = (p : Int)) (h2 : p = n) (h3 : fld h 37 43 = (p : Int)) : mTk t n h p := by
  refine ⟨h1, by omega, ?_⟩
  unfold pEn
  rw [if_neg (by omega)]
  exact h3
theorem mTk_w (h1 : fld h 37 42 = (p : Int)) (h2 : p < n) (hl : pLet (t p) = true) (h3 : fld h 37 43 = ((pRun pLet t n p : Nat) : Int)) : mTk t n h p := by
  have e : pEn t n p = pRun pLet t n p := by unfold pEn; rw [if_pos h2, if_pos hl]
  exact ⟨h1, by omega, by rw [e]; exact h3⟩
theorem mTk_d (h1 : fld h 37 42 = (p : Int)) (h2 : p < n) (hl : ¬ pLet (t p) = true) (hd : pDig (t p) = true) (h3 : fld h 37 43 = ((pRun pDig t n p : Nat) : Int)) : mTk t n h p := by
  have e : pEn t n p = pRun pDig t n p := by unfold pEn; rw [if_pos h2, if_neg hl, if_pos hd]
  exact ⟨h1, by omega, by rw [e]; exact h3⟩
theorem mTk_s (h1 : fld h 37 42 = (p : Int)) (h2 : p < n) (hl : ¬ pLet (t p) = true) (hd : ¬ pDig (t p) = true) (h3 : fld h 37 43 = (p : Int) + 1) : mTk t n h p := by
  have e : pEn t n p = p + 1 := by unfold pEn; rw [if_pos h2, if_neg hl, if_neg hd]
  exact ⟨h1, by omega, by rw [e]; omega⟩
theorem eEn_n : eEn 110 v = v := if_pos rfl
theorem eEn_v : eEn 118 v = -1 - v := (if_neg (by decide)).trans (if_pos rfl)
theorem eEn_x : eEn 33 v = -20 ∧ eEn 38 v = -19 ∧ eEn 124 v = -18 := by
  unfold eEn
  exact ⟨by rw [if_neg (by decide), if_neg (by decide), if_pos rfl], by rw [if_neg (by decide), if_neg (by decide), if_neg (by decide), if_pos rfl], by rw [if_neg (by decide), if_neg (by decide), if_neg (by decide), if_neg (by decide), if_pos rfl]⟩
theorem eEn_o (h : op = 43 ∨ op = 45 ∨ op = 42 ∨ op = 47 ∨ op = 60 ∨ op = 62 ∨ op = 61) : eEn op v = -op := by
  unfold eEn
  rw [if_neg (by omega), if_neg (by omega), if_neg (by omega), if_neg (by omega), if_neg (by omega)]
theorem mL_m (W : rW n s) (k : pK t n s.1 ≠ 0) (H : pG n f) (e : n ≤ s.1 + m) : m = (m - 1) + 1 ∧ n ≤ (f (pA t n s)).2.1 + (m - 1) ∧ s.1 < (f (pA t n s)).2.1 := by
  have d := pK_lt k
  have b := pNx_b (t := t) W.2
  have g := H (pA t n s) b.2.1
  have g1 : pNx t n s.1 ≤ (f (pA t n s)).2.1 := g.1
  omega
/-! loops, without bound -/
def vL (t : pT) (n w0 : Nat) (h : Hp) (F : Nat → pQ → pR) (T : pR) : Prop := ∃ (m : Nat) (q : pQ), mQ t n w0 h q ∧ rW n q ∧ fld h 37 44 = -1 ∧ n ≤ q.1 + m ∧ T = F m q
theorem mL_0 {F : Nat → pQ → pR} (R : vR t n w0 g x (f s)) (e : x ≠ 0) (W : rW n (f s).2) (hn : n ≤ 400) : vL t n w0 g F (if (f s).1 = true then F 400 (f s).2 else f s) := ⟨400, (f s).2, R.qq e, W, R.e e, by omega, by rw [if_pos (R.b1 e)]⟩
theorem mL_n {F : Nat → pQ → pR} (Q : mQ t n w0 g s) (W : rW n s) (e : fld g 37 44 = -1) (hm : n ≤ s.1 + m) (hT : T = F m s) : vL t n w0 g F T := ⟨m, s, Q, W, e, hm, hT⟩
def mX (sc : List Int) (D y : Nat) (a : Int) (F : pT → Nat → pQ → pR) : Prop := ∀ h : Hp, zI h → ∀ (t : pT) (n w0 : Nat) (s : pQ), vB t n h → mQ t n w0 h s → rW n s → 0 ≤ fld h 37 47 → fld h 37 44 = -1 → zwC sc D y [(2, 37), (0, a)] h (zwRt 0 (fun x g => zI g ∧ zMR msP h g ∧ (0 ≤ x ∧ x ≤ 1) ∧ mO h g ∧ vR t n w0 g x (F t n s)))
theorem mX.up {sc : List Int} {D D' y : Nat} {a : Int} {F : pT → Nat → pQ → pR} (hD : D ≤ D') (H : mX sc D y a F) : mX sc D' y a F := fun h I t n w0 s B Q W c e => zwC_up hD (H h I t n w0 s B Q W c e)
end RM
end
section
/-! contracts of methods -/
-- WheelLandModel.skips()V
theorem m200_pl {sc : List Int} (h : Hp) (I : zI h) (t : pT) (n p : Nat) (B : vB t n h) (pp : fld h 37 42 = (p : Int)) (p3 : fld h 37 43 = (p : Int)) (pl : p < n) (LT : pLet (t p) = true) : zwW sc 1 200 87 [(2, 37)] [] h (zwRv (fun g => zI g ∧ zMR msS2 h g ∧ mTk t n g p)) := by
  have R : zMR msS2 h h := zMR.rf _ _
  have B1 := B.1
  have B2 := B.2.1
  have L1 : ∀ (n0 : Nat) (hL1 : Hp), n0 = (fld hL1 37 41 - fld hL1 37 43).toNat → (vB t n hL1) → (fld hL1 37 42 = p ∧ p ≤ fld hL1 37 43 ∧ fld hL1 37 43 ≤ n) → (pRun pLet t n (fld hL1 37 43).toNat = pRun pLet t n p) → zI hL1 → zMR msS2 h hL1 → zwW sc (1) 200 87 [(2, 37)] [] hL1 (zwRv (fun g => zI g ∧ zMR msS2 h g ∧ mTk t n g p)) := by
    intro n0
    induction n0 using Nat.strongRecOn with
    | ind n0 IHL1 =>
      intro hL1 hnL1 iL1_0 iL1_1 iL1_2 IhL1 RhL1
      have BL := iL1_0.1
      refine zwW_p [(1, 0, 2)] (q := 88) (ls' := [(2, 37)]) (st' := [(2, 37)]) (by decide +kernel) rfl ?_
      refine zwW_gs IhL1 (kd := 13) (bn := 43) (n := 97) (t := 0) (lo := 0) (hi := 400) (nx := 91) (by decide +kernel) ?_
      intro v2 ev2 lv2 uv2
      refine zwW_p [(1, 0, 2)] (q := 92) (ls' := [(2, 37)]) (st' := [(2, 37), (0, v2)]) (by decide +kernel) rfl ?_
      refine zwW_gs IhL1 (kd := 13) (bn := 41) (n := 97) (t := 0) (lo := 0) (hi := 400) (nx := 95) (by decide +kernel) ?_
      intro v3 ev3 lv3 uv3
      refine zwic_ge (q := 190) (nx := 98) (by decide +kernel) (fun c4 => ?_) (fun c4 => ?_)
      · have TK : mTk t n hL1 p := mTk_w (by omega) (by omega) LT (by rw [← iL1_2, pRun_e (fun z => by first | omega | (have w := pLet_t.mp z.2; omega))]; omega)
        refine zwW_retv (nx := 191) (a := 0) (b := 0) (by decide +kernel) ?_
        exact ⟨IhL1, RhL1, by exact TK⟩
      · refine zwW_p [(1, 0, 2)] (q := 99) (ls' := [(2, 37)]) (st' := [(2, 37)]) (by decide +kernel) rfl ?_
        refine zwW_gc IhL1 (kd := 13) (bn := 40) (n := 97) (c := 98) (nx := 102) (by decide +kernel) ?_
        refine zwW_p [(1, 0, 2)] (q := 103) (ls' := [(2, 37)]) (st' := [(2, 37), (2, 98)]) (by decide +kernel) rfl ?_
        refine zwW_gs IhL1 (kd := 13) (bn := 43) (n := 97) (t := 0) (lo := 0) (hi := 400) (nx := 106) (by decide +kernel) ?_
        intro v5 ev5 lv5 uv5
        have ib1 : 0 ≤ v5 ∧ v5 < ((400 : Nat) : Int) := (by first | omega | exact ⟨by omega, by omega⟩)
        refine zwW_al IhL1 (a1 := 98) (a2 := 98) (kd := 21) (n := 400) (t := 0) (lo := -128) (hi := 127) (nx := 107) (by decide +kernel) (by first | decide | exact ⟨by decide, by decide⟩) ib1 ?_
        intro v6 ev6 lv6 uv6
        have E107 : v6 = t ((fld hL1 37 43).toNat) := by rw [ev6]; refine Eq.trans ?_ (iL1_0.2.2 ((fld hL1 37 43).toNat) (by omega)); first | rfl | (congr 1; omega)
        refine zwW_cs (k' := 244) (n := 1) (nx := 110) (as := [(0, v6)]) (st' := []) (by decide +kernel) rfl (m244 hL1 v6) rfl ?_
        rintro x _ ⟨rfl, ⟨rfl, c7⟩ | ⟨rfl, c7⟩⟩
        · refine zwif_eq (q := 190) (nx := 113) (by decide +kernel) (fun c8 => ?_) (fun c8 => ?_)
          · exfalso; omega
          · refine zwW_p [(1, 0, 2), (12, 0, 0)] (q := 115) (ls' := [(2, 37)]) (st' := [(2, 37), (2, 37)]) (by decide +kernel) rfl ?_
            refine zwW_gs IhL1 (kd := 13) (bn := 43) (n := 97) (t := 0) (lo := 0) (hi := 400) (nx := 118) (by decide +kernel) ?_
            intro v9 ev9 lv9 uv9
            refine zwW_p [(0, 1, 0)] (q := 119) (ls' := [(2, 37)]) (st' := [(0, 1), (0, v9), (2, 37)]) (by decide +kernel) rfl ?_
            refine zwW_add (nx := 120) (by decide +kernel) (by first | omega | exact ⟨by omega, by omega⟩) ?_
            refine zwW_ps IhL1 (kd := 13) (bn := 43) (n := 97) (lo := 0) (hi := 400) (nx := 123) (by decide +kernel) (by first | omega | exact ⟨by omega, by omega⟩) ?_
            intro h10 eh10 Ih10
            have th10_37_41 : fld h10 37 41 = fld hL1 37 41 := by rw [eh10]; exact fld_wr (by decide)
            have th10_37_42 : fld h10 37 42 = fld hL1 37 42 := by rw [eh10]; exact fld_wr (by decide)
            have th10_37_43 : fld h10 37 43 = (v9 + 1) := by rw [eh10]; exact fld_wr_eq (IhL1.s (a1 := 37) (a2 := 37) (k := 13) (n := 97) (by decide +kernel) (by decide) (by decide)) (by decide)
            have Bh10 : vB t n h10 := iL1_0.fr (zMR.one (a1 := 37) (a2 := 37) (j1 := 43) (j2 := 44) (by first | decide | exact ⟨by decide, by decide⟩) (by first | decide | exact ⟨by decide, by decide⟩) eh10) (by decide +kernel)
            have Rh10 : zMR msS2 h h10 := RhL1.w (a1 := 37) (a2 := 37) (j1 := 43) (j2 := 44) (by decide +kernel) (by first | decide | exact ⟨by decide, by decide⟩) (by first | decide | exact ⟨by decide, by decide⟩) eh10
            have PR87 : pRun pLet t n (fld h10 37 43).toNat = pRun pLet t n p := by rw [← iL1_2, show (fld h10 37 43).toNat = (fld hL1 37 43).toNat + 1 by omega]; exact (pRun_s (by omega) (pLet_t.mpr (by omega))).symm
            refine zwW_p [(24, 87, 0)] (q := 87) (ls' := [(2, 37)]) (st' := []) (by decide +kernel) rfl ?_
            exact IHL1 (fld h10 37 41 - fld h10 37 43).toNat (by omega) h10 rfl (Bh10) (by omega) (PR87) Ih10 Rh10
        · refine zwif_eq (q := 190) (nx := 113) (by decide +kernel) (fun c11 => ?_) (fun c11 => ?_)
          · have TK : mTk t n hL1 p := mTk_w (by omega) (by omega) LT (by rw [← iL1_2, pRun_e (fun z => by first | omega | (have w := pLet_t.mp z.2; omega))]; omega)
            refine zwW_retv (nx := 191) (a := 0) (b := 0) (by decide +kernel) ?_
            exact ⟨IhL1, RhL1, by exact TK⟩
          · exfalso; omega
  exact L1 _ h rfl (B) (by omega) (by rw [show (fld h 37 43).toNat = p by omega]) I R
-- WheelLandModel.skips()V
theorem m200_pd {sc : List Int} (h : Hp) (I : zI h) (t : pT) (n p : Nat) (B : vB t n h) (pp : fld h 37 42 = (p : Int)) (p3 : fld h 37 43 = (p : Int)) (pl : p < n) (NL : ¬ pLet (t p) = true) (DG : pDig (t p) = true) : zwW sc 1 200 141 [(2, 37)] [] h (zwRv (fun g => zI g ∧ zMR msS2 h g ∧ mTk t n g p)) := by
  have R : zMR msS2 h h := zMR.rf _ _
  have B1 := B.1
  have B2 := B.2.1
  have L1 : ∀ (n0 : Nat) (hL1 : Hp), n0 = (fld hL1 37 41 - fld hL1 37 43).toNat → (vB t n hL1) → (fld hL1 37 42 = p ∧ p ≤ fld hL1 37 43 ∧ fld hL1 37 43 ≤ n) → (pRun pDig t n (fld hL1 37 43).toNat = pRun pDig t n p) → zI hL1 → zMR msS2 h hL1 → zwW sc (1) 200 141 [(2, 37)] [] hL1 (zwRv (fun g => zI g ∧ zMR msS2 h g ∧ mTk t n g p)) := by
    intro n0
    induction n0 using Nat.strongRecOn with
    | ind n0 IHL1 =>
      intro hL1 hnL1 iL1_0 iL1_1 iL1_2 IhL1 RhL1
      have BL := iL1_0.1
      refine zwW_p [(1, 0, 2)] (q := 142) (ls' := [(2, 37)]) (st' := [(2, 37)]) (by decide +kernel) rfl ?_
      refine zwW_gs IhL1 (kd := 13) (bn := 43) (n := 97) (t := 0) (lo := 0) (hi := 400) (nx := 145) (by decide +kernel) ?_
      intro v2 ev2 lv2 uv2
      refine zwW_p [(1, 0, 2)] (q := 146) (ls' := [(2, 37)]) (st' := [(2, 37), (0, v2)]) (by decide +kernel) rfl ?_
      refine zwW_gs IhL1 (kd := 13) (bn := 41) (n := 97) (t := 0) (lo := 0) (hi := 400) (nx := 149) (by decide +kernel) ?_
      intro v3 ev3 lv3 uv3
      refine zwic_ge (q := 190) (nx := 152) (by decide +kernel) (fun c4 => ?_) (fun c4 => ?_)
      · have TK : mTk t n hL1 p := mTk_d (by omega) (by omega) NL DG (by rw [← iL1_2, pRun_e (fun z => by first | omega | (have w := pDig_t.mp z.2; omega))]; omega)
        refine zwW_retv (nx := 191) (a := 0) (b := 0) (by decide +kernel) ?_
        exact ⟨IhL1, RhL1, by exact TK⟩
      · refine zwW_p [(1, 0, 2)] (q := 153) (ls' := [(2, 37)]) (st' := [(2, 37)]) (by decide +kernel) rfl ?_
        refine zwW_gc IhL1 (kd := 13) (bn := 40) (n := 97) (c := 98) (nx := 156) (by decide +kernel) ?_
        refine zwW_p [(1, 0, 2)] (q := 157) (ls' := [(2, 37)]) (st' := [(2, 37), (2, 98)]) (by decide +kernel) rfl ?_
        refine zwW_gs IhL1 (kd := 13) (bn := 43) (n := 97) (t := 0) (lo := 0) (hi := 400) (nx := 160) (by decide +kernel) ?_
        intro v5 ev5 lv5 uv5
        have ib1 : 0 ≤ v5 ∧ v5 < ((400 : Nat) : Int) := (by first | omega | exact ⟨by omega, by omega⟩)
        refine zwW_al IhL1 (a1 := 98) (a2 := 98) (kd := 21) (n := 400) (t := 0) (lo := -128) (hi := 127) (nx := 161) (by decide +kernel) (by first | decide | exact ⟨by decide, by decide⟩) ib1 ?_
        intro v6 ev6 lv6 uv6
        have E161 : v6 = t ((fld hL1 37 43).toNat) := by rw [ev6]; refine Eq.trans ?_ (iL1_0.2.2 ((fld hL1 37 43).toNat) (by omega)); first | rfl | (congr 1; omega)
        refine zwW_cs (k' := 245) (n := 1) (nx := 164) (as := [(0, v6)]) (st' := []) (by decide +kernel) rfl (m245 hL1 v6) rfl ?_
        rintro x _ ⟨rfl, ⟨rfl, c7⟩ | ⟨rfl, c7⟩⟩
        · refine zwif_eq (q := 190) (nx := 167) (by decide +kernel) (fun c8 => ?_) (fun c8 => ?_)
          · exfalso; omega
          · refine zwW_p [(1, 0, 2), (12, 0, 0)] (q := 169) (ls' := [(2, 37)]) (st' := [(2, 37), (2, 37)]) (by decide +kernel) rfl ?_
            refine zwW_gs IhL1 (kd := 13) (bn := 43) (n := 97) (t := 0) (lo := 0) (hi := 400) (nx := 172) (by decide +kernel) ?_
            intro v9 ev9 lv9 uv9
            refine zwW_p [(0, 1, 0)] (q := 173) (ls' := [(2, 37)]) (st' := [(0, 1), (0, v9), (2, 37)]) (by decide +kernel) rfl ?_
            refine zwW_add (nx := 174) (by decide +kernel) (by first | omega | exact ⟨by omega, by omega⟩) ?_
            refine zwW_ps IhL1 (kd := 13) (bn := 43) (n := 97) (lo := 0) (hi := 400) (nx := 177) (by decide +kernel) (by first | omega | exact ⟨by omega, by omega⟩) ?_
            intro h10 eh10 Ih10
            have th10_37_41 : fld h10 37 41 = fld hL1 37 41 := by rw [eh10]; exact fld_wr (by decide)
            have th10_37_42 : fld h10 37 42 = fld hL1 37 42 := by rw [eh10]; exact fld_wr (by decide)
            have th10_37_43 : fld h10 37 43 = (v9 + 1) := by rw [eh10]; exact fld_wr_eq (IhL1.s (a1 := 37) (a2 := 37) (k := 13) (n := 97) (by decide +kernel) (by decide) (by decide)) (by decide)
            have Bh10 : vB t n h10 := iL1_0.fr (zMR.one (a1 := 37) (a2 := 37) (j1 := 43) (j2 := 44) (by first | decide | exact ⟨by decide, by decide⟩) (by first | decide | exact ⟨by decide, by decide⟩) eh10) (by decide +kernel)
            have Rh10 : zMR msS2 h h10 := RhL1.w (a1 := 37) (a2 := 37) (j1 := 43) (j2 := 44) (by decide +kernel) (by first | decide | exact ⟨by decide, by decide⟩) (by first | decide | exact ⟨by decide, by decide⟩) eh10
            have PR141 : pRun pDig t n (fld h10 37 43).toNat = pRun pDig t n p := by rw [← iL1_2, show (fld h10 37 43).toNat = (fld hL1 37 43).toNat + 1 by omega]; exact (pRun_s (by omega) (pDig_t.mpr (by omega))).symm
            refine zwW_p [(24, 141, 0)] (q := 141) (ls' := [(2, 37)]) (st' := []) (by decide +kernel) rfl ?_
            exact IHL1 (fld h10 37 41 - fld h10 37 43).toNat (by omega) h10 rfl (Bh10) (by omega) (PR141) Ih10 Rh10
        · refine zwif_eq (q := 190) (nx := 167) (by decide +kernel) (fun c11 => ?_) (fun c11 => ?_)
          · have TK : mTk t n hL1 p := mTk_d (by omega) (by omega) NL DG (by rw [← iL1_2, pRun_e (fun z => by first | omega | (have w := pDig_t.mp z.2; omega))]; omega)
            refine zwW_retv (nx := 191) (a := 0) (b := 0) (by decide +kernel) ?_
            exact ⟨IhL1, RhL1, by exact TK⟩
          · exfalso; omega
  exact L1 _ h rfl (B) (by omega) (by rw [show (fld h 37 43).toNat = p by omega]) I R
-- WheelLandModel.skips()V
theorem m200_ps {sc : List Int} (h : Hp) (I : zI h) (t : pT) (n p : Nat) (B : vB t n h) (pp : fld h 37 42 = (p : Int)) (p3 : fld h 37 43 = (p : Int)) (pl : p < n) (NL : ¬ pLet (t p) = true) (ND : ¬ pDig (t p) = true) : zwW sc 1 200 180 [(2, 37)] [] h (zwRv (fun g => zI g ∧ zMR msS2 h g ∧ mTk t n g p)) := by
  have R : zMR msS2 h h := zMR.rf _ _
  have B1 := B.1
  have B2 := B.2.1
  refine zwW_p [(1, 0, 2), (1, 0, 2)] (q := 182) (ls' := [(2, 37)]) (st' := [(2, 37), (2, 37)]) (by decide +kernel) rfl ?_
  refine zwW_gs I (kd := 13) (bn := 42) (n := 97) (t := 0) (lo := 0) (hi := 400) (nx := 185) (by decide +kernel) ?_
  intro v1 ev1 lv1 uv1
  refine zwW_p [(0, 1, 0)] (q := 186) (ls' := [(2, 37)]) (st' := [(0, 1), (0, v1), (2, 37)]) (by decide +kernel) rfl ?_
  refine zwW_add (nx := 187) (by decide +kernel) (by first | omega | exact ⟨by omega, by omega⟩) ?_
  refine zwW_ps I (kd := 13) (bn := 43) (n := 97) (lo := 0) (hi := 400) (nx := 190) (by decide +kernel) (by first | omega | exact ⟨by omega, by omega⟩) ?_
  intro h2 eh2 Ih2
  have th2_37_41 : fld h2 37 41 = fld h 37 41 := by rw [eh2]; exact fld_wr (by decide)
  have th2_37_42 : fld h2 37 42 = fld h 37 42 := by rw [eh2]; exact fld_wr (by decide)
  have th2_37_43 : fld h2 37 43 = (v1 + 1) := by rw [eh2]; exact fld_wr_eq (I.s (a1 := 37) (a2 := 37) (k := 13) (n := 97) (by decide +kernel) (by decide) (by decide)) (by decide)
  have Bh2 : vB t n h2 := B.fr (zMR.one (a1 := 37) (a2 := 37) (j1 := 43) (j2 := 44) (by first | decide | exact ⟨by decide, by decide⟩) (by first | decide | exact ⟨by decide, by decide⟩) eh2) (by decide +kernel)
  have Rh2 : zMR msS2 h h2 := R.w (a1 := 37) (a2 := 37) (j1 := 43) (j2 := 44) (by decide +kernel) (by first | decide | exact ⟨by decide, by decide⟩) (by first | decide | exact ⟨by decide, by decide⟩) eh2
  have TK : mTk t n h2 p := mTk_s (by omega) (by omega) NL ND (by omega)
  refine zwW_retv (nx := 191) (a := 0) (b := 0) (by decide +kernel) ?_
  exact ⟨Ih2, Rh2, by exact TK⟩
-- WheelLandModel.skips()V
theorem m200_pt {sc : List Int} (h : Hp) (I : zI h) (t : pT) (n p : Nat) (B : vB t n h) (pp : fld h 37 42 = (p : Int)) (pl : p ≤ n) : zwW sc 1 200 52 [(2, 37)] [] h (zwRv (fun g => zI g ∧ zMR msS2 h g ∧ mTk t n g p)) := by
  have R : zMR msS2 h h := zMR.rf _ _
  have B1 := B.1
  have B2 := B.2.1
  refine zwW_p [(1, 0, 2), (1, 0, 2)] (q := 54) (ls' := [(2, 37)]) (st' := [(2, 37), (2, 37)]) (by decide +kernel) rfl ?_
  refine zwW_gs I (kd := 13) (bn := 42) (n := 97) (t := 0) (lo := 0) (hi := 400) (nx := 57) (by decide +kernel) ?_
  intro v1 ev1 lv1 uv1
  refine zwW_ps I (kd := 13) (bn := 43) (n := 97) (lo := 0) (hi := 400) (nx := 60) (by decide +kernel) (by first | omega | exact ⟨by omega, by omega⟩) ?_
  intro h2 eh2 Ih2
  have th2_37_41 : fld h2 37 41 = fld h 37 41 := by rw [eh2]; exact fld_wr (by decide)
  have th2_37_42 : fld h2 37 42 = fld h 37 42 := by rw [eh2]; exact fld_wr (by decide)
  have th2_37_43 : fld h2 37 43 = v1 := by rw [eh2]; exact fld_wr_eq (I.s (a1 := 37) (a2 := 37) (k := 13) (n := 97) (by decide +kernel) (by decide) (by decide)) (by decide)
  have Bh2 : vB t n h2 := B.fr (zMR.one (a1 := 37) (a2 := 37) (j1 := 43) (j2 := 44) (by first | decide | exact ⟨by decide, by decide⟩) (by first | decide | exact ⟨by decide, by decide⟩) eh2) (by decide +kernel)
  have Rh2 : zMR msS2 h h2 := R.w (a1 := 37) (a2 := 37) (j1 := 43) (j2 := 44) (by decide +kernel) (by first | decide | exact ⟨by decide, by decide⟩) (by first | decide | exact ⟨by decide, by decide⟩) eh2
  refine zwW_p [(1, 0, 2)] (q := 61) (ls' := [(2, 37)]) (st' := [(2, 37)]) (by decide +kernel) rfl ?_
  refine zwW_gs Ih2 (kd := 13) (bn := 42) (n := 97) (t := 0) (lo := 0) (hi := 400) (nx := 64) (by decide +kernel) ?_
  intro v3 ev3 lv3 uv3
  refine zwW_p [(1, 0, 2)] (q := 65) (ls' := [(2, 37)]) (st' := [(2, 37), (0, v3)]) (by decide +kernel) rfl ?_
  refine zwW_gs Ih2 (kd := 13) (bn := 41) (n := 97) (t := 0) (lo := 0) (hi := 400) (nx := 68) (by decide +kernel) ?_
  intro v4 ev4 lv4 uv4
  refine zwic_ne (q := 72) (nx := 71) (by decide +kernel) (fun c5 => ?_) (fun c5 => ?_)
  · refine zwW_p [(1, 0, 2)] (q := 73) (ls' := [(2, 37)]) (st' := [(2, 37)]) (by decide +kernel) rfl ?_
    refine zwW_gc Ih2 (kd := 13) (bn := 40) (n := 97) (c := 98) (nx := 76) (by decide +kernel) ?_
    refine zwW_p [(1, 0, 2)] (q := 77) (ls' := [(2, 37)]) (st' := [(2, 37), (2, 98)]) (by decide +kernel) rfl ?_
    refine zwW_gs Ih2 (kd := 13) (bn := 42) (n := 97) (t := 0) (lo := 0) (hi := 400) (nx := 80) (by decide +kernel) ?_
    intro v6 ev6 lv6 uv6
    have ib1 : 0 ≤ v6 ∧ v6 < ((400 : Nat) : Int) := (by first | omega | exact ⟨by omega, by omega⟩)
    refine zwW_al Ih2 (a1 := 98) (a2 := 98) (kd := 21) (n := 400) (t := 0) (lo := -128) (hi := 127) (nx := 81) (by decide +kernel) (by first | decide | exact ⟨by decide, by decide⟩) ib1 ?_
    intro v7 ev7 lv7 uv7
    have E81 : v7 = t (p) := by rw [ev7]; refine Eq.trans ?_ (Bh2.2.2 (p) (by omega)); first | rfl | (congr 1; omega)
    refine zwW_cs (k' := 244) (n := 1) (nx := 84) (as := [(0, v7)]) (st' := []) (by decide +kernel) rfl (m244 h2 v7) rfl ?_
    rintro x _ ⟨rfl, ⟨rfl, c8⟩ | ⟨rfl, c8⟩⟩
    · refine zwif_eq (q := 126) (nx := 87) (by decide +kernel) (fun c9 => ?_) (fun c9 => ?_)
      · exfalso; omega
      · refine zwW_to (m200_pl h2 Ih2 t n p Bh2 (by omega) (by omega) (by omega) (pLet_t.mpr (by omega))) ?_
        rintro r g ⟨er, Ig, RT, K⟩
        exact ⟨er, Ig, Rh2.tr RT (by decide +kernel), K⟩
    · refine zwif_eq (q := 126) (nx := 87) (by decide +kernel) (fun c10 => ?_) (fun c10 => ?_)
      · refine zwW_p [(1, 0, 2)] (q := 127) (ls' := [(2, 37)]) (st' := [(2, 37)]) (by decide +kernel) rfl ?_
        refine zwW_gc Ih2 (kd := 13) (bn := 40) (n := 97) (c := 98) (nx := 130) (by decide +kernel) ?_
        refine zwW_p [(1, 0, 2)] (q := 131) (ls' := [(2, 37)]) (st' := [(2, 37), (2, 98)]) (by decide +kernel) rfl ?_
        refine zwW_gs Ih2 (kd := 13) (bn := 42) (n := 97) (t := 0) (lo := 0) (hi := 400) (nx := 134) (by decide +kernel) ?_
        intro v11 ev11 lv11 uv11
        have ib2 : 0 ≤ v11 ∧ v11 < ((400 : Nat) : Int) := (by first | omega | exact ⟨by omega, by omega⟩)
        refine zwW_al Ih2 (a1 := 98) (a2 := 98) (kd := 21) (n := 400) (t := 0) (lo := -128) (hi := 127) (nx := 135) (by decide +kernel) (by first | decide | exact ⟨by decide, by decide⟩) ib2 ?_
        intro v12 ev12 lv12 uv12
        have E135 : v12 = t (p) := by rw [ev12]; refine Eq.trans ?_ (Bh2.2.2 (p) (by omega)); first | rfl | (congr 1; omega)
        refine zwW_cs (k' := 245) (n := 1) (nx := 138) (as := [(0, v12)]) (st' := []) (by decide +kernel) rfl (m245 h2 v12) rfl ?_
        rintro x _ ⟨rfl, ⟨rfl, c13⟩ | ⟨rfl, c13⟩⟩
        · refine zwif_eq (q := 180) (nx := 141) (by decide +kernel) (fun c14 => ?_) (fun c14 => ?_)
          · exfalso; omega
          · refine zwW_to (m200_pd h2 Ih2 t n p Bh2 (by omega) (by omega) (by omega) (fun z => by have w := pLet_t.mp z; omega) (pDig_t.mpr (by omega))) ?_
            rintro r g ⟨er, Ig, RT, K⟩
            exact ⟨er, Ig, Rh2.tr RT (by decide +kernel), K⟩
        · refine zwif_eq (q := 180) (nx := 141) (by decide +kernel) (fun c15 => ?_) (fun c15 => ?_)
          · refine zwW_to (m200_ps h2 Ih2 t n p Bh2 (by omega) (by omega) (by omega) (fun z => by have w := pLet_t.mp z; omega) (fun z => by have w := pDig_t.mp z; omega)) ?_
            rintro r g ⟨er, Ig, RT, K⟩
            exact ⟨er, Ig, Rh2.tr RT (by decide +kernel), K⟩
          · exfalso; omega
      · exfalso; omega
  · have TK : mTk t n h2 p := mTk_e (by omega) (by omega) (by omega)
    refine zwW_retv (nx := 72) (a := 0) (b := 0) (by decide +kernel) ?_
    exact ⟨Ih2, Rh2, by exact TK⟩
-- WheelLandModel.skips()V
theorem m200_p {sc : List Int} (h : Hp) (I : zI h) (t : pT) (n : Nat) (q : Nat) (B : vB t n h) (pq : fld h 37 42 = (q : Int)) (pl : q ≤ n) : zwC sc 2 200 [(2, 37)] h (zwRv (fun g => zI g ∧ zMR msS2 h g ∧ (mTk t n g (pSk t n q)))) := by
  refine zwC_of (D := 1) 1 (by decide +kernel) rfl (ls := [(2, 37)]) rfl ?_
  have R : zMR msS2 h h := zMR.rf _ _
  have B1 := B.1
  have B2 := B.2.1
  have L1 : ∀ (n0 : Nat) (hL1 : Hp), n0 = (fld hL1 37 41 - fld hL1 37 42).toNat → (vB t n hL1) → (q ≤ fld hL1 37 42 ∧ fld hL1 37 42 ≤ n) → (pRun pBla t n (fld hL1 37 42).toNat = pRun pBla t n q) → zI hL1 → zMR msS2 h hL1 → zwW sc (1) 200 0 [(2, 37)] [] hL1 (zwRv (fun g => zI g ∧ zMR msS2 h g ∧ (mTk t n g (pSk t n q)))) := by
    intro n0
    induction n0 using Nat.strongRecOn with
    | ind n0 IHL1 =>
      intro hL1 hnL1 iL1_0 iL1_1 iL1_2 IhL1 RhL1
      have BL := iL1_0.1
      refine zwW_p [(1, 0, 2)] (q := 1) (ls' := [(2, 37)]) (st' := [(2, 37)]) (by decide +kernel) rfl ?_
      refine zwW_gs IhL1 (kd := 13) (bn := 42) (n := 97) (t := 0) (lo := 0) (hi := 400) (nx := 4) (by decide +kernel) ?_
      intro v2 ev2 lv2 uv2
      refine zwW_p [(1, 0, 2)] (q := 5) (ls' := [(2, 37)]) (st' := [(2, 37), (0, v2)]) (by decide +kernel) rfl ?_
      refine zwW_gs IhL1 (kd := 13) (bn := 41) (n := 97) (t := 0) (lo := 0) (hi := 400) (nx := 8) (by decide +kernel) ?_
      intro v3 ev3 lv3 uv3
      refine zwic_ge (q := 52) (nx := 11) (by decide +kernel) (fun c4 => ?_) (fun c4 => ?_)
      · have N52 : pSk t n q = (fld hL1 37 42).toNat := by unfold pSk; rw [← iL1_2]; exact pRun_e (fun z => by first | omega | (have w := pBla_t.mp z.2; omega))
        refine zwW_to (m200_pt hL1 IhL1 t n (pSk t n q) iL1_0 (by omega) (by omega)) ?_
        rintro r g ⟨er, Ig, RT, K⟩
        exact ⟨er, Ig, RhL1.tr RT (by decide +kernel), K⟩
      · refine zwW_p [(1, 0, 2)] (q := 12) (ls' := [(2, 37)]) (st' := [(2, 37)]) (by decide +kernel) rfl ?_
        refine zwW_gc IhL1 (kd := 13) (bn := 40) (n := 97) (c := 98) (nx := 15) (by decide +kernel) ?_
        refine zwW_p [(1, 0, 2)] (q := 16) (ls' := [(2, 37)]) (st' := [(2, 37), (2, 98)]) (by decide +kernel) rfl ?_
        refine zwW_gs IhL1 (kd := 13) (bn := 42) (n := 97) (t := 0) (lo := 0) (hi := 400) (nx := 19) (by decide +kernel) ?_
        intro v5 ev5 lv5 uv5
        have ib1 : 0 ≤ v5 ∧ v5 < ((400 : Nat) : Int) := (by first | omega | exact ⟨by omega, by omega⟩)
        refine zwW_al IhL1 (a1 := 98) (a2 := 98) (kd := 21) (n := 400) (t := 0) (lo := -128) (hi := 127) (nx := 20) (by decide +kernel) (by first | decide | exact ⟨by decide, by decide⟩) ib1 ?_
        intro v6 ev6 lv6 uv6
        have E20 : v6 = t ((fld hL1 37 42).toNat) := by rw [ev6]; refine Eq.trans ?_ (iL1_0.2.2 ((fld hL1 37 42).toNat) (by omega)); first | rfl | (congr 1; omega)
        refine zwW_p [(0, 32, 0)] (q := 22) (ls' := [(2, 37)]) (st' := [(0, 32), (0, v6)]) (by decide +kernel) rfl ?_
        refine zwic_eq (q := 39) (nx := 25) (by decide +kernel) (fun c7 => ?_) (fun c7 => ?_)
        · refine zwW_p [(1, 0, 2), (12, 0, 0)] (q := 41) (ls' := [(2, 37)]) (st' := [(2, 37), (2, 37)]) (by decide +kernel) rfl ?_
          refine zwW_gs IhL1 (kd := 13) (bn := 42) (n := 97) (t := 0) (lo := 0) (hi := 400) (nx := 44) (by decide +kernel) ?_
          intro v8 ev8 lv8 uv8
          refine zwW_p [(0, 1, 0)] (q := 45) (ls' := [(2, 37)]) (st' := [(0, 1), (0, v8), (2, 37)]) (by decide +kernel) rfl ?_
          refine zwW_add (nx := 46) (by decide +kernel) (by first | omega | exact ⟨by omega, by omega⟩) ?_
          refine zwW_ps IhL1 (kd := 13) (bn := 42) (n := 97) (lo := 0) (hi := 400) (nx := 49) (by decide +kernel) (by first | omega | exact ⟨by omega, by omega⟩) ?_
          intro h9 eh9 Ih9
          have th9_37_41 : fld h9 37 41 = fld hL1 37 41 := by rw [eh9]; exact fld_wr (by decide)
          have th9_37_42 : fld h9 37 42 = (v8 + 1) := by rw [eh9]; exact fld_wr_eq (IhL1.s (a1 := 37) (a2 := 37) (k := 13) (n := 97) (by decide +kernel) (by decide) (by decide)) (by decide)
          have th9_37_43 : fld h9 37 43 = fld hL1 37 43 := by rw [eh9]; exact fld_wr (by decide)
          have Bh9 : vB t n h9 := iL1_0.fr (zMR.one (a1 := 37) (a2 := 37) (j1 := 42) (j2 := 43) (by first | decide | exact ⟨by decide, by decide⟩) (by first | decide | exact ⟨by decide, by decide⟩) eh9) (by decide +kernel)
          have Rh9 : zMR msS2 h h9 := RhL1.w (a1 := 37) (a2 := 37) (j1 := 42) (j2 := 43) (by decide +kernel) (by first | decide | exact ⟨by decide, by decide⟩) (by first | decide | exact ⟨by decide, by decide⟩) eh9
          have PR0 : pRun pBla t n (fld h9 37 42).toNat = pRun pBla t n q := by rw [← iL1_2, show (fld h9 37 42).toNat = (fld hL1 37 42).toNat + 1 by omega]; exact (pRun_s (by omega) (pBla_t.mpr (by omega))).symm
          refine zwW_p [(24, 0, 0)] (q := 0) (ls' := [(2, 37)]) (st' := []) (by decide +kernel) rfl ?_
          exact IHL1 (fld h9 37 41 - fld h9 37 42).toNat (by omega) h9 rfl (Bh9) (by omega) (PR0) Ih9 Rh9
        · refine zwW_p [(1, 0, 2)] (q := 26) (ls' := [(2, 37)]) (st' := [(2, 37)]) (by decide +kernel) rfl ?_
          refine zwW_gc IhL1 (kd := 13) (bn := 40) (n := 97) (c := 98) (nx := 29) (by decide +kernel) ?_
          refine zwW_p [(1, 0, 2)] (q := 30) (ls' := [(2, 37)]) (st' := [(2, 37), (2, 98)]) (by decide +kernel) rfl ?_
          refine zwW_gs IhL1 (kd := 13) (bn := 42) (n := 97) (t := 0) (lo := 0) (hi := 400) (nx := 33) (by decide +kernel) ?_
          intro v10 ev10 lv10 uv10
          have ib2 : 0 ≤ v10 ∧ v10 < ((400 : Nat) : Int) := (by first | omega | exact ⟨by omega, by omega⟩)
          refine zwW_al IhL1 (a1 := 98) (a2 := 98) (kd := 21) (n := 400) (t := 0) (lo := -128) (hi := 127) (nx := 34) (by decide +kernel) (by first | decide | exact ⟨by decide, by decide⟩) ib2 ?_
          intro v11 ev11 lv11 uv11
          have E34 : v11 = t ((fld hL1 37 42).toNat) := by rw [ev11]; refine Eq.trans ?_ (iL1_0.2.2 ((fld hL1 37 42).toNat) (by omega)); first | rfl | (congr 1; omega)
          refine zwW_p [(0, 10, 0)] (q := 36) (ls' := [(2, 37)]) (st' := [(0, 10), (0, v11)]) (by decide +kernel) rfl ?_
          refine zwic_ne (q := 52) (nx := 39) (by decide +kernel) (fun c12 => ?_) (fun c12 => ?_)
          · have N52 : pSk t n q = (fld hL1 37 42).toNat := by unfold pSk; rw [← iL1_2]; exact pRun_e (fun z => by first | omega | (have w := pBla_t.mp z.2; omega))
            refine zwW_to (m200_pt hL1 IhL1 t n (pSk t n q) iL1_0 (by omega) (by omega)) ?_
            rintro r g ⟨er, Ig, RT, K⟩
            exact ⟨er, Ig, RhL1.tr RT (by decide +kernel), K⟩
          · refine zwW_p [(1, 0, 2), (12, 0, 0)] (q := 41) (ls' := [(2, 37)]) (st' := [(2, 37), (2, 37)]) (by decide +kernel) rfl ?_
            refine zwW_gs IhL1 (kd := 13) (bn := 42) (n := 97) (t := 0) (lo := 0) (hi := 400) (nx := 44) (by decide +kernel) ?_
            intro v13 ev13 lv13 uv13
            refine zwW_p [(0, 1, 0)] (q := 45) (ls' := [(2, 37)]) (st' := [(0, 1), (0, v13), (2, 37)]) (by decide +kernel) rfl ?_
            refine zwW_add (nx := 46) (by decide +kernel) (by first | omega | exact ⟨by omega, by omega⟩) ?_
            refine zwW_ps IhL1 (kd := 13) (bn := 42) (n := 97) (lo := 0) (hi := 400) (nx := 49) (by decide +kernel) (by first | omega | exact ⟨by omega, by omega⟩) ?_
            intro h14 eh14 Ih14
            have th14_37_41 : fld h14 37 41 = fld hL1 37 41 := by rw [eh14]; exact fld_wr (by decide)
            have th14_37_42 : fld h14 37 42 = (v13 + 1) := by rw [eh14]; exact fld_wr_eq (IhL1.s (a1 := 37) (a2 := 37) (k := 13) (n := 97) (by decide +kernel) (by decide) (by decide)) (by decide)
            have th14_37_43 : fld h14 37 43 = fld hL1 37 43 := by rw [eh14]; exact fld_wr (by decide)
            have Bh14 : vB t n h14 := iL1_0.fr (zMR.one (a1 := 37) (a2 := 37) (j1 := 42) (j2 := 43) (by first | decide | exact ⟨by decide, by decide⟩) (by first | decide | exact ⟨by decide, by decide⟩) eh14) (by decide +kernel)
            have Rh14 : zMR msS2 h h14 := RhL1.w (a1 := 37) (a2 := 37) (j1 := 42) (j2 := 43) (by decide +kernel) (by first | decide | exact ⟨by decide, by decide⟩) (by first | decide | exact ⟨by decide, by decide⟩) eh14
            have PR0 : pRun pBla t n (fld h14 37 42).toNat = pRun pBla t n q := by rw [← iL1_2, show (fld h14 37 42).toNat = (fld hL1 37 42).toNat + 1 by omega]; exact (pRun_s (by omega) (pBla_t.mpr (by omega))).symm
            refine zwW_p [(24, 0, 0)] (q := 0) (ls' := [(2, 37)]) (st' := []) (by decide +kernel) rfl ?_
            exact IHL1 (fld h14 37 41 - fld h14 37 42).toNat (by omega) h14 rfl (Bh14) (by omega) (PR0) Ih14 Rh14
  exact L1 _ h rfl (B) (by omega) (by rw [show (fld h 37 42).toNat = q by omega]) I R
def ms268_p : Zms := [(37, 37, 42, 44)]
-- WheelLandModel.goesOn()V
theorem m268_p {sc : List Int} (h : Hp) (I : zI h) (t : pT) (n : Nat) (p : Nat) (B : vB t n h) (K : mTk t n h p) : zwC sc 3 268 [(2, 37)] h (zwRv (fun g => zI g ∧ zMR ms268_p h g ∧ (mTk t n g (pNx t n p)))) := by
  refine zwC_of (D := 2) 1 (by decide +kernel) rfl (ls := [(2, 37)]) rfl ?_
  have R : zMR ms268_p h h := zMR.rf _ _
  have K3 := K.2.2
  have KE := pEn_b (t := t) K.2.1
  refine zwW_p [(1, 0, 2), (1, 0, 2)] (q := 2) (ls' := [(2, 37)]) (st' := [(2, 37), (2, 37)]) (by decide +kernel) rfl ?_
  refine zwW_gs I (kd := 13) (bn := 43) (n := 97) (t := 0) (lo := 0) (hi := 400) (nx := 5) (by decide +kernel) ?_
  intro v1 ev1 lv1 uv1
  refine zwW_ps I (kd := 13) (bn := 42) (n := 97) (lo := 0) (hi := 400) (nx := 8) (by decide +kernel) (by first | omega | exact ⟨by omega, by omega⟩) ?_
  intro h2 eh2 Ih2
  have th2_37_42 : fld h2 37 42 = v1 := by rw [eh2]; exact fld_wr_eq (I.s (a1 := 37) (a2 := 37) (k := 13) (n := 97) (by decide +kernel) (by decide) (by decide)) (by decide)
  have Bh2 : vB t n h2 := B.fr (zMR.one (a1 := 37) (a2 := 37) (j1 := 42) (j2 := 43) (by first | decide | exact ⟨by decide, by decide⟩) (by first | decide | exact ⟨by decide, by decide⟩) eh2) (by decide +kernel)
  have Rh2 : zMR ms268_p h h2 := R.w (a1 := 37) (a2 := 37) (j1 := 42) (j2 := 43) (by decide +kernel) (by first | decide | exact ⟨by decide, by decide⟩) (by first | decide | exact ⟨by decide, by decide⟩) eh2
  refine zwW_p [(1, 0, 2)] (q := 9) (ls' := [(2, 37)]) (st' := [(2, 37)]) (by decide +kernel) rfl ?_
  refine zwW_cmv Ih2 (op := 60) (k' := 200) (n := 0) (kd := 13) (m := 97) (nx := 12) (r := 37) (tl := []) (st' := []) (by decide +kernel) rfl (by decide +kernel) rfl (m200_p h2 Ih2 t n (pEn t n p) Bh2 (by omega) KE.2.1) ?_
  rintro h4 ⟨Ih4, Qh4, f3⟩
  have Rh4 : zMR ms268_p h h4 := Rh2.tr Qh4 (by decide +kernel)
  have Bh4 : vB t n h4 := Bh2.fr Qh4 (by decide +kernel)
  refine zwW_retv (nx := 13) (a := 0) (b := 0) (by decide +kernel) ?_
  exact ⟨Ih4, Rh4, by exact f3⟩
-- WheelLandModel.isSign(I)Z
theorem m250_p {sc : List Int} (h : Hp) (I : zI h) (a : Int) (t : pT) (n : Nat) (p : Nat) (B : vB t n h) (K : mTk t n h p) (hc : pSig a = true) : zwC sc 1 250 [(2, 37), (0, a)] h (zwRt 0 (fun x g => h = g ∧ ((x = 1 ∧ (pK t n p = a)) ∨ (x = 0 ∧ (pK t n p ≠ a))))) := by
  refine zwC_of (D := 0) 2 (by decide +kernel) rfl (ls := [(2, 37), (0, a)]) rfl ?_
  have K1 := K.1
  have B1 := B.1
  have B2 := B.2.1
  refine zwW_p [(1, 0, 2)] (q := 1) (ls' := [(2, 37), (0, a)]) (st' := [(2, 37)]) (by decide +kernel) rfl ?_
  refine zwW_gs I (kd := 13) (bn := 42) (n := 97) (t := 0) (lo := 0) (hi := 400) (nx := 4) (by decide +kernel) ?_
  intro v1 ev1 lv1 uv1
  refine zwW_p [(1, 0, 2)] (q := 5) (ls' := [(2, 37), (0, a)]) (st' := [(2, 37), (0, v1)]) (by decide +kernel) rfl ?_
  refine zwW_gs I (kd := 13) (bn := 41) (n := 97) (t := 0) (lo := 0) (hi := 400) (nx := 8) (by decide +kernel) ?_
  intro v2 ev2 lv2 uv2
  refine zwic_ge (q := 28) (nx := 11) (by decide +kernel) (fun c3 => ?_) (fun c3 => ?_)
  · refine zwW_p [(0, 0, 0)] (q := 29) (ls' := [(2, 37), (0, a)]) (st' := [(0, 0)]) (by decide +kernel) rfl ?_
    refine zwW_ret (nx := 30) (a := 1) (b := 0) (by decide +kernel) rfl (Or.inr (Or.inl ⟨rfl, Or.inl rfl⟩)) ?_
    exact ⟨rfl, Or.inr ⟨rfl, by intro z; have w := (pK_sg hc).mp z; omega⟩⟩
  · refine zwW_p [(1, 0, 2)] (q := 12) (ls' := [(2, 37), (0, a)]) (st' := [(2, 37)]) (by decide +kernel) rfl ?_
    refine zwW_gc I (kd := 13) (bn := 40) (n := 97) (c := 98) (nx := 15) (by decide +kernel) ?_
    refine zwW_p [(1, 0, 2)] (q := 16) (ls' := [(2, 37), (0, a)]) (st' := [(2, 37), (2, 98)]) (by decide +kernel) rfl ?_
    refine zwW_gs I (kd := 13) (bn := 42) (n := 97) (t := 0) (lo := 0) (hi := 400) (nx := 19) (by decide +kernel) ?_
    intro v4 ev4 lv4 uv4
    have ib1 : 0 ≤ v4 ∧ v4 < ((400 : Nat) : Int) := (by first | omega | exact ⟨by omega, by omega⟩)
    refine zwW_al I (a1 := 98) (a2 := 98) (kd := 21) (n := 400) (t := 0) (lo := -128) (hi := 127) (nx := 20) (by decide +kernel) (by first | decide | exact ⟨by decide, by decide⟩) ib1 ?_
    intro v5 ev5 lv5 uv5
    have E20 : v5 = t (p) := by rw [ev5]; refine Eq.trans ?_ (B.2.2 (p) (by omega)); first | rfl | (congr 1; omega)
    refine zwW_p [(1, 1, 0)] (q := 21) (ls' := [(2, 37), (0, a)]) (st' := [(0, a), (0, v5)]) (by decide +kernel) rfl ?_
    refine zwic_ne (q := 28) (nx := 24) (by decide +kernel) (fun c6 => ?_) (fun c6 => ?_)
    · refine zwW_p [(0, 0, 0)] (q := 29) (ls' := [(2, 37), (0, a)]) (st' := [(0, 0)]) (by decide +kernel) rfl ?_
      refine zwW_ret (nx := 30) (a := 1) (b := 0) (by decide +kernel) rfl (Or.inr (Or.inl ⟨rfl, Or.inl rfl⟩)) ?_
      exact ⟨rfl, Or.inr ⟨rfl, by intro z; have w := (pK_sg hc).mp z; omega⟩⟩
    · refine zwW_p [(0, 1, 0), (24, 29, 0)] (q := 29) (ls' := [(2, 37), (0, a)]) (st' := [(0, 1)]) (by decide +kernel) rfl ?_
      refine zwW_ret (nx := 30) (a := 1) (b := 0) (by decide +kernel) rfl (Or.inr (Or.inl ⟨rfl, Or.inr rfl⟩)) ?_
      exact ⟨rfl, Or.inl ⟨rfl, by exact (pK_sg hc).mpr (by first | omega | exact ⟨by omega, by omega⟩)⟩⟩
def ms267_p : Zms := [(37, 37, 44, 45)]
-- WheelLandModel.fails()Z
theorem m267_p {sc : List Int} (h : Hp) (I : zI h) (pf : fld h 37 44 = -1) : zwC sc 1 267 [(2, 37)] h (zwRt 0 (fun x g => zI g ∧ zMR ms267_p h g ∧ x = 0 ∧ (fld g 37 44 = fld h 37 42))) := by
  refine zwC_of (D := 0) 1 (by decide +kernel) rfl (ls := [(2, 37)]) rfl ?_
  have R : zMR ms267_p h h := zMR.rf _ _
  refine zwW_p [(1, 0, 2)] (q := 1) (ls' := [(2, 37)]) (st' := [(2, 37)]) (by decide +kernel) rfl ?_
  refine zwW_gs I (kd := 13) (bn := 44) (n := 97) (t := 0) (lo := -1) (hi := 400) (nx := 4) (by decide +kernel) ?_
  intro v1 ev1 lv1 uv1
  refine zwW_p [(0, -1, 0)] (q := 5) (ls' := [(2, 37)]) (st' := [(0, -1), (0, v1)]) (by decide +kernel) rfl ?_
  refine zwic_ne (q := 16) (nx := 8) (by decide +kernel) (fun c2 => ?_) (fun c2 => ?_)
  · refine zwW_p [(0, 0, 0)] (q := 17) (ls' := [(2, 37)]) (st' := [(0, 0)]) (by decide +kernel) rfl ?_
    refine zwW_ret (nx := 18) (a := 1) (b := 0) (by decide +kernel) rfl (Or.inr (Or.inl ⟨rfl, Or.inl rfl⟩)) ?_
    exact ⟨I, R, rfl, by omega⟩
  · refine zwW_p [(1, 0, 2), (1, 0, 2)] (q := 10) (ls' := [(2, 37)]) (st' := [(2, 37), (2, 37)]) (by decide +kernel) rfl ?_
    refine zwW_gs I (kd := 13) (bn := 42) (n := 97) (t := 0) (lo := 0) (hi := 400) (nx := 13) (by decide +kernel) ?_
    intro v3 ev3 lv3 uv3
    refine zwW_ps I (kd := 13) (bn := 44) (n := 97) (lo := -1) (hi := 400) (nx := 16) (by decide +kernel) (by first | omega | exact ⟨by omega, by omega⟩) ?_
    intro h4 eh4 Ih4
    have th4_37_42 : fld h4 37 42 = fld h 37 42 := by rw [eh4]; exact fld_wr (by decide)
    have th4_37_44 : fld h4 37 44 = v3 := by rw [eh4]; exact fld_wr_eq (I.s (a1 := 37) (a2 := 37) (k := 13) (n := 97) (by decide +kernel) (by decide) (by decide)) (by decide)
    have Rh4 : zMR ms267_p h h4 := R.w (a1 := 37) (a2 := 37) (j1 := 44) (j2 := 45) (by decide +kernel) (by first | decide | exact ⟨by decide, by decide⟩) (by first | decide | exact ⟨by decide, by decide⟩) eh4
    refine zwW_p [(0, 0, 0)] (q := 17) (ls' := [(2, 37)]) (st' := [(0, 0)]) (by decide +kernel) rfl ?_
    refine zwW_ret (nx := 18) (a := 1) (b := 0) (by decide +kernel) rfl (Or.inr (Or.inl ⟨rfl, Or.inl rfl⟩)) ?_
    exact ⟨Ih4, Rh4, rfl, by omega⟩
def ms247_p : Zms := [(37, 37, 42, 44), (37, 37, 44, 45)]
-- WheelLandModel.passes(Z)Z
theorem m247_p {sc : List Int} (h : Hp) (I : zI h) (a : Int) (t : pT) (n : Nat) (p : Nat) (B : vB t n h) (K : mTk t n h p) (pf : fld h 37 44 = -1) : zwC sc 4 247 [(2, 37), (0, a)] h (zwRt 0 (fun x g => zI g ∧ zMR ms247_p h g ∧ ((x = 1 ∧ (a ≠ 0) ∧ (mTk t n g (pNx t n p)) ∧ (fld g 37 44 = -1)) ∨ (x = 0 ∧ (a = 0) ∧ (fld g 37 44 = (p : Int)))))) := by
  refine zwC_of (D := 3) 2 (by decide +kernel) rfl (ls := [(2, 37), (0, a)]) rfl ?_
  have R : zMR ms247_p h h := zMR.rf _ _
  have K1 := K.1
  refine zwW_p [(1, 1, 0)] (q := 1) (ls' := [(2, 37), (0, a)]) (st' := [(0, a)]) (by decide +kernel) rfl ?_
  refine zwif_ne (q := 9) (nx := 4) (by decide +kernel) (fun c1 => ?_) (fun c1 => ?_)
  · refine zwW_p [(1, 0, 2)] (q := 10) (ls' := [(2, 37), (0, a)]) (st' := [(2, 37)]) (by decide +kernel) rfl ?_
    refine zwW_cmv I (op := 60) (k' := 268) (n := 0) (kd := 13) (m := 97) (nx := 13) (r := 37) (tl := []) (st' := []) (by decide +kernel) rfl (by decide +kernel) rfl (m268_p h I t n p B K) ?_
    rintro h3 ⟨Ih3, Qh3, f2⟩
    have Rh3 : zMR ms247_p h h3 := R.tr Qh3 (by decide +kernel)
    have th3_37_44 : fld h3 37 44 = fld h 37 44 := Qh3.f (a1 := 37) (a2 := 37) (j1 := 44) (j2 := 45) (by decide +kernel) (by first | decide | exact ⟨by decide, by decide⟩) (by first | decide | exact ⟨by decide, by decide⟩)
    refine zwW_p [(0, 1, 0)] (q := 14) (ls' := [(2, 37), (0, a)]) (st' := [(0, 1)]) (by decide +kernel) rfl ?_
    refine zwW_ret (nx := 15) (a := 1) (b := 0) (by decide +kernel) rfl (Or.inr (Or.inl ⟨rfl, Or.inr rfl⟩)) ?_
    exact ⟨Ih3, Rh3, Or.inl ⟨rfl, by omega, by exact f2, by omega⟩⟩
  · refine zwW_p [(1, 0, 2)] (q := 5) (ls' := [(2, 37), (0, a)]) (st' := [(2, 37)]) (by decide +kernel) rfl ?_
    refine zwW_cm I (op := 60) (k' := 267) (n := 0) (kd := 13) (m := 97) (nx := 8) (r := 37) (tl := []) (st' := []) (by decide +kernel) rfl (by decide +kernel) rfl (m267_p h I pf) ?_
    rintro x h5 ⟨Ih5, Qh5, rfl, f4⟩
    have Rh5 : zMR ms247_p h h5 := R.tr Qh5 (by decide +kernel)
    refine zwW_ret (nx := 9) (a := 1) (b := 0) (by decide +kernel) rfl (Or.inr (Or.inl ⟨rfl, by omega⟩)) ?_
    exact ⟨Ih5, Rh5, Or.inr ⟨rfl, by omega, by omega⟩⟩
-- WheelLandModel.isWord(Ljava/lang/String;)Z
theorem m246_p {sc : List Int} (h : Hp) (I : zI h) (w : Int) (t : pT) (n : Nat) (p : Nat) (hw : -33 < w ∧ w ≤ -12) (B : vB t n h) (K : mTk t n h p) : zwC sc 5 246 [(2, 37), (2, w)] h (zwRt 0 (fun x g => h = g ∧ ((x = 1 ∧ (pK t n p = 1 ∧ pV t n p = ((mWi w : Nat) : Int))) ∨ (x = 0 ∧ (¬ (pK t n p = 1 ∧ pV t n p = ((mWi w : Nat) : Int))))))) := by
  refine zwC_of (D := 4) 3 (by decide +kernel) rfl (ls := [(2, 37), (2, w), (9, 0)]) rfl ?_
  have K1 := K.1
  have K3 := K.2.2
  have B1 := B.1
  have B2 := B.2.1
  have ZW := mWi_at hw
  have KE := pEn_b (t := t) K.2.1
  refine zwW_p [(1, 0, 2)] (q := 1) (ls' := [(2, 37), (2, w), (9, 0)]) (st' := [(2, 37)]) (by decide +kernel) rfl ?_
  refine zwW_gs I (kd := 13) (bn := 43) (n := 97) (t := 0) (lo := 0) (hi := 400) (nx := 4) (by decide +kernel) ?_
  intro v1 ev1 lv1 uv1
  refine zwW_p [(1, 0, 2)] (q := 5) (ls' := [(2, 37), (2, w), (9, 0)]) (st' := [(2, 37), (0, v1)]) (by decide +kernel) rfl ?_
  refine zwW_gs I (kd := 13) (bn := 42) (n := 97) (t := 0) (lo := 0) (hi := 400) (nx := 8) (by decide +kernel) ?_
  intro v2 ev2 lv2 uv2
  refine zwW_sub (nx := 9) (by decide +kernel) (by first | omega | exact ⟨by omega, by omega⟩) ?_
  refine zwW_p [(1, 1, 2)] (q := 10) (ls' := [(2, 37), (2, w), (9, 0)]) (st' := [(2, w), (0, (v1 - v2))]) (by decide +kernel) rfl ?_
  refine zwW_cst (op := 60) (k' := 265) (n := 0) (nx := 13) (w := w) (tl := []) (st' := [(0, (v1 - v2))]) (by decide +kernel) rfl (by decide +kernel) (by first | omega | exact ⟨by omega, by omega⟩) rfl (m265 h w (by omega)) ?_
  rintro v3 _ ⟨rfl, f4, f5, f6⟩
  refine zwic_ne (q := 27) (nx := 16) (by decide +kernel) (fun c7 => ?_) (fun c7 => ?_)
  · refine zwW_p [(0, 0, 0)] (q := 28) (ls' := [(2, 37), (2, w), (9, 0)]) (st' := [(0, 0)]) (by decide +kernel) rfl ?_
    refine zwW_ret (nx := 29) (a := 1) (b := 0) (by decide +kernel) rfl (Or.inr (Or.inl ⟨rfl, Or.inl rfl⟩)) ?_
    exact ⟨rfl, Or.inr ⟨rfl, by intro z; have q := (pW_iff (t := t) ZW.2.1 K.2.1).mp z; rw [← ZW.1] at q; obtain ⟨q1, q2, q3⟩ := q; first | omega | (have q4 := (pEq_iff t _ p).mp q3 (0).toNat (by omega); omega)⟩⟩
  · refine zwW_p [(1, 0, 2)] (q := 17) (ls' := [(2, 37), (2, w), (9, 0)]) (st' := [(2, 37)]) (by decide +kernel) rfl ?_
    refine zwW_gs I (kd := 13) (bn := 42) (n := 97) (t := 0) (lo := 0) (hi := 400) (nx := 20) (by decide +kernel) ?_
    intro v8 ev8 lv8 uv8
    refine zwW_p [(1, 0, 2)] (q := 21) (ls' := [(2, 37), (2, w), (9, 0)]) (st' := [(2, 37), (0, v8)]) (by decide +kernel) rfl ?_
    refine zwW_gs I (kd := 13) (bn := 41) (n := 97) (t := 0) (lo := 0) (hi := 400) (nx := 24) (by decide +kernel) ?_
    intro v9 ev9 lv9 uv9
    refine zwic_ne (q := 29) (nx := 27) (by decide +kernel) (fun c10 => ?_) (fun c10 => ?_)
    · refine zwW_p [(0, 0, 0), (2, 2, 0)] (q := 31) (ls' := [(2, 37), (2, w), (0, 0)]) (st' := []) (by decide +kernel) rfl ?_
      have L11 : ∀ (n0 : Nat) (kL11 : Int), n0 = ((1000 - kL11)).toNat → (0 ≤ kL11 ∧ kL11 ≤ ((zby w).length : Int)) → (∀ j : Nat, (j : Int) < kL11 → t (p + j) = (zby w).getD j 0) → zwW sc (4) 246 31 [(2, 37), (2, w), (0, kL11)] [] h (zwRt 0 (fun x g => h = g ∧ ((x = 1 ∧ (pK t n p = 1 ∧ pV t n p = ((mWi w : Nat) : Int))) ∨ (x = 0 ∧ (¬ (pK t n p = 1 ∧ pV t n p = ((mWi w : Nat) : Int))))))) := by
        intro n0
        induction n0 using Nat.strongRecOn with
        | ind n0 IHL11 =>
          intro kL11 hnL11 iL11_0 iL11_1
          refine zwW_p [(1, 2, 0), (1, 1, 2)] (q := 33) (ls' := [(2, 37), (2, w), (0, kL11)]) (st' := [(2, w), (0, kL11)]) (by decide +kernel) rfl ?_
          refine zwW_cst (op := 60) (k' := 265) (n := 0) (nx := 36) (w := w) (tl := []) (st' := [(0, kL11)]) (by decide +kernel) rfl (by decide +kernel) (by first | omega | exact ⟨by omega, by omega⟩) rfl (m265 h w (by omega)) ?_
          rintro v12 _ ⟨rfl, f13, f14, f15⟩
          refine zwic_ge (q := 66) (nx := 39) (by decide +kernel) (fun c16 => ?_) (fun c16 => ?_)
          · refine zwW_p [(0, 1, 0)] (q := 67) (ls' := [(2, 37), (2, w), (0, kL11)]) (st' := [(0, 1)]) (by decide +kernel) rfl ?_
            refine zwW_ret (nx := 68) (a := 1) (b := 0) (by decide +kernel) rfl (Or.inr (Or.inl ⟨rfl, Or.inr rfl⟩)) ?_
            exact ⟨rfl, Or.inl ⟨rfl, by exact (pW_iff (t := t) ZW.2.1 K.2.1).mpr ⟨by rw [← ZW.1]; omega, by omega, by rw [← ZW.1]; exact (pEq_iff t _ p).mpr (fun j hj => iL11_1 j (by omega))⟩⟩⟩
          · refine zwW_p [(1, 0, 2)] (q := 40) (ls' := [(2, 37), (2, w), (0, kL11)]) (st' := [(2, 37)]) (by decide +kernel) rfl ?_
            refine zwW_gc I (kd := 13) (bn := 40) (n := 97) (c := 98) (nx := 43) (by decide +kernel) ?_
            refine zwW_p [(1, 0, 2)] (q := 44) (ls' := [(2, 37), (2, w), (0, kL11)]) (st' := [(2, 37), (2, 98)]) (by decide +kernel) rfl ?_
            refine zwW_gs I (kd := 13) (bn := 42) (n := 97) (t := 0) (lo := 0) (hi := 400) (nx := 47) (by decide +kernel) ?_
            intro v17 ev17 lv17 uv17
            refine zwW_p [(1, 2, 0)] (q := 48) (ls' := [(2, 37), (2, w), (0, kL11)]) (st' := [(0, kL11), (0, v17), (2, 98)]) (by decide +kernel) rfl ?_
            refine zwW_add (nx := 49) (by decide +kernel) (by first | omega | exact ⟨by omega, by omega⟩) ?_
            have ib1 : 0 ≤ (v17 + kL11) ∧ (v17 + kL11) < ((400 : Nat) : Int) := (by first | omega | exact ⟨by omega, by omega⟩)
            refine zwW_al I (a1 := 98) (a2 := 98) (kd := 21) (n := 400) (t := 0) (lo := -128) (hi := 127) (nx := 50) (by decide +kernel) (by first | decide | exact ⟨by decide, by decide⟩) ib1 ?_
            intro v18 ev18 lv18 uv18
            have E50 : v18 = t (p + (kL11).toNat) := by rw [ev18]; refine Eq.trans ?_ (B.2.2 (p + (kL11).toNat) (by omega)); first | rfl | (congr 1; omega)
            refine zwW_p [(1, 1, 2), (1, 2, 0)] (q := 52) (ls' := [(2, 37), (2, w), (0, kL11)]) (st' := [(0, kL11), (2, w), (0, v18)]) (by decide +kernel) rfl ?_
            refine zwW_cst (op := 60) (k' := 266) (n := 1) (nx := 55) (w := w) (tl := [(0, kL11)]) (st' := [(0, v18)]) (by decide +kernel) rfl (by decide +kernel) (by first | omega | exact ⟨by omega, by omega⟩) rfl (m266 h w kL11 (by omega) (by omega) (by omega) (by omega)) ?_
            rintro v19 _ ⟨rfl, f20, f21, f22⟩
            refine zwic_eq (q := 60) (nx := 58) (by decide +kernel) (fun c23 => ?_) (fun c23 => ?_)
            · refine zwW_inc (i := 2) (c := 1) (x := kL11) (nx := 63) (by decide +kernel) rfl (by first | omega | exact ⟨by omega, by omega⟩) (ls' := [(2, 37), (2, w), (0, (kL11 + 1))]) rfl ?_
              refine zwW_p [(24, 31, 0)] (q := 31) (ls' := [(2, 37), (2, w), (0, (kL11 + 1))]) (st' := []) (by decide +kernel) rfl ?_
              exact IHL11 ((1000 - (kL11 + 1))).toNat (by omega) (kL11 + 1) rfl (by omega) (fun j hj => by by_cases z : (j : Int) < kL11; exact iL11_1 j z; (rw [show j = (kL11).toNat by omega]; omega))
            · refine zwW_p [(0, 0, 0)] (q := 59) (ls' := [(2, 37), (2, w), (0, kL11)]) (st' := [(0, 0)]) (by decide +kernel) rfl ?_
              refine zwW_ret (nx := 60) (a := 1) (b := 0) (by decide +kernel) rfl (Or.inr (Or.inl ⟨rfl, Or.inl rfl⟩)) ?_
              exact ⟨rfl, Or.inr ⟨rfl, by intro z; have q := (pW_iff (t := t) ZW.2.1 K.2.1).mp z; rw [← ZW.1] at q; obtain ⟨q1, q2, q3⟩ := q; first | omega | (have q4 := (pEq_iff t _ p).mp q3 (kL11).toNat (by omega); omega)⟩⟩
      exact L11 _ 0 rfl (by omega) (fun j hj => by omega)
    · refine zwW_p [(0, 0, 0)] (q := 28) (ls' := [(2, 37), (2, w), (9, 0)]) (st' := [(0, 0)]) (by decide +kernel) rfl ?_
      refine zwW_ret (nx := 29) (a := 1) (b := 0) (by decide +kernel) rfl (Or.inr (Or.inl ⟨rfl, Or.inl rfl⟩)) ?_
      exact ⟨rfl, Or.inr ⟨rfl, by intro z; have q := (pW_iff (t := t) ZW.2.1 K.2.1).mp z; rw [← ZW.1] at q; obtain ⟨q1, q2, q3⟩ := q; first | omega | (have q4 := (pEq_iff t _ p).mp q3 (0).toNat (by omega); omega)⟩⟩
def ms296_p : Zms := [(37, 37, 46, 47)]
-- WheelLandModel.isNumber()Z
theorem m296_p {sc : List Int} (h : Hp) (I : zI h) (t : pT) (n : Nat) (p : Nat) (B : vB t n h) (K : mTk t n h p) : zwC sc 2 296 [(2, 37)] h (zwRt 0 (fun x g => zI g ∧ zMR ms296_p h g ∧ ((x = 1 ∧ (pK t n p = 2) ∧ (0 ≤ fld g 37 46 ∧ fld g 37 46 ≤ 999999 ∧ ((fld g 37 46 ≤ 9999 ∧ pV t n p = fld g 37 46) ∨ (9999 < fld g 37 46 ∧ pV t n p = 10000)))) ∨ (x = 0 ∧ (pK t n p ≠ 2))))) := by
  refine zwC_of (D := 1) 2 (by decide +kernel) rfl (ls := [(2, 37), (9, 0)]) rfl ?_
  have R : zMR ms296_p h h := zMR.rf _ _
  have K1 := K.1
  have K3 := K.2.2
  have B1 := B.1
  have B2 := B.2.1
  have KE := pEn_b (t := t) K.2.1
  refine zwW_p [(1, 0, 2)] (q := 1) (ls' := [(2, 37), (9, 0)]) (st' := [(2, 37)]) (by decide +kernel) rfl ?_
  refine zwW_gs I (kd := 13) (bn := 42) (n := 97) (t := 0) (lo := 0) (hi := 400) (nx := 4) (by decide +kernel) ?_
  intro v1 ev1 lv1 uv1
  refine zwW_p [(1, 0, 2)] (q := 5) (ls' := [(2, 37), (9, 0)]) (st' := [(2, 37), (0, v1)]) (by decide +kernel) rfl ?_
  refine zwW_gs I (kd := 13) (bn := 41) (n := 97) (t := 0) (lo := 0) (hi := 400) (nx := 8) (by decide +kernel) ?_
  intro v2 ev2 lv2 uv2
  refine zwic_eq (q := 26) (nx := 11) (by decide +kernel) (fun c3 => ?_) (fun c3 => ?_)
  · refine zwW_p [(0, 0, 0)] (q := 27) (ls' := [(2, 37), (9, 0)]) (st' := [(0, 0)]) (by decide +kernel) rfl ?_
    refine zwW_ret (nx := 28) (a := 1) (b := 0) (by decide +kernel) rfl (Or.inr (Or.inl ⟨rfl, Or.inl rfl⟩)) ?_
    exact ⟨I, R, Or.inr ⟨rfl, by intro z; have w := pK_dg.mp z; have y := pDig_t.mp w.2; omega⟩⟩
  · refine zwW_p [(1, 0, 2)] (q := 12) (ls' := [(2, 37), (9, 0)]) (st' := [(2, 37)]) (by decide +kernel) rfl ?_
    refine zwW_gc I (kd := 13) (bn := 40) (n := 97) (c := 98) (nx := 15) (by decide +kernel) ?_
    refine zwW_p [(1, 0, 2)] (q := 16) (ls' := [(2, 37), (9, 0)]) (st' := [(2, 37), (2, 98)]) (by decide +kernel) rfl ?_
    refine zwW_gs I (kd := 13) (bn := 42) (n := 97) (t := 0) (lo := 0) (hi := 400) (nx := 19) (by decide +kernel) ?_
    intro v4 ev4 lv4 uv4
    have ib1 : 0 ≤ v4 ∧ v4 < ((400 : Nat) : Int) := (by first | omega | exact ⟨by omega, by omega⟩)
    refine zwW_al I (a1 := 98) (a2 := 98) (kd := 21) (n := 400) (t := 0) (lo := -128) (hi := 127) (nx := 20) (by decide +kernel) (by first | decide | exact ⟨by decide, by decide⟩) ib1 ?_
    intro v5 ev5 lv5 uv5
    have E20 : v5 = t (p) := by rw [ev5]; refine Eq.trans ?_ (B.2.2 (p) (by omega)); first | rfl | (congr 1; omega)
    refine zwW_cs (k' := 245) (n := 1) (nx := 23) (as := [(0, v5)]) (st' := []) (by decide +kernel) rfl (m245 h v5) rfl ?_
    rintro x _ ⟨rfl, ⟨rfl, c6⟩ | ⟨rfl, c6⟩⟩
    · refine zwif_ne (q := 28) (nx := 26) (by decide +kernel) (fun c7 => ?_) (fun c7 => ?_)
      · have KD : pK t n p = 2 := pK_dg.mpr ⟨by omega, pDig_t.mpr (by omega)⟩
        have DG := mDg KD K.2.1
        refine zwW_p [(1, 0, 2), (0, 0, 0)] (q := 30) (ls' := [(2, 37), (9, 0)]) (st' := [(0, 0), (2, 37)]) (by decide +kernel) rfl ?_
        refine zwW_ps I (kd := 13) (bn := 46) (n := 97) (lo := -2147483648) (hi := 2147483647) (nx := 33) (by decide +kernel) (by first | decide | exact ⟨by decide, by decide⟩) ?_
        intro h8 eh8 Ih8
        have th8_37_41 : fld h8 37 41 = fld h 37 41 := by rw [eh8]; exact fld_wr (by decide)
        have th8_37_42 : fld h8 37 42 = fld h 37 42 := by rw [eh8]; exact fld_wr (by decide)
        have th8_37_43 : fld h8 37 43 = fld h 37 43 := by rw [eh8]; exact fld_wr (by decide)
        have th8_37_46 : fld h8 37 46 = 0 := by rw [eh8]; exact fld_wr_eq (I.s (a1 := 37) (a2 := 37) (k := 13) (n := 97) (by decide +kernel) (by decide) (by decide)) (by decide)
        have Bh8 : vB t n h8 := B.fr (zMR.one (a1 := 37) (a2 := 37) (j1 := 46) (j2 := 47) (by first | decide | exact ⟨by decide, by decide⟩) (by first | decide | exact ⟨by decide, by decide⟩) eh8) (by decide +kernel)
        have Rh8 : zMR ms296_p h h8 := R.w (a1 := 37) (a2 := 37) (j1 := 46) (j2 := 47) (by decide +kernel) (by first | decide | exact ⟨by decide, by decide⟩) (by first | decide | exact ⟨by decide, by decide⟩) eh8
        refine zwW_p [(1, 0, 2)] (q := 34) (ls' := [(2, 37), (9, 0)]) (st' := [(2, 37)]) (by decide +kernel) rfl ?_
        refine zwW_gs Ih8 (kd := 13) (bn := 42) (n := 97) (t := 0) (lo := 0) (hi := 400) (nx := 37) (by decide +kernel) ?_
        intro v9 ev9 lv9 uv9
        refine zwW_p [(2, 1, 0)] (q := 38) (ls' := [(2, 37), (0, v9)]) (st' := []) (by decide +kernel) rfl ?_
        have L10 : ∀ (n0 : Nat) (kL10 : Int) (hL10 : Hp), n0 = ((1000 - kL10)).toNat → (vB t n hL10) → (p ≤ kL10 ∧ kL10 ≤ fld hL10 37 43 ∧ fld hL10 37 42 = p ∧ fld hL10 37 43 = fld h 37 43 ∧ 0 ≤ fld hL10 37 46 ∧ fld hL10 37 46 ≤ 999999) → (fld hL10 37 46 = mNu t ((kL10).toNat - p) p 0) → zI hL10 → zMR ms296_p h hL10 → zwW sc (1) 296 38 [(2, 37), (0, kL10)] [] hL10 (zwRt 0 (fun x g => zI g ∧ zMR ms296_p h g ∧ ((x = 1 ∧ (pK t n p = 2) ∧ (0 ≤ fld g 37 46 ∧ fld g 37 46 ≤ 999999 ∧ ((fld g 37 46 ≤ 9999 ∧ pV t n p = fld g 37 46) ∨ (9999 < fld g 37 46 ∧ pV t n p = 10000)))) ∨ (x = 0 ∧ (pK t n p ≠ 2))))) := by
          intro n0
          induction n0 using Nat.strongRecOn with
          | ind n0 IHL10 =>
            intro kL10 hL10 hnL10 iL10_0 iL10_1 iL10_2 IhL10 RhL10
            have BL := iL10_0.1
            refine zwW_p [(1, 1, 0), (1, 0, 2)] (q := 40) (ls' := [(2, 37), (0, kL10)]) (st' := [(2, 37), (0, kL10)]) (by decide +kernel) rfl ?_
            refine zwW_gs IhL10 (kd := 13) (bn := 43) (n := 97) (t := 0) (lo := 0) (hi := 400) (nx := 43) (by decide +kernel) ?_
            intro v11 ev11 lv11 uv11
            refine zwic_ge (q := 89) (nx := 46) (by decide +kernel) (fun c12 => ?_) (fun c12 => ?_)
            · refine zwW_p [(0, 1, 0)] (q := 90) (ls' := [(2, 37), (0, kL10)]) (st' := [(0, 1)]) (by decide +kernel) rfl ?_
              refine zwW_ret (nx := 91) (a := 1) (b := 0) (by decide +kernel) rfl (Or.inr (Or.inl ⟨rfl, Or.inr rfl⟩)) ?_
              exact ⟨IhL10, RhL10, Or.inl ⟨rfl, by exact KD, by exact mVal KD K.2.1 (by rw [iL10_2, show (kL10).toNat - p = pEn t n p - p by omega])⟩⟩
            · refine zwW_p [(1, 0, 2), (1, 0, 2)] (q := 48) (ls' := [(2, 37), (0, kL10)]) (st' := [(2, 37), (2, 37)]) (by decide +kernel) rfl ?_
              refine zwW_gs IhL10 (kd := 13) (bn := 46) (n := 97) (t := 0) (lo := -2147483648) (hi := 2147483647) (nx := 51) (by decide +kernel) ?_
              intro v13 ev13 lv13 uv13
              refine zwW_p [(0, 99999, 0)] (q := 54) (ls' := [(2, 37), (0, kL10)]) (st' := [(0, 99999), (0, v13), (2, 37)]) (by decide +kernel) rfl ?_
              refine zwic_le (q := 63) (nx := 57) (by decide +kernel) (fun c14 => ?_) (fun c14 => ?_)
              · refine zwW_p [(0, 10, 0), (1, 0, 2)] (q := 66) (ls' := [(2, 37), (0, kL10)]) (st' := [(2, 37), (0, 10), (2, 37)]) (by decide +kernel) rfl ?_
                refine zwW_gs IhL10 (kd := 13) (bn := 46) (n := 97) (t := 0) (lo := -2147483648) (hi := 2147483647) (nx := 69) (by decide +kernel) ?_
                intro v15 ev15 lv15 uv15
                refine zwW_mul (nx := 70) (by decide +kernel) (by first | omega | exact ⟨by omega, by omega⟩) ?_
                refine zwW_p [(1, 0, 2)] (q := 71) (ls' := [(2, 37), (0, kL10)]) (st' := [(2, 37), (0, (10 * v15)), (2, 37)]) (by decide +kernel) rfl ?_
                refine zwW_gc IhL10 (kd := 13) (bn := 40) (n := 97) (c := 98) (nx := 74) (by decide +kernel) ?_
                refine zwW_p [(1, 1, 0)] (q := 75) (ls' := [(2, 37), (0, kL10)]) (st' := [(0, kL10), (2, 98), (0, (10 * v15)), (2, 37)]) (by decide +kernel) rfl ?_
                have ib2 : 0 ≤ kL10 ∧ kL10 < ((400 : Nat) : Int) := (by first | omega | exact ⟨by omega, by omega⟩)
                refine zwW_al IhL10 (a1 := 98) (a2 := 98) (kd := 21) (n := 400) (t := 0) (lo := -128) (hi := 127) (nx := 76) (by decide +kernel) (by first | decide | exact ⟨by decide, by decide⟩) ib2 ?_
                intro v16 ev16 lv16 uv16
                have E76 : v16 = t ((kL10).toNat) := by rw [ev16]; refine Eq.trans ?_ (iL10_0.2.2 ((kL10).toNat) (by omega)); first | rfl | (congr 1; omega)
                have D76 := DG (kL10).toNat (by omega) (by omega)
                refine zwW_add (nx := 77) (by decide +kernel) (by first | omega | exact ⟨by omega, by omega⟩) ?_
                refine zwW_p [(0, 48, 0)] (q := 79) (ls' := [(2, 37), (0, kL10)]) (st' := [(0, 48), (0, ((10 * v15) + v16)), (2, 37)]) (by decide +kernel) rfl ?_
                refine zwW_sub (nx := 80) (by decide +kernel) (by first | omega | exact ⟨by omega, by omega⟩) ?_
                refine zwW_ps IhL10 (kd := 13) (bn := 46) (n := 97) (lo := -2147483648) (hi := 2147483647) (nx := 83) (by decide +kernel) (by first | omega | exact ⟨by omega, by omega⟩) ?_
                intro h17 eh17 Ih17
                have th17_37_41 : fld h17 37 41 = fld hL10 37 41 := by rw [eh17]; exact fld_wr (by decide)
                have th17_37_42 : fld h17 37 42 = fld hL10 37 42 := by rw [eh17]; exact fld_wr (by decide)
                have th17_37_43 : fld h17 37 43 = fld hL10 37 43 := by rw [eh17]; exact fld_wr (by decide)
                have th17_37_46 : fld h17 37 46 = (((10 * v15) + v16) - 48) := by rw [eh17]; exact fld_wr_eq (IhL10.s (a1 := 37) (a2 := 37) (k := 13) (n := 97) (by decide +kernel) (by decide) (by decide)) (by decide)
                have Bh17 : vB t n h17 := iL10_0.fr (zMR.one (a1 := 37) (a2 := 37) (j1 := 46) (j2 := 47) (by first | decide | exact ⟨by decide, by decide⟩) (by first | decide | exact ⟨by decide, by decide⟩) eh17) (by decide +kernel)
                have Rh17 : zMR ms296_p h h17 := RhL10.w (a1 := 37) (a2 := 37) (j1 := 46) (j2 := 47) (by decide +kernel) (by first | decide | exact ⟨by decide, by decide⟩) (by first | decide | exact ⟨by decide, by decide⟩) eh17
                have VN : fld h17 37 46 = mNu t ((kL10).toNat + 1 - p) p 0 := by rw [show (kL10).toNat + 1 - p = ((kL10).toNat - p) + 1 by omega, mNu_s, ← iL10_2, show p + ((kL10).toNat - p) = (kL10).toNat by omega]; first | (rw [if_pos (by omega)]; omega) | (rw [if_neg (by omega)]; omega)
                refine zwW_inc (i := 1) (c := 1) (x := kL10) (nx := 86) (by decide +kernel) rfl (by first | omega | exact ⟨by omega, by omega⟩) (ls' := [(2, 37), (0, (kL10 + 1))]) rfl ?_
                refine zwW_p [(24, 38, 0)] (q := 38) (ls' := [(2, 37), (0, (kL10 + 1))]) (st' := []) (by decide +kernel) rfl ?_
                exact IHL10 ((1000 - (kL10 + 1))).toNat (by omega) (kL10 + 1) h17 rfl (Bh17) (by omega) (by rw [show (kL10 + 1).toNat - p = (kL10).toNat + 1 - p by omega]; exact VN) Ih17 Rh17
              · refine zwW_p [(0, 999999, 0), (24, 80, 0)] (q := 80) (ls' := [(2, 37), (0, kL10)]) (st' := [(0, 999999), (2, 37)]) (by decide +kernel) rfl ?_
                refine zwW_ps IhL10 (kd := 13) (bn := 46) (n := 97) (lo := -2147483648) (hi := 2147483647) (nx := 83) (by decide +kernel) (by first | decide | exact ⟨by decide, by decide⟩) ?_
                intro h18 eh18 Ih18
                have th18_37_41 : fld h18 37 41 = fld hL10 37 41 := by rw [eh18]; exact fld_wr (by decide)
                have th18_37_42 : fld h18 37 42 = fld hL10 37 42 := by rw [eh18]; exact fld_wr (by decide)
                have th18_37_43 : fld h18 37 43 = fld hL10 37 43 := by rw [eh18]; exact fld_wr (by decide)
                have th18_37_46 : fld h18 37 46 = 999999 := by rw [eh18]; exact fld_wr_eq (IhL10.s (a1 := 37) (a2 := 37) (k := 13) (n := 97) (by decide +kernel) (by decide) (by decide)) (by decide)
                have Bh18 : vB t n h18 := iL10_0.fr (zMR.one (a1 := 37) (a2 := 37) (j1 := 46) (j2 := 47) (by first | decide | exact ⟨by decide, by decide⟩) (by first | decide | exact ⟨by decide, by decide⟩) eh18) (by decide +kernel)
                have Rh18 : zMR ms296_p h h18 := RhL10.w (a1 := 37) (a2 := 37) (j1 := 46) (j2 := 47) (by decide +kernel) (by first | decide | exact ⟨by decide, by decide⟩) (by first | decide | exact ⟨by decide, by decide⟩) eh18
                have VN : fld h18 37 46 = mNu t ((kL10).toNat + 1 - p) p 0 := by rw [show (kL10).toNat + 1 - p = ((kL10).toNat - p) + 1 by omega, mNu_s, ← iL10_2, show p + ((kL10).toNat - p) = (kL10).toNat by omega]; first | (rw [if_pos (by omega)]; omega) | (rw [if_neg (by omega)]; omega)
                refine zwW_inc (i := 1) (c := 1) (x := kL10) (nx := 86) (by decide +kernel) rfl (by first | omega | exact ⟨by omega, by omega⟩) (ls' := [(2, 37), (0, (kL10 + 1))]) rfl ?_
                refine zwW_p [(24, 38, 0)] (q := 38) (ls' := [(2, 37), (0, (kL10 + 1))]) (st' := []) (by decide +kernel) rfl ?_
                exact IHL10 ((1000 - (kL10 + 1))).toNat (by omega) (kL10 + 1) h18 rfl (Bh18) (by omega) (by rw [show (kL10 + 1).toNat - p = (kL10).toNat + 1 - p by omega]; exact VN) Ih18 Rh18
        exact L10 _ v9 h8 rfl (Bh8) (by omega) (mNu_0 (by omega) (by omega)) Ih8 Rh8
      · exfalso; omega
    · refine zwif_ne (q := 28) (nx := 26) (by decide +kernel) (fun c19 => ?_) (fun c19 => ?_)
      · exfalso; omega
      · refine zwW_p [(0, 0, 0)] (q := 27) (ls' := [(2, 37), (9, 0)]) (st' := [(0, 0)]) (by decide +kernel) rfl ?_
        refine zwW_ret (nx := 28) (a := 1) (b := 0) (by decide +kernel) rfl (Or.inr (Or.inl ⟨rfl, Or.inl rfl⟩)) ?_
        exact ⟨I, R, Or.inr ⟨rfl, by intro z; have w := pK_dg.mp z; have y := pDig_t.mp w.2; omega⟩⟩
end
