/-! the class's reader and the pure reading -/
section RD
variable {h g h1 : Hp} {t : pT} {n p q m k i : Nat} {s u : pQ} {x v o1 o2 w : Int} {ms : Zms} {c z : Int} {f : pQ → pR} {T r : pR}
/-- the bytes are t, n of them -/
def rB (t : pT) (n : Nat) (h : Hp) : Prop := fld h 9 0 = (n : Int) ∧ n ≤ 400 ∧ ∀ i : Nat, i < n → (0 ≤ fld h 10 i ∧ fld h 10 i ≤ 255) ∧ t i = i_byt (fld h 10 i)
theorem rB.fr (B : rB t n h) (R : zXR ms c z h g) (e : (zqN ms 9 9 0 1 && zqN ms 10 10 0 400) = true) : rB t n g := by
  rw [Bool.and_eq_true] at e
  obtain ⟨b1, b2, b3⟩ := B
  have q1 : fld g 9 0 = fld h 9 0 := R.f e.1 ⟨by decide, by decide⟩ ⟨by decide, by decide⟩ ⟨by decide, by decide⟩
  refine ⟨q1.trans b1, b2, fun i hi => ?_⟩
  have q2 : fld g 10 i = fld h 10 i := R.f e.2 ⟨by decide, by decide⟩ ⟨by omega, by omega⟩ ⟨by decide, by decide⟩
  rw [q2]
  exact b3 i hi
theorem rB.bl (B : rB t n h) (hi : i < n) : (t i = fld h 10 i ∧ fld h 10 i ≤ 127 ∧ 0 ≤ fld h 10 i) ∨ (t i < 0 ∧ 128 ≤ fld h 10 i ∧ fld h 10 i ≤ 255) := by
  obtain ⟨⟨b1, b2⟩, b3⟩ := B.2.2 i hi
  unfold i_byt at b3
  omega
theorem rB.let (B : rB t n h) (hi : i < n) : pLet (t i) = true ↔ 97 ≤ fld h 10 i ∧ fld h 10 i ≤ 122 := by
  have q := B.bl hi
  rw [pLet_t]
  constructor <;> intro z <;> omega
theorem rB.dig (B : rB t n h) (hi : i < n) : pDig (t i) = true ↔ 48 ≤ fld h 10 i ∧ fld h 10 i ≤ 57 := by
  have q := B.bl hi
  rw [pDig_t]
  constructor <;> intro z <;> omega
theorem rB.bla (B : rB t n h) (hi : i < n) : pBla (t i) = true ↔ fld h 10 i = 32 ∨ fld h 10 i = 10 := by
  have q := B.bl hi
  rw [pBla_t]
  constructor <;> intro z <;> omega
theorem pNu_s (t : pT) : ∀ (f p : Nat) (v : Int), pNu t (f + 1) p v = min (pNu t f p v * 10 + t (p + f) - 48) 10000
  | 0, p, v => rfl
  | f + 1, p, v => by
    show pNu t (f + 1) (p + 1) (min (v * 10 + t p - 48) 10000) = _
    rw [pNu_s t f (p + 1) _, show p + 1 + f = p + (f + 1) by omega]
    rfl
/-- the token at p is the one that is looked at -/
def rTok (t : pT) (n : Nat) (h : Hp) (p : Nat) : Prop := fld h 9 3 = (p : Int) ∧ p ≤ n ∧ fld h 9 2 = ((pEn t n p : Nat) : Int) ∧ fld h 9 4 = pK t n p ∧ (pK t n p = 1 ∨ pK t n p = 2 → fld h 9 5 = pV t n p)
theorem rTok.fr (K : rTok t n h p) (R : zXR ms c z h g) (e : zqN ms 9 9 2 6 = true) : rTok t n g p := by
  obtain ⟨k1, k2, k3, k4, k5⟩ := K
  have q2 : fld g 9 2 = fld h 9 2 := R.f e ⟨by decide, by decide⟩ ⟨by decide, by decide⟩ ⟨by decide, by decide⟩
  have q3 : fld g 9 3 = fld h 9 3 := R.f e ⟨by decide, by decide⟩ ⟨by decide, by decide⟩ ⟨by decide, by decide⟩
  have q4 : fld g 9 4 = fld h 9 4 := R.f e ⟨by decide, by decide⟩ ⟨by decide, by decide⟩ ⟨by decide, by decide⟩
  have q5 : fld g 9 5 = fld h 9 5 := R.f e ⟨by decide, by decide⟩ ⟨by decide, by decide⟩ ⟨by decide, by decide⟩
  exact ⟨q3.trans k1, k2, q2.trans k3, q4.trans k4, fun z => q5.trans (k5 z)⟩
/-- what the reader holds: a token, so many codes, the codes -/
def rQ (t : pT) (n : Nat) (h : Hp) (s : pQ) : Prop := rTok t n h s.1 ∧ fld h 9 6 = ((s.2.1 : Nat) : Int) ∧ fld h 11 = s.2.2
theorem rQ.kd (Q : rQ t n h s) : fld h 9 4 = pK t n s.1 := Q.1.2.2.2.1
theorem rQ.vl (Q : rQ t n h s) (k : pK t n s.1 = 1 ∨ pK t n s.1 = 2) : fld h 9 5 = pV t n s.1 := Q.1.2.2.2.2 k
theorem rQ.wt (Q : rQ t n h s) (R : zXR ms c z h g) (e : zqN ms 9 9 2 6 = true) (hk : fld g 11 = zu (fld h 11) k x) (e1 : (k : Int) = fld h 9 6) (e2 : fld g 9 6 = fld h 9 6 + 1) : rQ t n g (pW x s) := by
  obtain ⟨q1, q2, q3⟩ := Q
  refine ⟨q1.fr R e, ?_, ?_⟩
  · show fld g 9 6 = ((s.2.1 + 1 : Nat) : Int)
    omega
  · show fld g 11 = zu s.2.2 s.2.1 x
    rw [hk, q3, show k = s.2.1 by omega]
/-- there is room for what is written -/
def rW (n : Nat) (s : pQ) : Prop := s.2.1 ≤ s.1 ∧ s.1 ≤ n
def rV (n : Nat) (s : pQ) : Prop := s.2.1 < s.1 ∧ s.1 ≤ n
theorem rV.wk (V : rV n s) : rW n s := ⟨Nat.le_of_lt V.1, V.2⟩
theorem rV.pw (V : rV n s) : rW n (pW x s) := ⟨V.1, V.2⟩
theorem rV.lt (V : rV n s) (B : rB t n h) (Q : rQ t n h s) : fld h 9 6 < 400 := by
  have a := B.2.1
  have b := Q.2.1
  obtain ⟨v1, v2⟩ := V
  omega
theorem rW.lt (W : rW n s) (B : rB t n h) (Q : rQ t n h s) (k : pK t n s.1 ≠ 0) : fld h 9 6 < 400 := by
  have a := B.2.1
  have b := Q.2.1
  have d := pK_lt k
  obtain ⟨v1, v2⟩ := W
  omega
theorem rW.a (W : rW n s) (k : pK t n s.1 ≠ 0) : rV n (pA t n s) := by
  obtain ⟨v1, v2⟩ := W
  have d := pK_lt k
  have b := pNx_b (t := t) v2
  exact ⟨show s.2.1 < pNx t n s.1 by omega, b.2.1⟩
theorem rW.fn (W : rW n s) (H : pG n f) : rW n (f s).2 := by
  obtain ⟨v1, v2⟩ := W
  have b := H s v2
  exact ⟨by omega, b.2.1⟩
theorem rV.fn (V : rV n s) (H : pG n f) : rV n (f s).2 := by
  obtain ⟨v1, v2⟩ := V
  have b := H s v2
  exact ⟨by omega, b.2.1⟩
/-- an answer and what it leaves -/
def rR (t : pT) (n : Nat) (g : Hp) (x : Int) (r : pR) : Prop := rQ t n g r.2 ∧ ((x = 1 ∧ r.1 = true) ∨ (x = 0 ∧ r.1 = false))
theorem rR_t (Q : rQ t n g s) : rR t n g 1 (true, s) := ⟨Q, Or.inl ⟨rfl, rfl⟩⟩
theorem rR_f (Q : rQ t n g s) : rR t n g 0 (false, s) := ⟨Q, Or.inr ⟨rfl, rfl⟩⟩
theorem rR.ze (R : rR t n g x r) (e : x = 0) : rR t n g 0 r := e ▸ R
theorem rR.b1 (R : rR t n g x r) (e : x ≠ 0) : r.1 = true := by
  rcases R.2 with ⟨_, z⟩ | ⟨z, _⟩
  · exact z
  · exact absurd z e
theorem rR.b0 (R : rR t n g x r) (e : x = 0) : ¬ (r.1 = true) := by
  rcases R.2 with ⟨z, _⟩ | ⟨_, z⟩
  · omega
  · rw [z]; exact Bool.false_ne_true
/-! the ways through a part of the grammar -/
variable {o : Bool} {sub hol eit sum : pQ → pR}
theorem pFac_num (h1 : pK t n s.1 = 2) (h2 : pV t n s.1 ≤ 9999) : pFac t n o sub s = (true, pA t n (pW (pV t n s.1) s)) := by
  unfold pFac
  rw [if_pos ⟨h1, h2⟩]
theorem pFac_wd (h1 : pK t n s.1 = 1) (h2 : 0 ≤ pV t n s.1 ∧ pV t n s.1 ≤ 12) : pFac t n o sub s = (true, pA t n (pW (-1 - pV t n s.1) s)) := by
  unfold pFac
  rw [if_neg (by omega), if_pos ⟨h1, h2.1, h2.2⟩]
theorem pFac_par (h0 : o = true) (h1 : pK t n s.1 = 40) (h2 : (sub (pA t n s)).1 = true) (h3 : pK t n (sub (pA t n s)).2.1 = 41) : pFac t n o sub s = (true, pA t n (sub (pA t n s)).2) := by
  unfold pFac
  rw [if_neg (by omega), if_neg (by omega), if_pos ⟨h0, h1⟩, if_pos h2, if_pos h3]
theorem pFac_pn (h0 : o = true) (h1 : pK t n s.1 = 40) (h2 : (sub (pA t n s)).1 = true) (h3 : pK t n (sub (pA t n s)).2.1 ≠ 41) : pFac t n o sub s = (false, (sub (pA t n s)).2) := by
  unfold pFac
  rw [if_neg (by omega), if_neg (by omega), if_pos ⟨h0, h1⟩, if_pos h2, if_neg h3]
theorem pFac_pf (h0 : o = true) (h1 : pK t n s.1 = 40) (h2 : ¬ (sub (pA t n s)).1 = true) : pFac t n o sub s = sub (pA t n s) := by
  unfold pFac
  rw [if_neg (by omega), if_neg (by omega), if_pos ⟨h0, h1⟩, if_neg h2]
theorem pFac_no (h1 : ¬ (pK t n s.1 = 2 ∧ pV t n s.1 ≤ 9999)) (h2 : ¬ (pK t n s.1 = 1 ∧ 0 ≤ pV t n s.1 ∧ pV t n s.1 ≤ 12)) (h3 : ¬ (o = true ∧ pK t n s.1 = 40)) : pFac t n o sub s = (false, s) := by
  unfold pFac
  rw [if_neg h1, if_neg h2, if_neg h3]
theorem pHol_n1 (h1 : pK t n s.1 = 1) (h2 : pV t n s.1 = 20) (h0 : o = true) (h3 : (hol (pA t n s)).1 = true) : pHol t n o hol eit sum s = (true, pW (-20) (hol (pA t n s)).2) := by
  unfold pHol
  rw [if_pos ⟨h1, h2⟩, if_pos h0, if_pos h3]
theorem pHol_n0 (h1 : pK t n s.1 = 1) (h2 : pV t n s.1 = 20) (h0 : o = true) (h3 : ¬ (hol (pA t n s)).1 = true) : pHol t n o hol eit sum s = hol (pA t n s) := by
  unfold pHol
  rw [if_pos ⟨h1, h2⟩, if_pos h0, if_neg h3]
theorem pHol_nd (h1 : pK t n s.1 = 1) (h2 : pV t n s.1 = 20) (h0 : ¬ o = true) : pHol t n o hol eit sum s = (false, s) := by
  unfold pHol
  rw [if_pos ⟨h1, h2⟩, if_neg h0]
theorem pHol_b1 (h1 : pK t n s.1 = 91) (h0 : o = true) (h3 : (eit (pA t n s)).1 = true) (h4 : pK t n (eit (pA t n s)).2.1 = 93) : pHol t n o hol eit sum s = (true, pA t n (eit (pA t n s)).2) := by
  unfold pHol
  rw [if_neg (by omega), if_pos h1, if_pos h0, if_pos h3, if_pos h4]
theorem pHol_bn (h1 : pK t n s.1 = 91) (h0 : o = true) (h3 : (eit (pA t n s)).1 = true) (h4 : pK t n (eit (pA t n s)).2.1 ≠ 93) : pHol t n o hol eit sum s = (false, (eit (pA t n s)).2) := by
  unfold pHol
  rw [if_neg (by omega), if_pos h1, if_pos h0, if_pos h3, if_neg h4]
theorem pHol_b0 (h1 : pK t n s.1 = 91) (h0 : o = true) (h3 : ¬ (eit (pA t n s)).1 = true) : pHol t n o hol eit sum s = eit (pA t n s) := by
  unfold pHol
  rw [if_neg (by omega), if_pos h1, if_pos h0, if_neg h3]
theorem pHol_bd (h1 : pK t n s.1 = 91) (h0 : ¬ o = true) : pHol t n o hol eit sum s = (false, s) := by
  unfold pHol
  rw [if_neg (by omega), if_pos h1, if_neg h0]
theorem pHol_s0 (h1 : ¬ (pK t n s.1 = 1 ∧ pV t n s.1 = 20)) (h2 : pK t n s.1 ≠ 91) (h3 : ¬ (sum s).1 = true) : pHol t n o hol eit sum s = sum s := by
  unfold pHol
  rw [if_neg h1, if_neg h2, if_neg h3]
theorem pHol_sn (h1 : ¬ (pK t n s.1 = 1 ∧ pV t n s.1 = 20)) (h2 : pK t n s.1 ≠ 91) (h3 : (sum s).1 = true) (h4 : ¬ (pK t n (sum s).2.1 = 60 ∨ pK t n (sum s).2.1 = 62 ∨ pK t n (sum s).2.1 = 61)) : pHol t n o hol eit sum s = (false, (sum s).2) := by
  unfold pHol
  rw [if_neg h1, if_neg h2, if_pos h3, if_neg h4]
theorem pHol_s1 (h1 : ¬ (pK t n s.1 = 1 ∧ pV t n s.1 = 20)) (h2 : pK t n s.1 ≠ 91) (h3 : (sum s).1 = true) (h4 : pK t n (sum s).2.1 = 60 ∨ pK t n (sum s).2.1 = 62 ∨ pK t n (sum s).2.1 = 61) (h5 : (sum (pA t n (sum s).2)).1 = true) : pHol t n o hol eit sum s = (true, pW (-(pK t n (sum s).2.1)) (sum (pA t n (sum s).2)).2) := by
  unfold pHol
  rw [if_neg h1, if_neg h2, if_pos h3, if_pos h4, if_pos h5]
theorem pHol_s2 (h1 : ¬ (pK t n s.1 = 1 ∧ pV t n s.1 = 20)) (h2 : pK t n s.1 ≠ 91) (h3 : (sum s).1 = true) (h4 : pK t n (sum s).2.1 = 60 ∨ pK t n (sum s).2.1 = 62 ∨ pK t n (sum s).2.1 = 61) (h5 : ¬ (sum (pA t n (sum s).2)).1 = true) : pHol t n o hol eit sum s = sum (pA t n (sum s).2) := by
  unfold pHol
  rw [if_neg h1, if_neg h2, if_pos h3, if_pos h4, if_neg h5]
/-! loops -/
def rL (t : pT) (n : Nat) (h : Hp) (x : Int) (m : Nat) (F : Nat → pQ → pR) (T : pR) : Prop := ∃ q : pQ, rQ t n h q ∧ rW n q ∧ ((x = 1 ∧ T = F m q) ∨ (x = 0 ∧ T = (false, q)))
theorem pR_f {r : pR} (h : r.1 = false) : r = (false, r.2) := by rw [← h]
theorem rL_0 {F : Nat → pQ → pR} (R : rR t n g x (f s)) (W : rW n (f s).2) : rL t n g x m F (if (f s).1 = true then F m (f s).2 else f s) := by
  refine ⟨(f s).2, R.1, W, ?_⟩
  rcases R.2 with ⟨a, b⟩ | ⟨a, b⟩
  · exact Or.inl ⟨a, if_pos b⟩
  · refine Or.inr ⟨a, ?_⟩
    rw [b, if_neg (by decide)]
    exact pR_f b
theorem rL_t {F : Nat → pQ → pR} (Q : rQ t n g s) (W : rW n s) (e : T = F m s) : rL t n g 1 m F T := ⟨s, Q, W, Or.inl ⟨rfl, e⟩⟩
theorem rL_f {F : Nat → pQ → pR} (Q : rQ t n g s) (W : rW n s) (e : T = (false, s)) : rL t n g 0 m F T := ⟨s, Q, W, Or.inr ⟨rfl, e⟩⟩
theorem rL_x {F : Nat → pQ → pR} (Q : rQ t n h s) (O : (x = 1 ∧ T = F m s) ∨ (x = 0 ∧ T = (false, s))) (e : x = 0 ∨ F m s = (true, s)) : rR t n h x T := by
  rcases O with ⟨a, b⟩ | ⟨a, b⟩
  · rcases e with e | e
    · omega
    · rw [b, e, a]
      exact rR_t Q
  · rw [b, a]
    exact rR_f Q
theorem pLp_z (e : m = 0 ∨ ¬ (pK t n s.1 = o1 ∨ pK t n s.1 = o2)) : pLp t n o1 o2 f m s = (true, s) := by
  cases m with
  | zero => rfl
  | succ m =>
    unfold pLp
    rw [if_neg (by omega)]
theorem pLp_n (e : m = k + 1) (h1 : pK t n s.1 = o1 ∨ pK t n s.1 = o2) (h2 : (f (pA t n s)).1 = true) (hv : v = pK t n s.1) : pLp t n o1 o2 f m s = pLp t n o1 o2 f k (pW (-v) (f (pA t n s)).2) := by
  subst e hv
  show (if _ then _ else _) = _
  rw [if_pos h1, if_pos h2]
theorem pLp_f (e : m = k + 1) (h1 : pK t n s.1 = o1 ∨ pK t n s.1 = o2) (h2 : ¬ (f (pA t n s)).1 = true) : pLp t n o1 o2 f m s = (false, (f (pA t n s)).2) := by
  subst e
  show (if _ then _ else _) = _
  rw [if_pos h1, if_neg h2]
  exact pR_f (by revert h2; cases (f (pA t n s)).1 <;> simp)
theorem pLw_z (e : m = 0 ∨ ¬ (pK t n s.1 = 1 ∧ pV t n s.1 = w)) : pLw t n w f m s = (true, s) := by
  cases m with
  | zero => rfl
  | succ m =>
    unfold pLw
    rw [if_neg (by omega)]
theorem pLw_n (e : m = k + 1) (h1 : pK t n s.1 = 1 ∧ pV t n s.1 = w) (h2 : (f (pA t n s)).1 = true) : pLw t n w f m s = pLw t n w f k (pW (-w) (f (pA t n s)).2) := by
  subst e
  show (if _ then _ else _) = _
  rw [if_pos h1, if_pos h2]
theorem pLw_f (e : m = k + 1) (h1 : pK t n s.1 = 1 ∧ pV t n s.1 = w) (h2 : ¬ (f (pA t n s)).1 = true) : pLw t n w f m s = (false, (f (pA t n s)).2) := by
  subst e
  show (if _ then _ else _) = _
  rw [if_pos h1, if_neg h2]
  exact pR_f (by revert h2; cases (f (pA t n s)).1 <;> simp)
theorem x_one {T : pR} {F : Nat → pQ → pR} (O : (x = 1 ∧ T = F m s) ∨ (x = 0 ∧ T = (false, s))) (e : x ≠ 0) : T = F m s := by
  rcases O with ⟨_, b⟩ | ⟨a, _⟩
  · exact b
  · exact absurd a e
/-- a part of the grammar, by its depth -/
def msxA9 : Zms := [(9, 9, 2, 6)]
def rX (sc : List Int) (D y : Nat) (a : Int) (F : pT → Nat → pQ → pR) : Prop := ∀ h : Hp, CI h → ∀ (t : pT) (n : Nat) (s : pQ), rB t n h → rQ t n h s → rW n s → zwC sc D y [(2, 9), (0, a)] h (zwRt 0 (fun x g => CI g ∧ zXR msxK (0) (0) h g ∧ (0 ≤ x ∧ x ≤ 1) ∧ rR t n g x (F t n s)))
theorem rX.up {sc : List Int} {D D' y : Nat} {a : Int} {F : pT → Nat → pQ → pR} (hD : D ≤ D') (H : rX sc D y a F) : rX sc D' y a F := fun h C t n s B Q W => zwC_up hD (H h C t n s B Q W)
/-! words -/
def rWd : List Int := zby (-10)
theorem rWd_len : (zby (-10)).length = 114 := by decide +kernel
/-- how many words end ahead of k, and where the word at k begins -/
def rNo (k : Nat) : Nat := ((zby (-10)).take k).count 32
def rSt (k : Nat) : Nat := ((List.range k).filter (fun j => (zby (-10)).getD j 0 == 32)).foldl (fun _ j => j + 1) 0
def rWs (k : Nat) : List Int := pWs.getD (rNo k) []
theorem rWd_ok : (List.range 114).all (fun k => ((zby (-10)).getD k 0 == 32) == (decide (k = rSt k + (rWs k).length)) && (decide (rSt k ≤ k) && (decide (rNo k < 21) && (decide (rNo (k + 1) = rNo k + (if (zby (-10)).getD k 0 = 32 then 1 else 0)) && (decide (rSt (k + 1) = (if (zby (-10)).getD k 0 = 32 then k + 1 else rSt k)) && (decide (k ≤ rSt k + (rWs k).length) && (List.range (rWs k).length).all (fun j => (zby (-10)).getD (rSt k + j) 0 == (rWs k).getD j 0 && (decide (97 ≤ (rWs k).getD j 0) && (decide ((rWs k).getD j 0 ≤ 122) && decide (rSt k + j < 114)))))))))) = true := by decide +kernel
theorem rWd_end : rNo 114 = 21 ∧ rSt 114 = 114 ∧ rNo 0 = 0 ∧ rSt 0 = 0 ∧ pWs.length = 21 := by decide +kernel
theorem rWd_at (hk : k < 114) : ((zby (-10)).getD k 0 = 32 ↔ k = rSt k + (rWs k).length) ∧ rSt k ≤ k ∧ rNo k < 21 ∧ rNo (k + 1) = rNo k + (if (zby (-10)).getD k 0 = 32 then 1 else 0) ∧ rSt (k + 1) = (if (zby (-10)).getD k 0 = 32 then k + 1 else rSt k) ∧ k ≤ rSt k + (rWs k).length ∧ ∀ j, j < (rWs k).length → (zby (-10)).getD (rSt k + j) 0 = (rWs k).getD j 0 ∧ 97 ≤ (rWs k).getD j 0 ∧ (rWs k).getD j 0 ≤ 122 ∧ rSt k + j < 114 := by
  have q := List.all_eq_true.mp rWd_ok k (List.mem_range.mpr hk)
  simp only [Bool.and_eq_true, decide_eq_true_eq] at q
  obtain ⟨q1, q2, q3, q4, q5, q6, q7⟩ := q
  refine ⟨?_, q2, q3, q4, q5, q6, fun j hj => ?_⟩
  · have q1 := eq_of_beq q1
    constructor
    · intro z
      rw [beq_iff_eq.mpr z] at q1
      exact of_decide_eq_true q1.symm
    · intro z
      rw [decide_eq_true z] at q1
      exact beq_iff_eq.mp q1
  · have w := List.all_eq_true.mp q7 j (List.mem_range.mpr hj)
    simp only [Bool.and_eq_true, decide_eq_true_eq, beq_iff_eq] at w
    exact w
/-- a word stands there -/
def rSp (h : Hp) (n : Nat) (a b c : Int) : Prop := ∀ j : Nat, (j : Int) < c → a + j < 114 ∧ b + j < n ∧ (zby (-10)).getD (a + j).toNat 0 = fld h 10 (b + j).toNat
theorem pEq_iff (t : pT) : ∀ (w : List Int) (p : Nat), pEq t p w = true ↔ ∀ j, j < w.length → t (p + j) = w.getD j 0
  | [], p => ⟨fun _ j hj => absurd hj (Nat.not_lt_zero _), fun _ => rfl⟩
  | a :: r, p => by
    show (decide (t p = a) && pEq t (p + 1) r) = true ↔ _
    rw [Bool.and_eq_true, decide_eq_true_eq, pEq_iff t r (p + 1)]
    constructor
    · rintro ⟨h1, h2⟩ j hj
      cases j with
      | zero => exact h1
      | succ j =>
        have := h2 j (by simpa using hj)
        rw [show p + (j + 1) = p + 1 + j by omega]
        exact this
    · intro H
      refine ⟨H 0 (by simp), fun j hj => ?_⟩
      have := H (j + 1) (by simpa using hj)
      rw [show p + 1 + j = p + (j + 1) by omega]
      exact this
theorem rSp_eq (B : rB t n h) {l : Int} (hk : k < 114) (hl : ((rWs k).length : Int) = l) (hp : (p : Int) + l ≤ n) : rSp h n (rSt k : Nat) (p : Nat) l ↔ pEq t p (rWs k) = true := by
  obtain ⟨-, -, -, -, -, -, w⟩ := rWd_at hk
  rw [pEq_iff]
  constructor
  · intro H j hj
    obtain ⟨a1, a2, a3⟩ := H j (by omega)
    obtain ⟨b1, b2, b3, b4⟩ := w j hj
    rw [show ((rSt k : Nat) : Int) + (j : Int) = ((rSt k + j : Nat) : Int) by omega, show ((p : Nat) : Int) + (j : Int) = ((p + j : Nat) : Int) by omega, Int.toNat_natCast, Int.toNat_natCast, b1] at a3
    have q := B.bl (i := p + j) (by omega)
    omega
  · intro H j hj
    obtain ⟨b1, b2, b3, b4⟩ := w j (by omega)
    have e := H j (by omega)
    have q := B.bl (i := p + j) (by omega)
    refine ⟨by omega, by omega, ?_⟩
    rw [show ((rSt k : Nat) : Int) + (j : Int) = ((rSt k + j : Nat) : Int) by omega, show ((p : Nat) : Int) + (j : Int) = ((p + j : Nat) : Int) by omega, Int.toNat_natCast, Int.toNat_natCast, b1]
    omega
theorem pFd_drop (t : pT) (p l : Nat) (h : k < pWs.length) : pFd t p l (pWs.drop k) k = if (pWs.getD k []).length = l ∧ pEq t p (pWs.getD k []) = true then (k : Int) else pFd t p l (pWs.drop (k + 1)) (k + 1) := by
  rw [List.drop_eq_getElem_cons h]
  show (if _ then _ else _) = _
  rw [List.getD_eq_getElem?_getD, List.getElem?_eq_getElem h]
  rfl
/-! signs -/
theorem rSg_ok : zby (-11) = [43, 45, 42, 47, 40, 41, 91, 93, 60, 62, 61, 59] := by decide +kernel
theorem rSg (c : Int) : pSig c = true ↔ ∃ i : Nat, i < (zby (-11)).length ∧ (zby (-11)).getD i 0 = c := by
  rw [pSig_t, rSg_ok]
  constructor
  · intro z
    rcases z with z | z | z | z | z | z | z | z | z | z | z | z
    · exact ⟨0, by decide, z.symm⟩
    · exact ⟨1, by decide, z.symm⟩
    · exact ⟨2, by decide, z.symm⟩
    · exact ⟨3, by decide, z.symm⟩
    · exact ⟨4, by decide, z.symm⟩
    · exact ⟨5, by decide, z.symm⟩
    · exact ⟨6, by decide, z.symm⟩
    · exact ⟨7, by decide, z.symm⟩
    · exact ⟨8, by decide, z.symm⟩
    · exact ⟨9, by decide, z.symm⟩
    · exact ⟨10, by decide, z.symm⟩
    · exact ⟨11, by decide, z.symm⟩
  · rintro ⟨i, hi, e⟩
    have hi : i < 12 := hi
    have q : i = 0 ∨ i = 1 ∨ i = 2 ∨ i = 3 ∨ i = 4 ∨ i = 5 ∨ i = 6 ∨ i = 7 ∨ i = 8 ∨ i = 9 ∨ i = 10 ∨ i = 11 := by omega
    rcases q with rfl | rfl | rfl | rfl | rfl | rfl | rfl | rfl | rfl | rfl | rfl | rfl
    · exact Or.inl e.symm
    · exact Or.inr (Or.inl e.symm)
    · exact Or.inr (Or.inr (Or.inl e.symm))
    · exact Or.inr (Or.inr (Or.inr (Or.inl e.symm)))
    · exact Or.inr (Or.inr (Or.inr (Or.inr (Or.inl e.symm))))
    · exact Or.inr (Or.inr (Or.inr (Or.inr (Or.inr (Or.inl e.symm)))))
    · exact Or.inr (Or.inr (Or.inr (Or.inr (Or.inr (Or.inr (Or.inl e.symm))))))
    · exact Or.inr (Or.inr (Or.inr (Or.inr (Or.inr (Or.inr (Or.inr (Or.inl e.symm)))))))
    · exact Or.inr (Or.inr (Or.inr (Or.inr (Or.inr (Or.inr (Or.inr (Or.inr (Or.inl e.symm))))))))
    · exact Or.inr (Or.inr (Or.inr (Or.inr (Or.inr (Or.inr (Or.inr (Or.inr (Or.inr (Or.inl e.symm)))))))))
    · exact Or.inr (Or.inr (Or.inr (Or.inr (Or.inr (Or.inr (Or.inr (Or.inr (Or.inr (Or.inr (Or.inl e.symm))))))))))
    · exact Or.inr (Or.inr (Or.inr (Or.inr (Or.inr (Or.inr (Or.inr (Or.inr (Or.inr (Or.inr (Or.inr e.symm))))))))))
end RD
section RD2
variable {h : Hp} {t : pT} {n p l k : Nat}
theorem rFd (t : pT) (p l : Nat) (hk : k < 114) : pFd t p l (pWs.drop (rNo k)) (rNo k) = if (rWs k).length = l ∧ pEq t p (rWs k) = true then ((rNo k : Nat) : Int) else pFd t p l (pWs.drop (rNo k + 1)) (rNo k + 1) :=
  pFd_drop t p l (by have := (rWd_at hk).2.2.1; have q : pWs.length = 21 := rfl; omega)
theorem rTok_e (h1 : fld h 9 3 = (p : Int)) (h2 : p = n) (h3 : fld h 9 2 = (p : Int)) (h4 : fld h 9 4 = 0) : rTok t n h p := by
  have e : pK t n p = 0 := pK_0.mpr (by omega)
  refine ⟨h1, by omega, ?_, h4.trans e.symm, fun z => by omega⟩
  unfold pEn
  rw [if_neg (by omega)]
  exact h3
theorem rTok_w (h1 : fld h 9 3 = (p : Int)) (h2 : p < n) (hl : pLet (t p) = true) (h3 : fld h 9 2 = ((pRun pLet t n p : Nat) : Int)) (h4 : fld h 9 4 = 1) (h5 : fld h 9 5 = pFd t p (pRun pLet t n p - p) pWs 0) : rTok t n h p := by
  have e : pEn t n p = pRun pLet t n p := by unfold pEn; rw [if_pos h2, if_pos hl]
  refine ⟨h1, by omega, by rw [e]; exact h3, ?_, fun _ => ?_⟩
  · unfold pK
    rw [if_pos h2, if_pos hl]
    exact h4
  · unfold pV pWd
    rw [if_pos hl, e]
    exact h5
theorem rTok_d (h1 : fld h 9 3 = (p : Int)) (h2 : p < n) (hl : ¬ pLet (t p) = true) (hd : pDig (t p) = true) (h3 : fld h 9 2 = ((pRun pDig t n p : Nat) : Int)) (h4 : fld h 9 4 = 2) (h5 : fld h 9 5 = pNu t (pRun pDig t n p - p) p 0) : rTok t n h p := by
  have e : pEn t n p = pRun pDig t n p := by unfold pEn; rw [if_pos h2, if_neg hl, if_pos hd]
  refine ⟨h1, by omega, by rw [e]; exact h3, ?_, fun _ => ?_⟩
  · unfold pK
    rw [if_pos h2, if_neg hl, if_pos hd]
    exact h4
  · unfold pV pVl
    rw [if_neg hl, e]
    exact h5
theorem rTok_s (h1 : fld h 9 3 = (p : Int)) (h2 : p < n) (hl : ¬ pLet (t p) = true) (hd : ¬ pDig (t p) = true) (h3 : fld h 9 2 = (p : Int) + 1) (h4 : fld h 9 4 = (if pSig (t p) = true then t p else 3)) : rTok t n h p := by
  have e : pEn t n p = p + 1 := by unfold pEn; rw [if_pos h2, if_neg hl, if_neg hd]
  have k : pK t n p = (if pSig (t p) = true then t p else 3) := by unfold pK; rw [if_pos h2, if_neg hl, if_neg hd]
  refine ⟨h1, by omega, by rw [e]; omega, h4.trans k.symm, fun z => ?_⟩
  exfalso
  rw [k] at z
  by_cases q : pSig (t p) = true
  · rw [if_pos q] at z
    have := pSig_t.mp q
    omega
  · rw [if_neg q] at z
    omega
end RD2
