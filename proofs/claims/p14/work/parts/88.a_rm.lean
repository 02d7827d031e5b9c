/-! the model's reading and the pure reading -/
section RM
variable {h g h1 h2 h3 : Hp} {t : pT} {n p q m k i w0 : Nat} {s u : pQ} {x v o1 o2 w op : Int} {ms : Zms} {f : pQ → pR} {T r : pR}
/-- the bytes are t, n of them -/
def vB (t : pT) (n : Nat) (h : Hp) : Prop := fld h 37 41 = (n : Int) ∧ n ≤ 400 ∧ ∀ i : Nat, i < n → fld h 98 i = t i
theorem vB.fr (B : vB t n h) (R : zMR ms h g) (e : (zqN ms 37 37 41 42 && zqN ms 98 98 0 400) = true) : vB t n g := by
  rw [Bool.and_eq_true] at e
  obtain ⟨b1, b2, b3⟩ := B
  have q1 : fld g 37 41 = fld h 37 41 := R.f e.1 ⟨by decide, by decide⟩ ⟨by decide, by decide⟩
  refine ⟨q1.trans b1, b2, fun i hi => ?_⟩
  have q2 : fld g 98 i = fld h 98 i := R.f e.2 ⟨by decide, by decide⟩ ⟨by omega, by omega⟩
  rw [q2]
  exact b3 i hi
def msS2 : Zms := [(37, 37, 42, 44)]
def mTk (t : pT) (n : Nat) (h : Hp) (p : Nat) : Prop := fld h 37 42 = (p : Int) ∧ p ≤ n ∧ fld h 37 43 = ((pEn t n p : Nat) : Int)
theorem mTk.fr (K : mTk t n h p) (R : zMR ms h g) (e : zqN ms 37 37 42 44 = true) : mTk t n g p := by
  obtain ⟨k1, k2, k3⟩ := K
  have q1 : fld g 37 42 = fld h 37 42 := R.f e ⟨by decide, by decide⟩ ⟨by decide, by decide⟩
  have q2 : fld g 37 43 = fld h 37 43 := R.f e ⟨by decide, by decide⟩ ⟨by decide, by decide⟩
  exact ⟨q1.trans k1, k2, q2.trans k3⟩
/-- one step of the codes -/
def mCd (F : Nat → Int) (j : Nat) (x : Int) : Prop := eEn (F (2 * j)) (F (2 * j + 1)) = x ∧ ((F (2 * j) = 110 ∧ 0 ≤ F (2 * j + 1)) ∨ (F (2 * j) = 118 ∧ 0 ≤ F (2 * j + 1) ∧ F (2 * j + 1) ≤ 12) ∨ (F (2 * j) = 33 ∨ F (2 * j) = 38 ∨ F (2 * j) = 124 ∨ F (2 * j) = 43 ∨ F (2 * j) = 45 ∨ F (2 * j) = 42 ∨ F (2 * j) = 47 ∨ F (2 * j) = 60 ∨ F (2 * j) = 62 ∨ F (2 * j) = 61))
def mQ (t : pT) (n w0 : Nat) (h : Hp) (s : pQ) : Prop := mTk t n h s.1 ∧ w0 ≤ s.2.1 ∧ fld h 37 45 = ((s.2.1 : Nat) : Int) - w0 ∧ ∀ k, w0 ≤ k → k < s.2.1 → mCd (fld h (149 + fld h 37 47)) (k - w0) (s.2.2 k)
/-- the rows of other clauses stay -/
def mO (h g : Hp) : Prop := fld g 37 47 = fld h 37 47 ∧ ∀ r : Int, 149 ≤ r → r ≤ 153 → r ≠ 149 + fld h 37 47 → fld g r = fld h r
theorem mO.rf : mO h h := ⟨rfl, fun _ _ _ _ => rfl⟩
theorem mO.tr (A : mO h h1) (C : mO h1 g) : mO h g := ⟨C.1.trans A.1, fun r k1 k2 k3 => (C.2 r k1 k2 (by rw [A.1]; exact k3)).trans (A.2 r k1 k2 k3)⟩
theorem mO.fr (R : zMR ms h g) (e : (zqN ms 37 37 47 48 && ms.all (fun q => Nat.blt q.2.1 149 || Nat.blt 153 q.1)) = true) : mO h g ∧ ∀ r : Int, 149 ≤ r → r ≤ 153 → fld g r = fld h r := by
  rw [Bool.and_eq_true] at e
  have q1 : fld g 37 47 = fld h 37 47 := R.f e.1 ⟨by decide, by decide⟩ ⟨by decide, by decide⟩
  have q : ∀ r : Int, 149 ≤ r → r ≤ 153 → fld g r = fld h r := by
    intro r k1 k2
    refine funext (fun j => R.2.2.2 _ j (fun f hf hz => ?_))
    have e := List.all_eq_true.mp e.2 f hf
    rw [Bool.or_eq_true] at e
    rcases e with e | e
    · have := Nat.le_of_ble_eq_true e
      omega
    · have := Nat.le_of_ble_eq_true e
      omega
  exact ⟨⟨q1, fun r k1 k2 _ => q r k1 k2⟩, q⟩
/-- nothing but the token moves -/
theorem mQ.tk (Q : mQ t n w0 h s) (R : zMR ms h g) (e : (zqN ms 37 37 45 46 && (zqN ms 37 37 47 48 && ms.all (fun q => Nat.blt q.2.1 149 || Nat.blt 153 q.1))) = true) (hc : 0 ≤ fld h 37 47 ∧ fld h 37 47 ≤ 4) (K : mTk t n g q) : mQ t n w0 g (q, s.2) := by
  rw [Bool.and_eq_true] at e
  obtain ⟨q1, q2, q3, q4⟩ := Q
  have f1 : fld g 37 45 = fld h 37 45 := R.f e.1 ⟨by decide, by decide⟩ ⟨by decide, by decide⟩
  obtain ⟨O, E⟩ := mO.fr R e.2
  refine ⟨K, q2, f1.trans q3, fun k k1 k2 => ?_⟩
  rw [O.1, E _ (by omega) (by omega)]
  exact q4 k k1 k2
/-- one more step is put -/
theorem mQ.put (Q : mQ t n w0 h s) (R : zMR ms h g) (e : (zqN ms 37 37 42 44 && zqN ms 37 37 47 48) = true) (e1 : fld g 37 45 = fld h 37 45 + 1) (e2 : ∀ j : Nat, fld g (149 + fld h 37 47) j = if j = 2 * (fld h 37 45).toNat + 1 then v else if j = 2 * (fld h 37 45).toNat then op else fld h (149 + fld h 37 47) j) (hx : eEn op v = x) (ho : (op = 110 ∧ 0 ≤ v) ∨ (op = 118 ∧ 0 ≤ v ∧ v ≤ 12) ∨ (op = 33 ∨ op = 38 ∨ op = 124 ∨ op = 43 ∨ op = 45 ∨ op = 42 ∨ op = 47 ∨ op = 60 ∨ op = 62 ∨ op = 61)) : mQ t n w0 g (pW x s) := by
  rw [Bool.and_eq_true] at e
  obtain ⟨q1, q2, q3, q4⟩ := Q
  have f2 : fld g 37 47 = fld h 37 47 := R.f e.2 ⟨by decide, by decide⟩ ⟨by decide, by decide⟩
  refine ⟨q1.fr R e.1, show w0 ≤ s.2.1 + 1 by omega, ?_, fun k k1 k2 => ?_⟩
  · show fld g 37 45 = ((s.2.1 + 1 : Nat) : Int) - w0
    omega
  · have k2 : k < s.2.1 + 1 := k2
    show mCd (fld g (149 + fld g 37 47)) (k - w0) (zu s.2.2 s.2.1 x k)
    rw [f2]
    have hm : (fld h 37 45).toNat = s.2.1 - w0 := by omega
    unfold mCd
    rw [e2, e2, hm]
    by_cases z : k = s.2.1
    · subst z
      rw [zu_eq, if_neg (by omega), if_pos rfl, if_pos rfl]
      exact ⟨hx, ho⟩
    · rw [zu_ne z, if_neg (by omega), if_neg (by omega), if_neg (by omega), if_neg (by omega)]
      exact q4 k k1 (by omega)
theorem mO.put (R : zMR ms h g) (e : zqN ms 37 37 47 48 = true) (e3 : ∀ r : Int, 149 ≤ r → r ≤ 153 → r ≠ 149 + fld h 37 47 → fld g r = fld h r) : mO h g := ⟨R.f e ⟨by decide, by decide⟩ ⟨by decide, by decide⟩, e3⟩
theorem rV.mlt (V : rV n s) (B : vB t n h) (Q : mQ t n w0 h s) : fld h 37 45 ≤ 399 := by
  have a := B.2.1
  have b := Q.2.2.1
  obtain ⟨v1, v2⟩ := V
  omega
/-- an answer and what it leaves -/
def vR (t : pT) (n w0 : Nat) (g : Hp) (x : Int) (r : pR) : Prop := (x = 1 ∧ r.1 = true ∧ mQ t n w0 g r.2 ∧ fld g 37 44 = -1) ∨ (x = 0 ∧ r.1 = false ∧ fld g 37 44 = ((r.2.1 : Nat) : Int))
theorem mR_t (Q : mQ t n w0 g s) (e : fld g 37 44 = -1) : vR t n w0 g 1 (true, s) := Or.inl ⟨rfl, rfl, Q, e⟩
theorem mR_f (e : fld g 37 44 = ((s.1 : Nat) : Int)) : vR t n w0 g 0 (false, s) := Or.inr ⟨rfl, rfl, e⟩
theorem vR.z (R : vR t n w0 g x r) (e : x = 0) : vR t n w0 g 0 r := e ▸ R
theorem vR.b1 (R : vR t n w0 g x r) (e : x ≠ 0) : r.1 = true := by
  rcases R with ⟨_, z, _⟩ | ⟨z, _⟩
  · exact z
  · exact absurd z e
theorem vR.b0 (R : vR t n w0 g x r) (e : x = 0) : ¬ (r.1 = true) := by
  rcases R with ⟨z, _⟩ | ⟨_, z, _⟩
  · omega
  · rw [z]; exact Bool.false_ne_true
theorem vR.qq (R : vR t n w0 g x r) (e : x ≠ 0) : mQ t n w0 g r.2 := by
  rcases R with ⟨_, _, z, _⟩ | ⟨z, _⟩
  · exact z
  · exact absurd z e
theorem vR.e (R : vR t n w0 g x r) (e : x ≠ 0) : fld g 37 44 = -1 := by
  rcases R with ⟨_, _, _, z⟩ | ⟨z, _⟩
  · exact z
  · exact absurd z e
theorem vR.fl (R : vR t n w0 g x r) (e : x = 0) : r = (false, r.2) ∧ fld g 37 44 = ((r.2.1 : Nat) : Int) := by
  rcases R with ⟨z, _⟩ | ⟨_, z, y⟩
  · omega
  · exact ⟨pR_f z, y⟩
/-! tokens of the model -/
theorem pK_sg (hc : pSig w = true) : pK t n p = w ↔ p < n ∧ t p = w := by
  have c := pSig_t.mp hc
  unfold pK
  by_cases h1 : p < n
  · rw [if_pos h1]
    by_cases h2 : pLet (t p) = true
    · rw [if_pos h2]
      have := pLet_t.mp h2
      constructor <;> intro z <;> omega
    · rw [if_neg h2]
      by_cases h3 : pDig (t p) = true
      · rw [if_pos h3]
        have := pDig_t.mp h3
        constructor <;> intro z <;> omega
      · rw [if_neg h3]
        by_cases h4 : pSig (t p) = true
        · rw [if_pos h4]
          constructor <;> intro z
          · exact ⟨h1, z⟩
          · exact z.2
        · rw [if_neg h4]
          constructor
          · intro z
            omega
          · rintro ⟨-, z⟩
            rw [z] at h4
            exact absurd hc h4
  · rw [if_neg h1]
    constructor <;> intro z <;> omega
theorem pK_dg : pK t n p = 2 ↔ p < n ∧ pDig (t p) = true := by
  unfold pK
  by_cases h1 : p < n
  · rw [if_pos h1]
    by_cases h2 : pLet (t p) = true
    · rw [if_pos h2]
      have := pLet_t.mp h2
      constructor
      · intro z
        omega
      · rintro ⟨-, z⟩
        have := pDig_t.mp z
        omega
    · rw [if_neg h2]
      by_cases h3 : pDig (t p) = true
      · rw [if_pos h3]
        exact ⟨fun _ => ⟨h1, h3⟩, fun _ => rfl⟩
      · rw [if_neg h3]
        constructor
        · intro z
          exfalso
          by_cases h4 : pSig (t p) = true
          · rw [if_pos h4] at z
            have := pSig_t.mp h4
            omega
          · rw [if_neg h4] at z
            omega
        · rintro ⟨-, z⟩
          exact absurd z h3
  · rw [if_neg h1]
    constructor <;> intro z <;> omega
theorem pK_lt1 : pK t n p = 1 ↔ p < n ∧ pLet (t p) = true := by
  unfold pK
  by_cases h1 : p < n
  · rw [if_pos h1]
    by_cases h2 : pLet (t p) = true
    · rw [if_pos h2]
      exact ⟨fun _ => ⟨h1, h2⟩, fun _ => rfl⟩
    · rw [if_neg h2]
      constructor
      · intro z
        exfalso
        by_cases h3 : pDig (t p) = true
        · rw [if_pos h3] at z
          omega
        · rw [if_neg h3] at z
          by_cases h4 : pSig (t p) = true
          · rw [if_pos h4] at z
            have := pSig_t.mp h4
            omega
          · rw [if_neg h4] at z
            omega
      · rintro ⟨-, z⟩
        exact absurd z h2
  · rw [if_neg h1]
    constructor <;> intro z <;> omega
/-! words of the model -/
def mWi (w : Int) : Nat := if -16 ≤ w then (1 - w).toNat else if -29 ≤ w then (-17 - w).toNat else (w + 50).toNat
theorem mWi_ok : (List.range 21).all (fun j => zby (-12 - (j : Int)) == pWs.getD (mWi (-12 - (j : Int))) [] && (decide (mWi (-12 - (j : Int)) < 21) && decide (0 < (zby (-12 - (j : Int))).length))) = true := by decide +kernel
theorem mWi_at (h : -33 < w ∧ w ≤ -12) : zby w = pWs.getD (mWi w) [] ∧ mWi w < 21 ∧ 0 < (zby w).length := by
  have q := List.all_eq_true.mp mWi_ok (-12 - w).toNat (List.mem_range.mpr (by omega))
  simp only [Bool.and_eq_true, decide_eq_true_eq, beq_iff_eq] at q
  rw [show -12 - (((-12 - w).toNat : Nat) : Int) = w by omega] at q
  exact q
theorem pWs_nd : (List.range 21).all (fun i => (List.range 21).all (fun j => (pWs.getD i [] == pWs.getD j []) == decide (i = j))) = true := by decide +kernel
theorem pWs_let : (List.range 21).all (fun i => (List.range (pWs.getD i []).length).all (fun j => decide (97 ≤ (pWs.getD i []).getD j 0) && decide ((pWs.getD i []).getD j 0 ≤ 122))) = true := by decide +kernel
theorem pFd_of (t : pT) (p l : Nat) : ∀ (d k : Nat), k + d = 21 → ∀ j, k ≤ j → j < 21 → ((pWs.getD j []).length = l ∧ pEq t p (pWs.getD j []) = true) → pFd t p l (pWs.drop k) k = (j : Int)
  | 0, k, hk, j, h1, h2, _ => by omega
  | d + 1, k, hk, j, h1, h2, h3 => by
    have q : pWs.length = 21 := rfl
    rw [pFd_drop t p l (by omega)]
    by_cases z : k = j
    · subst z
      rw [if_pos h3]
    · rw [if_neg (fun y => z ?_)]
      · exact pFd_of t p l d (k + 1) (by omega) j (by omega) h2 h3
      · have e : pWs.getD k [] = pWs.getD j [] := by
          refine List.ext_getElem (y.1.trans h3.1.symm) (fun i i1 i2 => ?_)
          have a := (pEq_iff t _ p).mp y.2 i i1
          have b := (pEq_iff t _ p).mp h3.2 i i2
          rw [List.getD_eq_getElem?_getD, List.getElem?_eq_getElem i1] at a
          rw [List.getD_eq_getElem?_getD, List.getElem?_eq_getElem i2] at b
          exact a.symm.trans b
        have w := List.all_eq_true.mp (List.all_eq_true.mp pWs_nd k (List.mem_range.mpr (by omega))) j (List.mem_range.mpr h2)
        rw [e] at w
        have w := eq_of_beq w
        rw [beq_self_eq_true] at w
        exact of_decide_eq_true w.symm
theorem pFd_to (t : pT) (p l : Nat) : ∀ (d k : Nat), k + d = 21 → ∀ j : Nat, pFd t p l (pWs.drop k) k = (j : Int) → j < 21 ∧ (pWs.getD j []).length = l ∧ pEq t p (pWs.getD j []) = true
  | 0, k, hk, j, h => by
    have e : pWs.drop k = [] := List.drop_eq_nil_of_le (by have q : pWs.length = 21 := rfl; omega)
    rw [e] at h
    have h : (-1 : Int) = (j : Int) := h
    omega
  | d + 1, k, hk, j, h => by
    have q : pWs.length = 21 := rfl
    rw [pFd_drop t p l (by omega)] at h
    split at h
    · rename_i c
      have e : k = j := by omega
      subst e
      exact ⟨by omega, c.1, c.2⟩
    · exact pFd_to t p l d (k + 1) (by omega) j h
/-- a word is the token -/
theorem pW_iff (hj : i < 21) (hp : p ≤ n) : (pK t n p = 1 ∧ pV t n p = (i : Int)) ↔ (pEn t n p - p = (pWs.getD i []).length ∧ p < n ∧ pEq t p (pWs.getD i []) = true) := by
  constructor
  · rintro ⟨h1, h2⟩
    obtain ⟨h3, h4⟩ := pK_lt1.mp h1
    unfold pV at h2
    rw [if_pos h4] at h2
    obtain ⟨a1, a2, a3⟩ := pFd_to t p (pEn t n p - p) 21 0 rfl i h2
    exact ⟨a2.symm, h3, a3⟩
  · rintro ⟨h1, h3, h2⟩
    have hl : pLet (t p) = true := by
      have pos : 0 < (pWs.getD i []).length := by
        have := (pEn_b (t := t) hp).2.2 h3
        omega
      have a := (pEq_iff t _ p).mp h2 0 pos
      have w := List.all_eq_true.mp (List.all_eq_true.mp pWs_let i (List.mem_range.mpr hj)) 0 (List.mem_range.mpr pos)
      simp only [Bool.and_eq_true, decide_eq_true_eq] at w
      rw [Nat.add_zero] at a
      exact pLet_t.mpr (by omega)
    refine ⟨pK_lt1.mpr ⟨h3, hl⟩, ?_⟩
    unfold pV
    rw [if_pos hl]
    exact pFd_of t p (pEn t n p - p) 21 0 rfl i (Nat.zero_le _) hj ⟨h1.symm, h2⟩
/-- numbers: the model's goes to 999999, the class's to 10000 -/
def mNu (t : pT) : Nat → Nat → Int → Int
  | 0, _, v => v
  | f + 1, p, v => mNu t f (p + 1) (if 99999 < v then 999999 else 10 * v + t p - 48)
theorem mNu_s (t : pT) : ∀ (f p : Nat) (v : Int), mNu t (f + 1) p v = if 99999 < mNu t f p v then 999999 else 10 * mNu t f p v + t (p + f) - 48
  | 0, p, v => rfl
  | f + 1, p, v => by
    show mNu t (f + 1) (p + 1) _ = _
    rw [mNu_s t f (p + 1) _, show p + 1 + f = p + (f + 1) by omega]
    rfl
theorem mNu_n (t : pT) (p : Nat) : ∀ f : Nat, (∀ j, j < f → 48 ≤ t (p + j) ∧ t (p + j) ≤ 57) → 0 ≤ mNu t f p 0 ∧ mNu t f p 0 ≤ 999999 ∧ ((mNu t f p 0 ≤ 9999 ∧ pNu t f p 0 = mNu t f p 0) ∨ (9999 < mNu t f p 0 ∧ pNu t f p 0 = 10000))
  | 0, _ => by
    show (0 : Int) ≤ 0 ∧ (0 : Int) ≤ 999999 ∧ (((0 : Int) ≤ 9999 ∧ (0 : Int) = 0) ∨ _)
    exact ⟨by decide, by decide, Or.inl ⟨by decide, rfl⟩⟩
  | f + 1, H => by
    have a := mNu_n t p f (fun j hj => H j (by omega))
    have d := H f (by omega)
    rw [mNu_s, pNu_s]
    split <;> omega
theorem mNu_0 (e : x = 0) (z : k = 0) : x = mNu t k p 0 := by subst z; exact e
theorem mVal (h1 : pK t n p = 2) (hb : p ≤ n) (e : x = mNu t (pEn t n p - p) p 0) : 0 ≤ x ∧ x ≤ 999999 ∧ ((x ≤ 9999 ∧ pV t n p = x) ∨ (9999 < x ∧ pV t n p = 10000)) := by
  obtain ⟨h2, h3⟩ := pK_dg.mp h1
  have hl : ¬ pLet (t p) = true := fun z => by
    have a := pLet_t.mp z
    have b := pDig_t.mp h3
    omega
  have he : pEn t n p = pRun pDig t n p := by unfold pEn; rw [if_pos h2, if_neg hl, if_pos h3]
  have r := pRun_b (P := pDig) (t := t) (n := n) (n - p) p rfl hb
  unfold pV pVl
  rw [if_neg hl, e]
  refine mNu_n t p _ (fun j hj => ?_)
  exact pDig_t.mp (r.2.2.1 (p + j) (by omega) (by omega))
theorem mDg (h1 : pK t n p = 2) (hb : p ≤ n) : ∀ j, p ≤ j → j < pEn t n p → 48 ≤ t j ∧ t j ≤ 57 := by
  obtain ⟨h2, h3⟩ := pK_dg.mp h1
  have hl : ¬ pLet (t p) = true := fun z => by
    have a := pLet_t.mp z
    have b := pDig_t.mp h3
    omega
  have he : pEn t n p = pRun pDig t n p := by unfold pEn; rw [if_pos h2, if_neg hl, if_pos h3]
  have r := pRun_b (P := pDig) (t := t) (n := n) (n - p) p rfl hb
  intro j j1 j2
  rw [he] at j2
  exact pDig_t.mp (r.2.2.1 j j1 j2)
/-- nothing of the reading moves -/
theorem mQ.fr (Q : mQ t n w0 h s) (R : zMR ms h g) (e : (zqN ms 37 37 42 44 && (zqN ms 37 37 45 46 && (zqN ms 37 37 47 48 && ms.all (fun q => Nat.blt q.2.1 149 || Nat.blt 153 q.1)))) = true) (hc : 0 ≤ fld h 37 47 ∧ fld h 37 47 ≤ 4) : mQ t n w0 g s := by
  rw [Bool.and_eq_true] at e
  exact Q.tk R e.2 hc (Q.1.fr R e.1)
theorem mTk_e (h1 : fld h 37 42 = (p : Int)) (h2 : p = n) (h3 : fld h 37 43 = (p : Int)) : mTk t n h p := by
  refine ⟨h1, by omega, ?_⟩
  unfold pEn
  rw [if_neg (by omega)]
  exact h3
theorem mTk_w (h1 : fld h 37 42 = (p : Int)) (h2 : p < n) (hl : pLet (t p) = true) (h3 : fld h 37 43 = ((pRun pLet t n p : Nat) : Int)) : mTk t n h p := by
  have e : pEn t n p = pRun pLet t n p := by unfold pEn; rw [if_pos h2, if_pos hl]
  exact ⟨h1, by omega, by rw [e]; exact h3⟩
theorem mTk_d (h1 : fld h 37 42 = (p : Int)) (h2 : p < n) (hl : ¬ pLet (t p) = true) (hd : pDig (t p) = true) (h3 : fld h 37 43 = ((pRun pDig t n p : Nat) : Int)) : mTk t n h p := by
  have e : pEn t n p = pRun pDig t n p := by unfold pEn; rw [if_pos h2, if_neg hl, if_pos hd]
  exact ⟨h1, by omega, by rw [e]; exact h3⟩
theorem mTk_s (h1 : fld h 37 42 = (p : Int)) (h2 : p < n) (hl : ¬ pLet (t p) = true) (hd : ¬ pDig (t p) = true) (h3 : fld h 37 43 = (p : Int) + 1) : mTk t n h p := by
  have e : pEn t n p = p + 1 := by unfold pEn; rw [if_pos h2, if_neg hl, if_neg hd]
  exact ⟨h1, by omega, by rw [e]; omega⟩
theorem eEn_n : eEn 110 v = v := if_pos rfl
theorem eEn_v : eEn 118 v = -1 - v := (if_neg (by decide)).trans (if_pos rfl)
theorem eEn_x : eEn 33 v = -20 ∧ eEn 38 v = -19 ∧ eEn 124 v = -18 := by
  unfold eEn
  exact ⟨by rw [if_neg (by decide), if_neg (by decide), if_pos rfl], by rw [if_neg (by decide), if_neg (by decide), if_neg (by decide), if_pos rfl], by rw [if_neg (by decide), if_neg (by decide), if_neg (by decide), if_neg (by decide), if_pos rfl]⟩
theorem eEn_o (h : op = 43 ∨ op = 45 ∨ op = 42 ∨ op = 47 ∨ op = 60 ∨ op = 62 ∨ op = 61) : eEn op v = -op := by
  unfold eEn
  rw [if_neg (by omega), if_neg (by omega), if_neg (by omega), if_neg (by omega), if_neg (by omega)]
theorem mL_m (W : rW n s) (k : pK t n s.1 ≠ 0) (H : pG n f) (e : n ≤ s.1 + m) : m = (m - 1) + 1 ∧ n ≤ (f (pA t n s)).2.1 + (m - 1) ∧ s.1 < (f (pA t n s)).2.1 := by
  have d := pK_lt k
  have b := pNx_b (t := t) W.2
  have g := H (pA t n s) b.2.1
  have g1 : pNx t n s.1 ≤ (f (pA t n s)).2.1 := g.1
  omega
/-! loops, without bound -/
def vL (t : pT) (n w0 : Nat) (h : Hp) (F : Nat → pQ → pR) (T : pR) : Prop := ∃ (m : Nat) (q : pQ), mQ t n w0 h q ∧ rW n q ∧ fld h 37 44 = -1 ∧ n ≤ q.1 + m ∧ T = F m q
theorem mL_0 {F : Nat → pQ → pR} (R : vR t n w0 g x (f s)) (e : x ≠ 0) (W : rW n (f s).2) (hn : n ≤ 400) : vL t n w0 g F (if (f s).1 = true then F 400 (f s).2 else f s) := ⟨400, (f s).2, R.qq e, W, R.e e, by omega, by rw [if_pos (R.b1 e)]⟩
theorem mL_n {F : Nat → pQ → pR} (Q : mQ t n w0 g s) (W : rW n s) (e : fld g 37 44 = -1) (hm : n ≤ s.1 + m) (hT : T = F m s) : vL t n w0 g F T := ⟨m, s, Q, W, e, hm, hT⟩
def mX (sc : List Int) (D y : Nat) (a : Int) (F : pT → Nat → pQ → pR) : Prop := ∀ h : Hp, zI h → ∀ (t : pT) (n w0 : Nat) (s : pQ), vB t n h → mQ t n w0 h s → rW n s → 0 ≤ fld h 37 47 → fld h 37 44 = -1 → zwC sc D y [(2, 37), (0, a)] h (zwRt 0 (fun x g => zI g ∧ zMR msP h g ∧ (0 ≤ x ∧ x ≤ 1) ∧ mO h g ∧ vR t n w0 g x (F t n s)))
theorem mX.up {sc : List Int} {D D' y : Nat} {a : Int} {F : pT → Nat → pQ → pR} (hD : D ≤ D') (H : mX sc D y a F) : mX sc D' y a F := fun h I t n w0 s B Q W c e => zwC_up hD (H h I t n w0 s B Q W c e)
end RM
