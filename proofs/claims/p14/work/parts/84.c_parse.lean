/-! the TEXT read: tokens and grammar, of the bytes alone -/
section PR
abbrev pT : Type := Nat → Int
abbrev pQ : Type := Nat × Nat × (Nat → Int)
abbrev pR : Type := Bool × pQ
variable {t : pT} {n p q k m f e i j : Nat} {x c : Int} {P : Int → Bool} {s s' : pQ}
def pLet (c : Int) : Bool := decide (97 ≤ c) && decide (c ≤ 122)
def pDig (c : Int) : Bool := decide (48 ≤ c) && decide (c ≤ 57)
def pBla (c : Int) : Bool := decide (c = 32) || decide (c = 10)
def pSig (c : Int) : Bool := decide (c = 43 ∨ c = 45 ∨ c = 42 ∨ c = 47 ∨ c = 40 ∨ c = 41 ∨ c = 91 ∨ c = 93 ∨ c = 60 ∨ c = 62 ∨ c = 61 ∨ c = 59)
theorem pLet_t : pLet c = true ↔ 97 ≤ c ∧ c ≤ 122 := by unfold pLet; rw [Bool.and_eq_true, decide_eq_true_eq, decide_eq_true_eq]
theorem pDig_t : pDig c = true ↔ 48 ≤ c ∧ c ≤ 57 := by unfold pDig; rw [Bool.and_eq_true, decide_eq_true_eq, decide_eq_true_eq]
theorem pBla_t : pBla c = true ↔ c = 32 ∨ c = 10 := by unfold pBla; rw [Bool.or_eq_true, decide_eq_true_eq, decide_eq_true_eq]
theorem pSig_t : pSig c = true ↔ (c = 43 ∨ c = 45 ∨ c = 42 ∨ c = 47 ∨ c = 40 ∨ c = 41 ∨ c = 91 ∨ c = 93 ∨ c = 60 ∨ c = 62 ∨ c = 61 ∨ c = 59) := by unfold pSig; rw [decide_eq_true_eq]
/-- the first place from p on where P doesn't hold, or n -/
def pRn (P : Int → Bool) (t : pT) (n : Nat) : Nat → Nat → Nat
  | 0, p => p
  | f + 1, p => if p < n ∧ P (t p) = true then pRn P t n f (p + 1) else p
def pRun (P : Int → Bool) (t : pT) (n p : Nat) : Nat := pRn P t n (n - p) p
theorem pRun_s (h : p < n) (hp : P (t p) = true) : pRun P t n p = pRun P t n (p + 1) := by
  unfold pRun
  rw [show n - p = (n - (p + 1)) + 1 by omega]
  show (if p < n ∧ P (t p) = true then pRn P t n (n - (p + 1)) (p + 1) else p) = _
  rw [if_pos ⟨h, hp⟩]
theorem pRun_e (h : ¬ (p < n ∧ P (t p) = true)) : pRun P t n p = p := by
  unfold pRun
  cases hk : n - p with
  | zero => rfl
  | succ f =>
    show (if p < n ∧ P (t p) = true then pRn P t n f (p + 1) else p) = _
    rw [if_neg h]
theorem pRun_b : ∀ (f p : Nat), f = n - p → p ≤ n → p ≤ pRun P t n p ∧ pRun P t n p ≤ n ∧ (∀ j, p ≤ j → j < pRun P t n p → P (t j) = true) ∧ ¬ (pRun P t n p < n ∧ P (t (pRun P t n p)) = true)
  | 0, p, hf, hp => by
    have e : ¬ (p < n ∧ P (t p) = true) := fun z => by omega
    rw [pRun_e e]
    exact ⟨Nat.le_refl _, hp, fun j h1 h2 => by omega, e⟩
  | f + 1, p, hf, hp => by
    by_cases h : p < n ∧ P (t p) = true
    · rw [pRun_s h.1 h.2]
      obtain ⟨a, b, d, g⟩ := pRun_b f (p + 1) (by omega) (by omega)
      refine ⟨by omega, b, fun j h1 h2 => ?_, g⟩
      by_cases hj : j = p
      · rw [hj]; exact h.2
      · exact d j (by omega) h2
    · rw [pRun_e h]
      exact ⟨Nat.le_refl _, hp, fun j h1 h2 => by omega, h⟩
theorem pRun_gt (h : p < n) (hp : P (t p) = true) : p < pRun P t n p := by
  rw [pRun_s h hp]
  have := (pRun_b (P := P) (t := t) (n := n) (n - (p + 1)) (p + 1) rfl (by omega)).1
  omega
/-- the end of the token at p, what it is, the token behind it -/
def pEn (t : pT) (n p : Nat) : Nat := if p < n then (if pLet (t p) = true then pRun pLet t n p else if pDig (t p) = true then pRun pDig t n p else p + 1) else p
def pSk (t : pT) (n p : Nat) : Nat := pRun pBla t n p
def pNx (t : pT) (n p : Nat) : Nat := pSk t n (pEn t n p)
def pK (t : pT) (n p : Nat) : Int := if p < n then (if pLet (t p) = true then 1 else if pDig (t p) = true then 2 else if pSig (t p) = true then t p else 3) else 0
def pWs : List (List Int) := [[119, 101, 101, 107], [115, 101, 97, 115, 111, 110], [104, 101, 97, 100, 115], [119, 104, 101, 101, 108, 115], [115, 107, 105, 108, 108], [99, 97, 115, 116, 101], [111, 116, 104, 101, 114], [99, 111, 117, 110, 116], [115, 116, 114, 101, 110, 103, 116, 104], [104, 97, 110, 107, 115], [105, 100, 108, 101], [102, 97, 114], [112, 114, 105, 99, 101], [111, 119, 101], [119, 97, 103, 101], [100, 117, 116, 121], [109, 97, 121], [115, 116, 97, 109, 112], [111, 114], [97, 110, 100], [110, 111, 116]]
def pEq (t : pT) : Nat → List Int → Bool
  | _, [] => true
  | p, w :: r => decide (t p = w) && pEq t (p + 1) r
def pFd (t : pT) (p l : Nat) : List (List Int) → Nat → Int
  | [], _ => -1
  | w :: r, j => if w.length = l ∧ pEq t p w = true then (j : Int) else pFd t p l r (j + 1)
def pWd (t : pT) (n p : Nat) : Int := pFd t p (pEn t n p - p) pWs 0
def pNu (t : pT) : Nat → Nat → Int → Int
  | 0, _, v => v
  | f + 1, p, v => pNu t f (p + 1) (min (v * 10 + t p - 48) 10000)
def pVl (t : pT) (n p : Nat) : Int := pNu t (pEn t n p - p) p 0
def pV (t : pT) (n p : Nat) : Int := if pLet (t p) = true then pWd t n p else pVl t n p
theorem pEn_b (h : p ≤ n) : p ≤ pEn t n p ∧ pEn t n p ≤ n ∧ (p < n → p < pEn t n p) := by
  unfold pEn
  by_cases h1 : p < n
  · rw [if_pos h1]
    by_cases h2 : pLet (t p) = true
    · rw [if_pos h2]
      have a := pRun_b (P := pLet) (t := t) (n := n) (n - p) p rfl h
      have b := pRun_gt (P := pLet) (t := t) h1 h2
      omega
    · rw [if_neg h2]
      by_cases h3 : pDig (t p) = true
      · rw [if_pos h3]
        have a := pRun_b (P := pDig) (t := t) (n := n) (n - p) p rfl h
        have b := pRun_gt (P := pDig) (t := t) h1 h3
        omega
      · rw [if_neg h3]
        omega
  · rw [if_neg h1]
    omega
theorem pNx_b (h : p ≤ n) : p ≤ pNx t n p ∧ pNx t n p ≤ n ∧ (p < n → p < pNx t n p) := by
  have a := pEn_b (t := t) h
  have b := pRun_b (P := pBla) (t := t) (n := n) (n - pEn t n p) (pEn t n p) rfl a.2.1
  unfold pNx pSk
  omega
theorem pK_0 : pK t n p = 0 ↔ n ≤ p := by
  unfold pK
  by_cases h1 : p < n
  · rw [if_pos h1]
    refine ⟨fun z => ?_, fun z => by omega⟩
    by_cases h2 : pLet (t p) = true
    · rw [if_pos h2] at z; omega
    · rw [if_neg h2] at z
      by_cases h3 : pDig (t p) = true
      · rw [if_pos h3] at z; omega
      · rw [if_neg h3] at z
        by_cases h4 : pSig (t p) = true
        · rw [if_pos h4] at z
          have := pSig_t.mp h4
          omega
        · rw [if_neg h4] at z; omega
  · rw [if_neg h1]
    exact ⟨fun _ => by omega, fun _ => rfl⟩
theorem pK_lt (h : pK t n p ≠ 0) : p < n := by
  by_cases q : p < n
  · exact q
  · exact absurd (pK_0.mpr (by omega)) h
/-! the grammar -/
def pW (x : Int) (s : pQ) : pQ := (s.1, s.2.1 + 1, zu s.2.2 s.2.1 x)
def pA (t : pT) (n : Nat) (s : pQ) : pQ := (pNx t n s.1, s.2)
def pFac (t : pT) (n : Nat) (o : Bool) (sub : pQ → pR) (s : pQ) : pR :=
  if pK t n s.1 = 2 ∧ pV t n s.1 ≤ 9999 then (true, pA t n (pW (pV t n s.1) s))
  else if pK t n s.1 = 1 ∧ 0 ≤ pV t n s.1 ∧ pV t n s.1 ≤ 12 then (true, pA t n (pW (-1 - pV t n s.1) s))
  else if o = true ∧ pK t n s.1 = 40 then
    (if (sub (pA t n s)).1 = true then (if pK t n (sub (pA t n s)).2.1 = 41 then (true, pA t n (sub (pA t n s)).2) else (false, (sub (pA t n s)).2)) else sub (pA t n s))
  else (false, s)
def pLp (t : pT) (n : Nat) (o1 o2 : Int) (f : pQ → pR) : Nat → pQ → pR
  | 0, s => (true, s)
  | m + 1, s => if pK t n s.1 = o1 ∨ pK t n s.1 = o2 then (if (f (pA t n s)).1 = true then pLp t n o1 o2 f m (pW (-(pK t n s.1)) (f (pA t n s)).2) else f (pA t n s)) else (true, s)
def pPro (t : pT) (n : Nat) (f : pQ → pR) (s : pQ) : pR := if (f s).1 = true then pLp t n 42 47 f 400 (f s).2 else f s
def pSm0 (t : pT) (n : Nat) (f : pQ → pR) (s : pQ) : pR := if (pPro t n f s).1 = true then pLp t n 43 45 (pPro t n f) 400 (pPro t n f s).2 else pPro t n f s
def pNo (s : pQ) : pR := (false, s)
/-- a factor, with so many deeper -/
def pFc (t : pT) (n : Nat) : Nat → pQ → pR
  | 0 => pFac t n false pNo
  | e + 1 => pFac t n true (pSm0 t n (pFc t n e))
def pSum (t : pT) (n e : Nat) : pQ → pR := pSm0 t n (pFc t n e)
def pLw (t : pT) (n : Nat) (w : Int) (f : pQ → pR) : Nat → pQ → pR
  | 0, s => (true, s)
  | m + 1, s => if pK t n s.1 = 1 ∧ pV t n s.1 = w then (if (f (pA t n s)).1 = true then pLw t n w f m (pW (-w) (f (pA t n s)).2) else f (pA t n s)) else (true, s)
def pHol (t : pT) (n : Nat) (o : Bool) (hol eit sum : pQ → pR) (s : pQ) : pR :=
  if pK t n s.1 = 1 ∧ pV t n s.1 = 20 then
    (if o = true then (if (hol (pA t n s)).1 = true then (true, pW (-20) (hol (pA t n s)).2) else hol (pA t n s)) else (false, s))
  else if pK t n s.1 = 91 then
    (if o = true then (if (eit (pA t n s)).1 = true then (if pK t n (eit (pA t n s)).2.1 = 93 then (true, pA t n (eit (pA t n s)).2) else (false, (eit (pA t n s)).2)) else eit (pA t n s)) else (false, s))
  else if (sum s).1 = true then
    (if pK t n (sum s).2.1 = 60 ∨ pK t n (sum s).2.1 = 62 ∨ pK t n (sum s).2.1 = 61 then
      (if (sum (pA t n (sum s).2)).1 = true then (true, pW (-(pK t n (sum s).2.1)) (sum (pA t n (sum s).2)).2) else sum (pA t n (sum s).2))
    else (false, (sum s).2))
  else sum s
def pBth (t : pT) (n : Nat) (hol : pQ → pR) (s : pQ) : pR := if (hol s).1 = true then pLw t n 19 hol 400 (hol s).2 else hol s
def pEi0 (t : pT) (n : Nat) (hol : pQ → pR) (s : pQ) : pR := if (pBth t n hol s).1 = true then pLw t n 18 (pBth t n hol) 400 (pBth t n hol s).2 else pBth t n hol s
def pHo (t : pT) (n : Nat) : Nat → pQ → pR
  | 0 => pHol t n false pNo pNo (pSum t n 0)
  | e + 1 => pHol t n true (pHo t n e) (pEi0 t n (pHo t n e)) (pSum t n (e + 1))
def pEi (t : pT) (n e : Nat) : pQ → pR := pEi0 t n (pHo t n e)
def pCb (t : pT) (n : Nat) (c : Int) (s : pQ) : pR := if c < 3 then pSum t n 8 s else pEi t n 8 s
def pCls (t : pT) (n : Nat) (s : pQ) (b : Nat → Int) : Bool × pQ × (Nat → Int) :=
  if pK t n s.1 = 1 ∧ 13 ≤ pV t n s.1 ∧ pV t n s.1 ≤ 17 ∧ b (pV t n s.1 - 13).toNat = -1 then
    (if (pCb t n (pV t n s.1 - 13) (pA t n s)).1 = true then
      (if pK t n (pCb t n (pV t n s.1 - 13) (pA t n s)).2.1 = 59 then (true, pW (-21) (pA t n (pCb t n (pV t n s.1 - 13) (pA t n s)).2), zu b (pV t n s.1 - 13).toNat s.2.1)
      else (false, (pCb t n (pV t n s.1 - 13) (pA t n s)).2, zu b (pV t n s.1 - 13).toNat s.2.1))
    else (false, (pCb t n (pV t n s.1 - 13) (pA t n s)).2, zu b (pV t n s.1 - 13).toNat s.2.1))
  else (false, s, b)
def pRd (t : pT) (n : Nat) : Nat → pQ → (Nat → Int) → Bool × pQ × (Nat → Int)
  | 0, s, b => (true, s, b)
  | m + 1, s, b => if pK t n s.1 = 0 then (true, s, b) else if (pCls t n s b).1 = true then pRd t n m (pCls t n s b).2.1 (pCls t n s b).2.2 else pCls t n s b
def pRead (t : pT) (n : Nat) (c : Nat → Int) : Bool × pQ × (Nat → Int) := pRd t n 400 (pSk t n 0, 0, c) (fun _ => -1)
/-- the FAULT -/
def pFa (t : pT) (n : Nat) (c : Nat → Int) : Int := if (pRead t n c).1 = true then -1 else (((pRead t n c).2.1.1 : Nat) : Int)
/-! how far a reading goes: within the text; no more is written than was read -/
def pG (n : Nat) (f : pQ → pR) : Prop := ∀ s : pQ, s.1 ≤ n → s.1 ≤ (f s).2.1 ∧ (f s).2.1 ≤ n ∧ s.2.1 ≤ (f s).2.2.1 ∧ (f s).2.2.1 + s.1 ≤ s.2.1 + (f s).2.1 ∧ ((f s).1 = true → s.1 < (f s).2.1 ∧ s.2.1 < (f s).2.2.1) ∧ ∀ i, i < s.2.1 → (f s).2.2.2 i = s.2.2 i
theorem pG_no : pG n pNo := fun s h => ⟨Nat.le_refl _, h, Nat.le_refl _, by show s.2.1 + s.1 ≤ s.2.1 + s.1; omega, fun z => (by cases z), fun _ _ => rfl⟩
theorem pG_w (h : s.1 < n) (x : Int) : s.1 ≤ (pA t n (pW x s)).1 ∧ (pA t n (pW x s)).1 ≤ n ∧ s.2.1 ≤ (pA t n (pW x s)).2.1 ∧ (pA t n (pW x s)).2.1 + s.1 ≤ s.2.1 + (pA t n (pW x s)).1 ∧ (s.1 < (pA t n (pW x s)).1 ∧ s.2.1 < (pA t n (pW x s)).2.1) ∧ ∀ i, i < s.2.1 → (pA t n (pW x s)).2.2 i = s.2.2 i := by
  have b := pNx_b (t := t) (n := n) (p := s.1) (by omega)
  show s.1 ≤ pNx t n s.1 ∧ pNx t n s.1 ≤ n ∧ s.2.1 ≤ s.2.1 + 1 ∧ s.2.1 + 1 + s.1 ≤ s.2.1 + pNx t n s.1 ∧ (s.1 < pNx t n s.1 ∧ s.2.1 < s.2.1 + 1) ∧ ∀ i, i < s.2.1 → zu s.2.2 s.2.1 x i = s.2.2 i
  exact ⟨by omega, by omega, by omega, by omega, ⟨by omega, by omega⟩, fun i hi => zu_ne (by omega)⟩
theorem pG_fac {o : Bool} {sub : pQ → pR} (H : pG n sub) : pG n (pFac t n o sub) := by
  intro s h
  have b := pNx_b (t := t) (n := n) (p := s.1) h
  unfold pFac
  split
  · rename_i c
    have w := pG_w (t := t) (s := s) (pK_lt (t := t) (n := n) (p := s.1) (by omega)) (pV t n s.1)
    exact ⟨w.1, w.2.1, w.2.2.1, w.2.2.2.1, fun _ => w.2.2.2.2.1, w.2.2.2.2.2⟩
  · split
    · rename_i c
      have w := pG_w (t := t) (s := s) (pK_lt (t := t) (n := n) (p := s.1) (by omega)) (-1 - pV t n s.1)
      exact ⟨w.1, w.2.1, w.2.2.1, w.2.2.2.1, fun _ => w.2.2.2.2.1, w.2.2.2.2.2⟩
    · split
      · rename_i c
        have hp := pK_lt (t := t) (n := n) (p := s.1) (by omega)
        have g := H (pA t n s) (by show pNx t n s.1 ≤ n; omega)
        have g : pNx t n s.1 ≤ (sub (pA t n s)).2.1 ∧ (sub (pA t n s)).2.1 ≤ n ∧ s.2.1 ≤ (sub (pA t n s)).2.2.1 ∧ (sub (pA t n s)).2.2.1 + pNx t n s.1 ≤ s.2.1 + (sub (pA t n s)).2.1 ∧ ((sub (pA t n s)).1 = true → pNx t n s.1 < (sub (pA t n s)).2.1 ∧ s.2.1 < (sub (pA t n s)).2.2.1) ∧ ∀ i, i < s.2.1 → (sub (pA t n s)).2.2.2 i = s.2.2 i := g
        obtain ⟨g1, g2, g3, g4, g5, g6⟩ := g
        split
        · rename_i c1
          have g5 := g5 c1
          split
          · have b2 := pNx_b (t := t) (n := n) (p := (sub (pA t n s)).2.1) g2
            show s.1 ≤ pNx t n (sub (pA t n s)).2.1 ∧ pNx t n (sub (pA t n s)).2.1 ≤ n ∧ s.2.1 ≤ (sub (pA t n s)).2.2.1 ∧ (sub (pA t n s)).2.2.1 + s.1 ≤ s.2.1 + pNx t n (sub (pA t n s)).2.1 ∧ (true = true → s.1 < pNx t n (sub (pA t n s)).2.1 ∧ s.2.1 < (sub (pA t n s)).2.2.1) ∧ ∀ i, i < s.2.1 → (sub (pA t n s)).2.2.2 i = s.2.2 i
            exact ⟨by omega, by omega, by omega, by omega, fun _ => ⟨by omega, by omega⟩, g6⟩
          · show s.1 ≤ (sub (pA t n s)).2.1 ∧ (sub (pA t n s)).2.1 ≤ n ∧ s.2.1 ≤ (sub (pA t n s)).2.2.1 ∧ (sub (pA t n s)).2.2.1 + s.1 ≤ s.2.1 + (sub (pA t n s)).2.1 ∧ (false = true → _) ∧ _
            exact ⟨by omega, g2, by omega, by omega, fun z => (by cases z), g6⟩
        · exact ⟨by omega, g2, by omega, by omega, fun z => absurd z ‹_›, g6⟩
      · exact ⟨Nat.le_refl _, h, Nat.le_refl _, by show s.2.1 + s.1 ≤ s.2.1 + s.1; omega, fun z => (by cases z), fun _ _ => rfl⟩
theorem pG_lp {o1 o2 : Int} {f : pQ → pR} (H : pG n f) (h1 : o1 ≠ 0) (h2 : o2 ≠ 0) : ∀ (m : Nat) (s : pQ), s.1 ≤ n → s.1 ≤ (pLp t n o1 o2 f m s).2.1 ∧ (pLp t n o1 o2 f m s).2.1 ≤ n ∧ s.2.1 ≤ (pLp t n o1 o2 f m s).2.2.1 ∧ (pLp t n o1 o2 f m s).2.2.1 + s.1 ≤ s.2.1 + (pLp t n o1 o2 f m s).2.1 ∧ ∀ i, i < s.2.1 → (pLp t n o1 o2 f m s).2.2.2 i = s.2.2 i
  | 0, s, h => ⟨Nat.le_refl _, h, Nat.le_refl _, by show s.2.1 + s.1 ≤ s.2.1 + s.1; omega, fun _ _ => rfl⟩
  | m + 1, s, h => by
    have b := pNx_b (t := t) (n := n) (p := s.1) h
    unfold pLp
    split
    · rename_i c
      have hp := pK_lt (t := t) (n := n) (p := s.1) (by omega)
      have g := H (pA t n s) (by show pNx t n s.1 ≤ n; omega)
      have g : pNx t n s.1 ≤ (f (pA t n s)).2.1 ∧ (f (pA t n s)).2.1 ≤ n ∧ s.2.1 ≤ (f (pA t n s)).2.2.1 ∧ (f (pA t n s)).2.2.1 + pNx t n s.1 ≤ s.2.1 + (f (pA t n s)).2.1 ∧ ((f (pA t n s)).1 = true → pNx t n s.1 < (f (pA t n s)).2.1 ∧ s.2.1 < (f (pA t n s)).2.2.1) ∧ ∀ i, i < s.2.1 → (f (pA t n s)).2.2.2 i = s.2.2 i := g
      obtain ⟨g1, g2, g3, g4, g5, g6⟩ := g
      split
      · rename_i c1
        have g5 := g5 c1
        have r := pG_lp H h1 h2 m (pW (-(pK t n s.1)) (f (pA t n s)).2) g2
        obtain ⟨r1, r2, r3, r4, r5⟩ := r
        have r1 : (f (pA t n s)).2.1 ≤ _ := r1
        have r3 : (f (pA t n s)).2.2.1 + 1 ≤ _ := r3
        have r4 : _ + (f (pA t n s)).2.1 ≤ (f (pA t n s)).2.2.1 + 1 + _ := r4
        refine ⟨by omega, r2, by omega, by omega, fun i hi => ?_⟩
        rw [r5 i (by show i < (f (pA t n s)).2.2.1 + 1; omega)]
        show zu _ _ _ i = _
        rw [zu_ne (by omega)]
        exact g6 i hi
      · exact ⟨by omega, g2, by omega, by omega, g6⟩
    · exact ⟨Nat.le_refl _, h, Nat.le_refl _, by show s.2.1 + s.1 ≤ s.2.1 + s.1; omega, fun _ _ => rfl⟩
theorem pG_pro {f : pQ → pR} (H : pG n f) : pG n (pPro t n f) := by
  intro s h
  obtain ⟨g1, g2, g3, g4, g5, g6⟩ := H s h
  unfold pPro
  split
  · rename_i c
    have g5 := g5 c
    obtain ⟨r1, r2, r3, r4, r5⟩ := pG_lp (t := t) (o1 := 42) (o2 := 47) H (by decide) (by decide) 400 (f s).2 g2
    exact ⟨by omega, r2, by omega, by omega, fun _ => ⟨by omega, by omega⟩, fun i hi => (r5 i (by omega)).trans (g6 i hi)⟩
  · exact ⟨g1, g2, g3, g4, g5, g6⟩
theorem pG_sm0 {f : pQ → pR} (H : pG n f) : pG n (pSm0 t n f) := by
  intro s h
  obtain ⟨g1, g2, g3, g4, g5, g6⟩ := pG_pro (t := t) H s h
  unfold pSm0
  split
  · rename_i c
    have g5 := g5 c
    obtain ⟨r1, r2, r3, r4, r5⟩ := pG_lp (t := t) (o1 := 43) (o2 := 45) (pG_pro (t := t) H) (by decide) (by decide) 400 (pPro t n f s).2 g2
    exact ⟨by omega, r2, by omega, by omega, fun _ => ⟨by omega, by omega⟩, fun i hi => (r5 i (by omega)).trans (g6 i hi)⟩
  · exact ⟨g1, g2, g3, g4, g5, g6⟩
theorem pG_fc : ∀ e : Nat, pG n (pFc t n e)
  | 0 => pG_fac pG_no
  | e + 1 => pG_fac (pG_sm0 (pG_fc e))
theorem pG_sum (e : Nat) : pG n (pSum t n e) := pG_sm0 (pG_fc e)
theorem pG_lw {w : Int} {f : pQ → pR} (H : pG n f) : ∀ (m : Nat) (s : pQ), s.1 ≤ n → s.1 ≤ (pLw t n w f m s).2.1 ∧ (pLw t n w f m s).2.1 ≤ n ∧ s.2.1 ≤ (pLw t n w f m s).2.2.1 ∧ (pLw t n w f m s).2.2.1 + s.1 ≤ s.2.1 + (pLw t n w f m s).2.1 ∧ ∀ i, i < s.2.1 → (pLw t n w f m s).2.2.2 i = s.2.2 i
  | 0, s, h => ⟨Nat.le_refl _, h, Nat.le_refl _, by show s.2.1 + s.1 ≤ s.2.1 + s.1; omega, fun _ _ => rfl⟩
  | m + 1, s, h => by
    have b := pNx_b (t := t) (n := n) (p := s.1) h
    unfold pLw
    split
    · rename_i c
      have hp := pK_lt (t := t) (n := n) (p := s.1) (by omega)
      have g := H (pA t n s) (by show pNx t n s.1 ≤ n; omega)
      have g : pNx t n s.1 ≤ (f (pA t n s)).2.1 ∧ (f (pA t n s)).2.1 ≤ n ∧ s.2.1 ≤ (f (pA t n s)).2.2.1 ∧ (f (pA t n s)).2.2.1 + pNx t n s.1 ≤ s.2.1 + (f (pA t n s)).2.1 ∧ ((f (pA t n s)).1 = true → pNx t n s.1 < (f (pA t n s)).2.1 ∧ s.2.1 < (f (pA t n s)).2.2.1) ∧ ∀ i, i < s.2.1 → (f (pA t n s)).2.2.2 i = s.2.2 i := g
      obtain ⟨g1, g2, g3, g4, g5, g6⟩ := g
      split
      · rename_i c1
        have g5 := g5 c1
        have r := pG_lw (w := w) H m (pW (-w) (f (pA t n s)).2) g2
        obtain ⟨r1, r2, r3, r4, r5⟩ := r
        have r1 : (f (pA t n s)).2.1 ≤ _ := r1
        have r3 : (f (pA t n s)).2.2.1 + 1 ≤ _ := r3
        have r4 : _ + (f (pA t n s)).2.1 ≤ (f (pA t n s)).2.2.1 + 1 + _ := r4
        refine ⟨by omega, r2, by omega, by omega, fun i hi => ?_⟩
        rw [r5 i (by show i < (f (pA t n s)).2.2.1 + 1; omega)]
        show zu _ _ _ i = _
        rw [zu_ne (by omega)]
        exact g6 i hi
      · exact ⟨by omega, g2, by omega, by omega, g6⟩
    · exact ⟨Nat.le_refl _, h, Nat.le_refl _, by show s.2.1 + s.1 ≤ s.2.1 + s.1; omega, fun _ _ => rfl⟩
theorem pG_hol {o : Bool} {hol eit sum : pQ → pR} (H1 : pG n hol) (H2 : pG n eit) (H3 : pG n sum) : pG n (pHol t n o hol eit sum) := by
  intro s h
  have b := pNx_b (t := t) (n := n) (p := s.1) h
  have triv : s.1 ≤ s.1 ∧ s.1 ≤ n ∧ s.2.1 ≤ s.2.1 ∧ s.2.1 + s.1 ≤ s.2.1 + s.1 ∧ (false = true → s.1 < s.1 ∧ s.2.1 < s.2.1) ∧ ∀ i, i < s.2.1 → s.2.2 i = s.2.2 i := ⟨Nat.le_refl _, h, Nat.le_refl _, Nat.le_refl _, fun z => (by cases z), fun _ _ => rfl⟩
  unfold pHol
  split
  · rename_i c
    have hp := pK_lt (t := t) (n := n) (p := s.1) (by omega)
    split
    · have g := H1 (pA t n s) (by show pNx t n s.1 ≤ n; omega)
      have g : pNx t n s.1 ≤ (hol (pA t n s)).2.1 ∧ (hol (pA t n s)).2.1 ≤ n ∧ s.2.1 ≤ (hol (pA t n s)).2.2.1 ∧ (hol (pA t n s)).2.2.1 + pNx t n s.1 ≤ s.2.1 + (hol (pA t n s)).2.1 ∧ ((hol (pA t n s)).1 = true → pNx t n s.1 < (hol (pA t n s)).2.1 ∧ s.2.1 < (hol (pA t n s)).2.2.1) ∧ ∀ i, i < s.2.1 → (hol (pA t n s)).2.2.2 i = s.2.2 i := g
      obtain ⟨g1, g2, g3, g4, g5, g6⟩ := g
      split
      · rename_i c1
        have g5 := g5 c1
        show s.1 ≤ (hol (pA t n s)).2.1 ∧ (hol (pA t n s)).2.1 ≤ n ∧ s.2.1 ≤ (hol (pA t n s)).2.2.1 + 1 ∧ (hol (pA t n s)).2.2.1 + 1 + s.1 ≤ s.2.1 + (hol (pA t n s)).2.1 ∧ (true = true → s.1 < (hol (pA t n s)).2.1 ∧ s.2.1 < (hol (pA t n s)).2.2.1 + 1) ∧ ∀ i, i < s.2.1 → zu _ _ _ i = s.2.2 i
        exact ⟨by omega, g2, by omega, by omega, fun _ => ⟨by omega, by omega⟩, fun i hi => by rw [zu_ne (by omega)]; exact g6 i hi⟩
      · exact ⟨by omega, g2, by omega, by omega, fun z => absurd z ‹_›, g6⟩
    · exact triv
  · split
    · rename_i c
      have hp := pK_lt (t := t) (n := n) (p := s.1) (by omega)
      split
      · have g := H2 (pA t n s) (by show pNx t n s.1 ≤ n; omega)
        have g : pNx t n s.1 ≤ (eit (pA t n s)).2.1 ∧ (eit (pA t n s)).2.1 ≤ n ∧ s.2.1 ≤ (eit (pA t n s)).2.2.1 ∧ (eit (pA t n s)).2.2.1 + pNx t n s.1 ≤ s.2.1 + (eit (pA t n s)).2.1 ∧ ((eit (pA t n s)).1 = true → pNx t n s.1 < (eit (pA t n s)).2.1 ∧ s.2.1 < (eit (pA t n s)).2.2.1) ∧ ∀ i, i < s.2.1 → (eit (pA t n s)).2.2.2 i = s.2.2 i := g
        obtain ⟨g1, g2, g3, g4, g5, g6⟩ := g
        split
        · rename_i c1
          have g5 := g5 c1
          split
          · have b2 := pNx_b (t := t) (n := n) (p := (eit (pA t n s)).2.1) g2
            show s.1 ≤ pNx t n (eit (pA t n s)).2.1 ∧ pNx t n (eit (pA t n s)).2.1 ≤ n ∧ s.2.1 ≤ (eit (pA t n s)).2.2.1 ∧ (eit (pA t n s)).2.2.1 + s.1 ≤ s.2.1 + pNx t n (eit (pA t n s)).2.1 ∧ (true = true → s.1 < pNx t n (eit (pA t n s)).2.1 ∧ s.2.1 < (eit (pA t n s)).2.2.1) ∧ ∀ i, i < s.2.1 → (eit (pA t n s)).2.2.2 i = s.2.2 i
            exact ⟨by omega, by omega, by omega, by omega, fun _ => ⟨by omega, by omega⟩, g6⟩
          · show s.1 ≤ (eit (pA t n s)).2.1 ∧ (eit (pA t n s)).2.1 ≤ n ∧ s.2.1 ≤ (eit (pA t n s)).2.2.1 ∧ (eit (pA t n s)).2.2.1 + s.1 ≤ s.2.1 + (eit (pA t n s)).2.1 ∧ (false = true → _) ∧ _
            exact ⟨by omega, g2, by omega, by omega, fun z => (by cases z), g6⟩
        · exact ⟨by omega, g2, by omega, by omega, fun z => absurd z ‹_›, g6⟩
      · exact triv
    · obtain ⟨g1, g2, g3, g4, g5, g6⟩ := H3 s h
      split
      · rename_i c1
        have g5 := g5 c1
        split
        · rename_i c2
          have b2 := pNx_b (t := t) (n := n) (p := (sum s).2.1) g2
          have hp := pK_lt (t := t) (n := n) (p := (sum s).2.1) (by omega)
          have r := H3 (pA t n (sum s).2) (by show pNx t n (sum s).2.1 ≤ n; omega)
          have r : pNx t n (sum s).2.1 ≤ (sum (pA t n (sum s).2)).2.1 ∧ (sum (pA t n (sum s).2)).2.1 ≤ n ∧ (sum s).2.2.1 ≤ (sum (pA t n (sum s).2)).2.2.1 ∧ (sum (pA t n (sum s).2)).2.2.1 + pNx t n (sum s).2.1 ≤ (sum s).2.2.1 + (sum (pA t n (sum s).2)).2.1 ∧ ((sum (pA t n (sum s).2)).1 = true → pNx t n (sum s).2.1 < (sum (pA t n (sum s).2)).2.1 ∧ (sum s).2.2.1 < (sum (pA t n (sum s).2)).2.2.1) ∧ ∀ i, i < (sum s).2.2.1 → (sum (pA t n (sum s).2)).2.2.2 i = (sum s).2.2.2 i := r
          obtain ⟨r1, r2, r3, r4, r5, r6⟩ := r
          split
          · rename_i c3
            have r5 := r5 c3
            show s.1 ≤ (sum (pA t n (sum s).2)).2.1 ∧ (sum (pA t n (sum s).2)).2.1 ≤ n ∧ s.2.1 ≤ (sum (pA t n (sum s).2)).2.2.1 + 1 ∧ (sum (pA t n (sum s).2)).2.2.1 + 1 + s.1 ≤ s.2.1 + (sum (pA t n (sum s).2)).2.1 ∧ (true = true → s.1 < (sum (pA t n (sum s).2)).2.1 ∧ s.2.1 < (sum (pA t n (sum s).2)).2.2.1 + 1) ∧ ∀ i, i < s.2.1 → zu _ _ _ i = s.2.2 i
            exact ⟨by omega, r2, by omega, by omega, fun _ => ⟨by omega, by omega⟩, fun i hi => by rw [zu_ne (by omega), r6 i (by omega)]; exact g6 i hi⟩
          · exact ⟨by omega, r2, by omega, by omega, fun z => absurd z ‹_›, fun i hi => (r6 i (by omega)).trans (g6 i hi)⟩
        · exact ⟨g1, g2, g3, g4, fun z => (by cases z), g6⟩
      · exact ⟨g1, g2, g3, g4, fun z => absurd z ‹_›, g6⟩
theorem pG_bth {hol : pQ → pR} (H : pG n hol) : pG n (pBth t n hol) := by
  intro s h
  obtain ⟨g1, g2, g3, g4, g5, g6⟩ := H s h
  unfold pBth
  split
  · rename_i c
    have g5 := g5 c
    obtain ⟨r1, r2, r3, r4, r5⟩ := pG_lw (t := t) (w := 19) H 400 (hol s).2 g2
    exact ⟨by omega, r2, by omega, by omega, fun _ => ⟨by omega, by omega⟩, fun i hi => (r5 i (by omega)).trans (g6 i hi)⟩
  · exact ⟨g1, g2, g3, g4, g5, g6⟩
theorem pG_ei0 {hol : pQ → pR} (H : pG n hol) : pG n (pEi0 t n hol) := by
  intro s h
  obtain ⟨g1, g2, g3, g4, g5, g6⟩ := pG_bth (t := t) H s h
  unfold pEi0
  split
  · rename_i c
    have g5 := g5 c
    obtain ⟨r1, r2, r3, r4, r5⟩ := pG_lw (t := t) (w := 18) (pG_bth (t := t) H) 400 (pBth t n hol s).2 g2
    exact ⟨by omega, r2, by omega, by omega, fun _ => ⟨by omega, by omega⟩, fun i hi => (r5 i (by omega)).trans (g6 i hi)⟩
  · exact ⟨g1, g2, g3, g4, g5, g6⟩
theorem pG_ho : ∀ e : Nat, pG n (pHo t n e)
  | 0 => pG_hol pG_no pG_no (pG_sum 0)
  | e + 1 => pG_hol (pG_ho e) (pG_ei0 (pG_ho e)) (pG_sum (e + 1))
theorem pG_ei (e : Nat) : pG n (pEi t n e) := pG_ei0 (pG_ho e)
theorem pG_cb (c : Int) : pG n (pCb t n c) := by
  intro s h
  unfold pCb
  split
  · exact pG_sum 8 s h
  · exact pG_ei 8 s h
end PR
