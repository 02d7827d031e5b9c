/-! codes of clauses: what they answer by names (steps as the class writes them) -/
section EV
abbrev eT : Type := (Nat → Int) × Nat
variable {N : Nat → Int} {c F G : Nat → Int} {p q : eT} {i j k m n h : Nat} {x y a b : Int}
def eBr (x : Int) : Int := max (-1000000) (min x 1000000)
/-- two values joined by a sign -/
def eJn (s a b : Int) : Int := if s = 43 then eBr (a + b) else if s = 45 then eBr (a - b) else if s = 42 then eBr (a * b) else if s = 47 then (if b = 0 then 0 else a.tdiv b) else if s = 60 then (if a < b then 1 else 0) else if s = 62 then (if b < a then 1 else 0) else if s = 61 then (if a = b then 1 else 0) else if s = 19 then i_and a b else i_or a b
def eSt (N : Nat → Int) (x : Int) (p : eT) : eT :=
  if 0 ≤ x then (zu p.1 p.2 x, p.2 + 1)
  else if -13 ≤ x then (zu p.1 p.2 (N (-1 - x).toNat), p.2 + 1)
  else if x = -20 then (zu p.1 (p.2 - 1) (1 - p.1 (p.2 - 1)), p.2)
  else (zu p.1 (p.2 - 2) (eJn (-x) (p.1 (p.2 - 2)) (p.1 (p.2 - 1))), p.2 - 1)
/-- m steps from place i on -/
def eRn (N c : Nat → Int) (i : Nat) : Nat → eT → eT
  | 0, p => p
  | m + 1, p => eSt N (c (i + m)) (eRn N c i m p)
def eNum (v : Int) : Prop := -1000000 ≤ v ∧ v ≤ 1000000
def eBit (v : Int) : Prop := v = 0 ∨ v = 1
/-- a step can be taken -/
def eOk (x : Int) (p : eT) : Prop := -13 ≤ x ∨ (x = -20 ∧ 1 ≤ p.2 ∧ eBit (p.1 (p.2 - 1))) ∨ ((x = -18 ∨ x = -19) ∧ 2 ≤ p.2 ∧ eBit (p.1 (p.2 - 2)) ∧ eBit (p.1 (p.2 - 1))) ∨ ((x = -43 ∨ x = -45 ∨ x = -42 ∨ x = -47 ∨ x = -60 ∨ x = -62 ∨ x = -61) ∧ 2 ≤ p.2 ∧ eNum (p.1 (p.2 - 2)) ∧ eNum (p.1 (p.2 - 1)))
/-- places i to j put one more on the stack, and never look below -/
def eSg (N c : Nat → Int) (P : Int → Prop) (i j : Nat) : Prop := i < j ∧ ∀ (T : Nat → Int) (h : Nat), (∀ m, m < j - i → eOk (c (i + m)) (eRn N c i m (T, h)) ∧ h ≤ (eRn N c i m (T, h)).2 ∧ (∀ r, r < h → (eRn N c i m (T, h)).1 r = T r)) ∧ (eRn N c i (j - i) (T, h)).2 = h + 1 ∧ P ((eRn N c i (j - i) (T, h)).1 h) ∧ ∀ r, r < h → (eRn N c i (j - i) (T, h)).1 r = T r
theorem eRn_add : ∀ (m2 : Nat) (p : eT), eRn N c i (m + m2) p = eRn N c (i + m) m2 (eRn N c i m p)
  | 0, _ => rfl
  | k + 1, p => by
    show eSt N (c (i + (m + k))) (eRn N c i (m + k) p) = eSt N (c (i + m + k)) (eRn N c (i + m) k (eRn N c i m p))
    rw [eRn_add k p, Nat.add_assoc]
theorem eRn_cg (H : ∀ r, i ≤ r → r < i + m → c r = F r) (p : eT) : ∀ k, k ≤ m → eRn N c i k p = eRn N F i k p
  | 0, _ => rfl
  | k + 1, hk => by
    show eSt N (c (i + k)) (eRn N c i k p) = eSt N (F (i + k)) (eRn N F i k p)
    rw [eRn_cg H p k (by omega), H (i + k) (by omega) (by omega)]
theorem eSg_cg {P : Int → Prop} (S : eSg N c P i j) (H : ∀ r, i ≤ r → r < j → c r = F r) : eSg N F P i j := by
  obtain ⟨h1, h2⟩ := S
  have H2 : ∀ r, i ≤ r → r < i + (j - i) → c r = F r := fun r p q => H r p (by omega)
  refine ⟨h1, fun T h => ?_⟩
  obtain ⟨a1, a2, a3, a4⟩ := h2 T h
  rw [eRn_cg H2 (T, h) (j - i) (Nat.le_refl _)] at a2 a3 a4
  refine ⟨fun m hm => ?_, a2, a3, a4⟩
  have := a1 m hm
  rw [eRn_cg H2 (T, h) m (by omega), H (i + m) (by omega) (by omega)] at this
  exact this
/-- the same codes elsewhere -/
theorem eRn_sh (H : ∀ r, r < m → c (i + r) = F (k + r)) (p : eT) : ∀ n, n ≤ m → eRn N c i n p = eRn N F k n p
  | 0, _ => rfl
  | n + 1, hn => by
    show eSt N (c (i + n)) (eRn N c i n p) = eSt N (F (k + n)) (eRn N F k n p)
    rw [eRn_sh H p n (by omega), H n (by omega)]
theorem eSg_sh {P : Int → Prop} (S : eSg N c P i (i + m)) (H : ∀ r, r < m → c (i + r) = F (k + r)) : eSg N F P k (k + m) := by
  obtain ⟨h1, h2⟩ := S
  refine ⟨by omega, fun T h => ?_⟩
  obtain ⟨a1, a2, a3, a4⟩ := h2 T h
  rw [Nat.add_sub_cancel_left] at a1 a2 a3 a4 ⊢
  rw [eRn_sh H (T, h) m (Nat.le_refl _)] at a2 a3 a4
  refine ⟨fun n hn => ?_, a2, a3, a4⟩
  have := a1 n hn
  rw [eRn_sh H (T, h) n (by omega), H n hn] at this
  exact this
theorem eSg_one {P : Int → Prop} (hx : -13 ≤ c i) (hp : ∀ v, v = (if 0 ≤ c i then c i else N (-1 - c i).toNat) → P v) : eSg N c P i (i + 1) := by
  refine ⟨by omega, fun T h => ?_⟩
  rw [Nat.add_sub_cancel_left]
  have e : eRn N c i 1 (T, h) = (zu T h (if 0 ≤ c i then c i else N (-1 - c i).toNat), h + 1) := by
    show eSt N (c (i + 0)) (T, h) = _
    unfold eSt
    rw [Nat.add_zero]
    by_cases q : 0 ≤ c i
    · rw [if_pos q, if_pos q]
    · rw [if_neg q, if_neg q, if_pos hx]
  rw [e]
  refine ⟨fun m hm => ?_, rfl, ?_, fun r hr => zu_ne (by omega)⟩
  · obtain rfl : m = 0 := by omega
    exact ⟨Or.inl hx, Nat.le_refl _, fun r _ => rfl⟩
  · show P (zu T h _ h)
    rw [zu_eq]
    exact hp _ rfl
theorem eSg_bin {P Q : Int → Prop} (S1 : eSg N c P i j) (S2 : eSg N c P j k) (hx : ∀ (T : Nat → Int) (h : Nat), P (T h) → P (T (h + 1)) → eOk (c k) (T, h + 2) ∧ ¬ (-13 ≤ c k) ∧ c k ≠ -20 ∧ Q (eJn (-(c k)) (T h) (T (h + 1)))) : eSg N c Q i (k + 1) := by
  obtain ⟨h1, s1⟩ := S1
  obtain ⟨h2, s2⟩ := S2
  refine ⟨by omega, fun T h => ?_⟩
  obtain ⟨a1, a2, a3, a4⟩ := s1 T h
  have eU : ∃ U u, eRn N c i (j - i) (T, h) = (U, u) := ⟨_, _, rfl⟩
  obtain ⟨U, u, eU⟩ := eU
  rw [eU] at a2 a3 a4
  have a2 : u = h + 1 := a2
  subst a2
  obtain ⟨b1, b2, b3, b4⟩ := s2 U (h + 1)
  have eV : ∃ V v, eRn N c j (k - j) (U, h + 1) = (V, v) := ⟨_, _, rfl⟩
  obtain ⟨V, v, eV⟩ := eV
  rw [eV] at b2 b3 b4
  have b2 : v = h + 1 + 1 := b2
  subst b2
  have eW : eRn N c i (k - i) (T, h) = (V, h + 2) := by
    have := eRn_add (N := N) (c := c) (i := i) (m := j - i) (k - j) (T, h)
    rw [show j - i + (k - j) = k - i by omega, eU, show i + (j - i) = j by omega, eV] at this
    exact this
  have vh : V h = U h := b4 h (by omega)
  have w := hx V h (by rw [vh]; exact a3) b3
  have eX : eRn N c i (k + 1 - i) (T, h) = (zu V h (eJn (-(c k)) (V h) (V (h + 1))), h + 1) := by
    rw [show k + 1 - i = (k - i) + 1 by omega]
    show eSt N (c (i + (k - i))) (eRn N c i (k - i) (T, h)) = _
    rw [eW, show i + (k - i) = k by omega]
    unfold eSt
    rw [if_neg (by omega), if_neg w.2.1, if_neg w.2.2.1]
    rfl
  rw [eX]
  refine ⟨fun m hm => ?_, rfl, ?_, fun r hr => ?_⟩
  · by_cases c1 : m < j - i
    · exact a1 m c1
    · by_cases c2 : m < k - i
      · obtain ⟨d1, d2, d3⟩ := b1 (m - (j - i)) (by omega)
        have e2 := eRn_add (N := N) (c := c) (i := i) (m := j - i) (m - (j - i)) (T, h)
        rw [show j - i + (m - (j - i)) = m by omega, eU, show i + (j - i) = j by omega] at e2
        rw [e2, show i + m = j + (m - (j - i)) by omega]
        exact ⟨d1, by omega, fun r hr => (d3 r (by omega)).trans (a4 r hr)⟩
      · obtain rfl : m = k - i := by omega
        rw [eW, show i + (k - i) = k by omega]
        exact ⟨w.1, by show h ≤ h + 2; omega, fun r hr => (b4 r (by omega)).trans (a4 r hr)⟩
  · show Q (zu V h _ h)
    rw [zu_eq]
    exact w.2.2.2
  · show zu V h _ r = T r
    rw [zu_ne (by omega)]
    exact (b4 r (by omega)).trans (a4 r hr)
theorem eSg_not (S1 : eSg N c eBit i k) (hx : c k = -20) : eSg N c eBit i (k + 1) := by
  obtain ⟨h1, s1⟩ := S1
  refine ⟨by omega, fun T h => ?_⟩
  obtain ⟨a1, a2, a3, a4⟩ := s1 T h
  have eU : ∃ U u, eRn N c i (k - i) (T, h) = (U, u) := ⟨_, _, rfl⟩
  obtain ⟨U, u, eU⟩ := eU
  rw [eU] at a2 a3 a4
  have a2 : u = h + 1 := a2
  subst a2
  have a3 : eBit (U h) := a3
  have eX : eRn N c i (k + 1 - i) (T, h) = (zu U h (1 - U h), h + 1) := by
    rw [show k + 1 - i = (k - i) + 1 by omega]
    show eSt N (c (i + (k - i))) (eRn N c i (k - i) (T, h)) = _
    rw [eU, show i + (k - i) = k by omega]
    unfold eSt
    rw [if_neg (by omega), if_neg (by omega), if_pos hx]
    rfl
  rw [eX]
  refine ⟨fun m hm => ?_, rfl, ?_, fun r hr => ?_⟩
  · by_cases c1 : m < k - i
    · exact a1 m c1
    · obtain rfl : m = k - i := by omega
      rw [eU, show i + (k - i) = k by omega]
      exact ⟨Or.inr (Or.inl ⟨hx, by show 1 ≤ h + 1; omega, a3⟩), by show h ≤ h + 1; omega, a4⟩
  · show eBit (zu U h _ h)
    rw [zu_eq]
    unfold eBit at a3 ⊢
    omega
  · show zu U h _ r = T r
    rw [zu_ne (by omega)]
    exact a4 r hr
theorem eBr_n (v : Int) : eNum (eBr v) := by
  unfold eNum eBr
  omega
theorem tdiv_n (ha : eNum a) : eNum (a.tdiv b) := by
  unfold eNum at ha ⊢
  have h1 := Int.natAbs_tdiv_le_natAbs a b
  omega
theorem eSg_num (S1 : eSg N c eNum i j) (S2 : eSg N c eNum j k) (hx : c k = -43 ∨ c k = -45 ∨ c k = -42 ∨ c k = -47) : eSg N c eNum i (k + 1) := by
  refine eSg_bin S1 S2 (fun T h p q => ⟨Or.inr (Or.inr (Or.inr ⟨by omega, by show 2 ≤ h + 2; omega, p, q⟩)), by omega, by omega, ?_⟩)
  unfold eJn
  rcases hx with z | z | z | z <;> rw [z]
  · rw [if_pos (by decide)]; exact eBr_n _
  · rw [if_neg (by decide), if_pos (by decide)]; exact eBr_n _
  · rw [if_neg (by decide), if_neg (by decide), if_pos (by decide)]; exact eBr_n _
  · rw [if_neg (by decide), if_neg (by decide), if_neg (by decide), if_pos (by decide)]
    split
    · unfold eNum; omega
    · exact tdiv_n p
theorem eBit_if {P : Prop} [Decidable P] : eBit (if P then 1 else 0) := by
  unfold eBit
  split
  · exact Or.inr rfl
  · exact Or.inl rfl
theorem eSg_cmp (S1 : eSg N c eNum i j) (S2 : eSg N c eNum j k) (hx : c k = -60 ∨ c k = -62 ∨ c k = -61) : eSg N c eBit i (k + 1) := by
  refine eSg_bin S1 S2 (fun T h p q => ⟨Or.inr (Or.inr (Or.inr ⟨by omega, by show 2 ≤ h + 2; omega, p, q⟩)), by omega, by omega, ?_⟩)
  unfold eJn
  rcases hx with z | z | z <;> rw [z]
  · rw [if_neg (by decide), if_neg (by decide), if_neg (by decide), if_neg (by decide), if_pos (by decide)]; exact eBit_if
  · rw [if_neg (by decide), if_neg (by decide), if_neg (by decide), if_neg (by decide), if_neg (by decide), if_pos (by decide)]; exact eBit_if
  · rw [if_neg (by decide), if_neg (by decide), if_neg (by decide), if_neg (by decide), if_neg (by decide), if_neg (by decide), if_pos (by decide)]; exact eBit_if
theorem eBit_and (ha : eBit a) (hb : eBit b) : eBit (i_and a b) := by
  unfold eBit at ha hb
  rcases ha with rfl | rfl <;> rcases hb with rfl | rfl <;> (unfold eBit; decide)
theorem eBit_or (ha : eBit a) (hb : eBit b) : eBit (i_or a b) := by
  unfold eBit at ha hb
  rcases ha with rfl | rfl <;> rcases hb with rfl | rfl <;> (unfold eBit; decide)
theorem eSg_bit (S1 : eSg N c eBit i j) (S2 : eSg N c eBit j k) (hx : c k = -19 ∨ c k = -18) : eSg N c eBit i (k + 1) := by
  refine eSg_bin S1 S2 (fun T h p q => ⟨Or.inr (Or.inr (Or.inl ⟨by omega, by show 2 ≤ h + 2; omega, p, q⟩)), by omega, by omega, ?_⟩)
  unfold eJn
  rcases hx with z | z <;> rw [z]
  · rw [if_neg (by decide), if_neg (by decide), if_neg (by decide), if_neg (by decide), if_neg (by decide), if_neg (by decide), if_neg (by decide), if_pos (by decide)]; exact eBit_and p q
  · rw [if_neg (by decide), if_neg (by decide), if_neg (by decide), if_neg (by decide), if_neg (by decide), if_neg (by decide), if_neg (by decide), if_neg (by decide)]; exact eBit_or p q
/-! what is read puts such codes -/
def eNs (N : Nat → Int) : Prop := ∀ j, j < 13 → eNum (N j)
def eG (n : Nat) (P : Int → Prop) (f : pQ → pR) : Prop := ∀ (N : Nat → Int), eNs N → ∀ s : pQ, s.1 ≤ n → (f s).1 = true → eSg N (f s).2.2.2 P s.2.1 (f s).2.2.1
variable {t : pT} {e : Nat} {f hol eit sum sub : pQ → pR} {o : Bool} {P : Int → Prop}
theorem eG_no : eG n P pNo := fun _ _ _ _ z => by cases z
theorem pV_0 (hb : ∀ i, i < n → 0 ≤ t i) {p : Nat} (hk : pK t n p = 2) : 0 ≤ pV t n p := by
  have hp := pK_lt (t := t) (n := n) (p := p) (by omega)
  unfold pK at hk
  rw [if_pos hp] at hk
  by_cases h1 : pLet (t p) = true
  · rw [if_pos h1] at hk; omega
  · rw [if_neg h1] at hk
    by_cases h2 : pDig (t p) = true
    · unfold pV
      rw [if_neg h1]
      unfold pVl
      have he : pEn t n p = pRun pDig t n p := by unfold pEn; rw [if_pos hp, if_neg h1, if_pos h2]
      have hr := pRun_b (P := pDig) (t := t) (n := n) (n - p) p rfl (by omega)
      rw [he]
      have key : ∀ (f q : Nat) (v : Int), 0 ≤ v → p ≤ q → q + f ≤ pRun pDig t n p → 0 ≤ pNu t f q v := by
        intro f
        induction f with
        | zero => intro q v hv _ _; exact hv
        | succ f IH =>
          intro q v hv hq hf
          have d := pDig_t.mp (hr.2.2.1 q hq (by omega))
          exact IH (q + 1) _ (by omega) (by omega) (by omega)
      exact key _ p 0 (by omega) (Nat.le_refl _) (by omega)
    · rw [if_neg h2] at hk
      by_cases h3 : pSig (t p) = true
      · rw [if_pos h3] at hk
        have := pSig_t.mp h3
        omega
      · rw [if_neg h3] at hk; omega
theorem eG_fac (hb : ∀ i, i < n → 0 ≤ t i) (H : eG n eNum sub) (Hg : pG n sub) : eG n eNum (pFac t n o sub) := by
  intro N hN s h
  unfold pFac
  split
  · rename_i c1
    intro _
    have v0 := pV_0 (t := t) (n := n) hb c1.1
    show eSg N (zu s.2.2 s.2.1 (pV t n s.1)) eNum s.2.1 (s.2.1 + 1)
    refine eSg_one (by rw [zu_eq]; omega) (fun v hv => ?_)
    rw [zu_eq, if_pos v0] at hv
    rw [hv]
    unfold eNum
    omega
  · split
    · rename_i c1 c2
      intro _
      show eSg N (zu s.2.2 s.2.1 (-1 - pV t n s.1)) eNum s.2.1 (s.2.1 + 1)
      refine eSg_one (by rw [zu_eq]; omega) (fun v hv => ?_)
      rw [zu_eq, if_neg (by omega)] at hv
      rw [hv]
      exact hN _ (by omega)
    · split
      · rename_i c3
        have hp := pK_lt (t := t) (n := n) (p := s.1) (by omega)
        have b := pNx_b (t := t) (n := n) (p := s.1) h
        split
        · rename_i c4
          have g := H N hN (pA t n s) (by show pNx t n s.1 ≤ n; omega) c4
          split
          · intro _; exact g
          · intro z; cases z
        · intro z; exact absurd z ‹_›
      · intro z; cases z
theorem eG_lp {o1 o2 : Int} (H : eG n eNum f) (Hg : pG n f) (h1 : o1 ≠ 0) (h2 : o2 ≠ 0) (ho : ∀ z : Int, z = o1 ∨ z = o2 → -z = -43 ∨ -z = -45 ∨ -z = -42 ∨ -z = -47) {N : Nat → Int} (hN : eNs N) (i0 : Nat) : ∀ (m : Nat) (s : pQ), s.1 ≤ n → eSg N s.2.2 eNum i0 s.2.1 → (pLp t n o1 o2 f m s).1 = true → eSg N (pLp t n o1 o2 f m s).2.2.2 eNum i0 (pLp t n o1 o2 f m s).2.2.1
  | 0, s, _, S, _ => S
  | m + 1, s, h, S, z => by
    have b := pNx_b (t := t) (n := n) (p := s.1) h
    unfold pLp at z ⊢
    split
    · rename_i c1
      rw [if_pos c1] at z
      have hp := pK_lt (t := t) (n := n) (p := s.1) (by omega)
      have hle : (pA t n s).1 ≤ n := by show pNx t n s.1 ≤ n; omega
      have g := Hg (pA t n s) hle
      split
      · rename_i c2
        rw [if_pos c2] at z
        have S2 := H N hN (pA t n s) hle c2
        have S2 : eSg N (f (pA t n s)).2.2.2 eNum s.2.1 (f (pA t n s)).2.2.1 := S2
        have S1 : eSg N (f (pA t n s)).2.2.2 eNum i0 s.2.1 := eSg_cg S (fun r _ hr => (g.2.2.2.2.2 r hr).symm)
        refine eG_lp H Hg h1 h2 ho hN i0 m _ g.2.1 ?_ z
        show eSg N (zu (f (pA t n s)).2.2.2 (f (pA t n s)).2.2.1 (-(pK t n s.1))) eNum i0 ((f (pA t n s)).2.2.1 + 1)
        refine eSg_num (j := s.2.1) (eSg_cg S1 (fun r _ hr => (zu_ne ?_).symm)) (eSg_cg S2 (fun r _ hr => (zu_ne ?_).symm)) (by rw [zu_eq]; exact ho _ c1)
        · have := S2.1; omega
        · omega
      · rename_i c2
        rw [if_neg c2] at z
        exact absurd z c2
    · rename_i c1
      exact S
theorem eG_pro (H : eG n eNum f) (Hg : pG n f) : eG n eNum (pPro t n f) := by
  intro N hN s h
  unfold pPro
  split
  · rename_i c1
    intro z
    exact eG_lp H Hg (by decide) (by decide) (fun z hz => by omega) hN s.2.1 400 _ (Hg s h).2.1 (H N hN s h c1) z
  · intro z; exact absurd z ‹_›
theorem eG_sm0 (H : eG n eNum f) (Hg : pG n f) : eG n eNum (pSm0 t n f) := by
  intro N hN s h
  have Hp := eG_pro (t := t) H Hg
  have Gp := pG_pro (t := t) Hg
  unfold pSm0
  split
  · rename_i c1
    intro z
    exact eG_lp Hp Gp (by decide) (by decide) (fun z hz => by omega) hN s.2.1 400 _ (Gp s h).2.1 (Hp N hN s h c1) z
  · intro z; exact absurd z ‹_›
theorem eG_fc (hb : ∀ i, i < n → 0 ≤ t i) : ∀ e : Nat, eG n eNum (pFc t n e)
  | 0 => eG_fac hb eG_no pG_no
  | e + 1 => eG_fac hb (eG_sm0 (eG_fc hb e) (pG_fc e)) (pG_sm0 (pG_fc e))
theorem eG_sum (hb : ∀ i, i < n → 0 ≤ t i) (e : Nat) : eG n eNum (pSum t n e) := eG_sm0 (eG_fc hb e) (pG_fc e)
theorem eG_lw {w : Int} (H : eG n eBit f) (Hg : pG n f) (hw : w = 19 ∨ w = 18) {N : Nat → Int} (hN : eNs N) (i0 : Nat) : ∀ (m : Nat) (s : pQ), s.1 ≤ n → eSg N s.2.2 eBit i0 s.2.1 → (pLw t n w f m s).1 = true → eSg N (pLw t n w f m s).2.2.2 eBit i0 (pLw t n w f m s).2.2.1
  | 0, s, _, S, _ => S
  | m + 1, s, h, S, z => by
    have b := pNx_b (t := t) (n := n) (p := s.1) h
    unfold pLw at z ⊢
    split
    · rename_i c1
      rw [if_pos c1] at z
      have hp := pK_lt (t := t) (n := n) (p := s.1) (by omega)
      have hle : (pA t n s).1 ≤ n := by show pNx t n s.1 ≤ n; omega
      have g := Hg (pA t n s) hle
      split
      · rename_i c2
        rw [if_pos c2] at z
        have S2 := H N hN (pA t n s) hle c2
        have S2 : eSg N (f (pA t n s)).2.2.2 eBit s.2.1 (f (pA t n s)).2.2.1 := S2
        have S1 : eSg N (f (pA t n s)).2.2.2 eBit i0 s.2.1 := eSg_cg S (fun r _ hr => (g.2.2.2.2.2 r hr).symm)
        refine eG_lw H Hg hw hN i0 m _ g.2.1 ?_ z
        show eSg N (zu (f (pA t n s)).2.2.2 (f (pA t n s)).2.2.1 (-w)) eBit i0 ((f (pA t n s)).2.2.1 + 1)
        refine eSg_bit (j := s.2.1) (eSg_cg S1 (fun r _ hr => (zu_ne ?_).symm)) (eSg_cg S2 (fun r _ hr => (zu_ne ?_).symm)) (by rw [zu_eq]; omega)
        · have := S2.1; omega
        · omega
      · rename_i c2
        rw [if_neg c2] at z
        exact absurd z c2
    · exact S
theorem eG_hol (H1 : eG n eBit hol) (G1 : pG n hol) (H2 : eG n eBit eit) (H3 : eG n eNum sum) (G3 : pG n sum) : eG n eBit (pHol t n o hol eit sum) := by
  intro N hN s h
  have b := pNx_b (t := t) (n := n) (p := s.1) h
  unfold pHol
  split
  · rename_i c1
    have hp := pK_lt (t := t) (n := n) (p := s.1) (by omega)
    have hle : (pA t n s).1 ≤ n := by show pNx t n s.1 ≤ n; omega
    split
    · split
      · rename_i c2
        intro _
        have S := H1 N hN (pA t n s) hle c2
        show eSg N (zu (hol (pA t n s)).2.2.2 (hol (pA t n s)).2.2.1 (-20)) eBit s.2.1 ((hol (pA t n s)).2.2.1 + 1)
        exact eSg_not (eSg_cg S (fun r _ hr => (zu_ne (by omega)).symm)) zu_eq
      · intro z; exact absurd z ‹_›
    · intro z; cases z
  · split
    · rename_i c1
      have hp := pK_lt (t := t) (n := n) (p := s.1) (by omega)
      have hle : (pA t n s).1 ≤ n := by show pNx t n s.1 ≤ n; omega
      split
      · split
        · rename_i c2
          have S := H2 N hN (pA t n s) hle c2
          split
          · intro _; exact S
          · intro z; cases z
        · intro z; exact absurd z ‹_›
      · intro z; cases z
    · split
      · rename_i c1
        have S1 := H3 N hN s h c1
        have g1 := G3 s h
        split
        · rename_i c2
          have b2 := pNx_b (t := t) (n := n) (p := (sum s).2.1) g1.2.1
          have hle : (pA t n (sum s).2).1 ≤ n := by show pNx t n (sum s).2.1 ≤ n; omega
          split
          · rename_i c3
            intro _
            have S2 := H3 N hN (pA t n (sum s).2) hle c3
            have S2 : eSg N (sum (pA t n (sum s).2)).2.2.2 eNum (sum s).2.2.1 (sum (pA t n (sum s).2)).2.2.1 := S2
            have g2 := G3 (pA t n (sum s).2) hle
            have q : ∀ r, r < (sum s).2.2.1 → (sum (pA t n (sum s).2)).2.2.2 r = (sum s).2.2.2 r := g2.2.2.2.2.2
            show eSg N (zu (sum (pA t n (sum s).2)).2.2.2 (sum (pA t n (sum s).2)).2.2.1 (-(pK t n (sum s).2.1))) eBit s.2.1 ((sum (pA t n (sum s).2)).2.2.1 + 1)
            refine eSg_cmp (j := (sum s).2.2.1) (eSg_cg S1 (fun r _ hr => ?_)) (eSg_cg S2 (fun r _ hr => (zu_ne (by omega)).symm)) (by rw [zu_eq]; omega)
            rw [zu_ne (by have := S2.1; omega)]
            exact (q r hr).symm
          · intro z; exact absurd z ‹_›
        · intro z; cases z
      · intro z; exact absurd z ‹_›
theorem eG_bth (H : eG n eBit hol) (Hg : pG n hol) : eG n eBit (pBth t n hol) := by
  intro N hN s h
  unfold pBth
  split
  · rename_i c1
    intro z
    exact eG_lw H Hg (Or.inl rfl) hN s.2.1 400 _ (Hg s h).2.1 (H N hN s h c1) z
  · intro z; exact absurd z ‹_›
theorem eG_ei0 (H : eG n eBit hol) (Hg : pG n hol) : eG n eBit (pEi0 t n hol) := by
  intro N hN s h
  have Hp := eG_bth (t := t) H Hg
  have Gp := pG_bth (t := t) Hg
  unfold pEi0
  split
  · rename_i c1
    intro z
    exact eG_lw Hp Gp (Or.inr rfl) hN s.2.1 400 _ (Gp s h).2.1 (Hp N hN s h c1) z
  · intro z; exact absurd z ‹_›
theorem eG_ho (hb : ∀ i, i < n → 0 ≤ t i) : ∀ e : Nat, eG n eBit (pHo t n e)
  | 0 => eG_hol eG_no pG_no eG_no (eG_sum hb 0) (pG_sum 0)
  | e + 1 => eG_hol (eG_ho hb e) (pG_ho e) (eG_ei0 (eG_ho hb e) (pG_ho e)) (eG_sum hb (e + 1)) (pG_sum (e + 1))
theorem eG_ei (hb : ∀ i, i < n → 0 ≤ t i) (e : Nat) : eG n eBit (pEi t n e) := eG_ei0 (eG_ho hb e) (pG_ho e)
end EV
