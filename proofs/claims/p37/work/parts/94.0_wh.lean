/-! joined: 94.0_wh 94.a_inv 94.b_inv 94.c_rel 94.d_start 94.k_bst 94.l_bx 94.m_bm -/
section
/-! what was read can be run: for any bytes -/
section WH
variable {n : Nat} {t : pT} {e : Nat} {f hol eit sum sub : pQ → pR} {o : Bool} {P : Int → Prop} {s : pQ} {b c0 : Nat → Int} {h h1 g : Hp} {ms : Zms} {c z : Int}
theorem pV_nn {p : Nat} (hk : pK t n p = 2) : 0 ≤ pV t n p := by
  have hp := pK_lt (t := t) (n := n) (p := p) (by omega)
  unfold pK at hk
  rw [if_pos hp] at hk
  by_cases h1 : pLet (t p) = true
  · rw [if_pos h1] at hk; omega
  · rw [if_neg h1] at hk
    by_cases h2 : pDig (t p) = true
    · unfold pV
      rw [if_neg h1]
      unfold pVl
      have he : pEn t n p = pRun pDig t n p := by unfold pEn; rw [if_pos hp, if_neg h1, if_pos h2]
      have hr := pRun_b (P := pDig) (t := t) (n := n) (n - p) p rfl (by omega)
      rw [he]
      have key : ∀ (f q : Nat) (v : Int), 0 ≤ v → p ≤ q → q + f ≤ pRun pDig t n p → 0 ≤ pNu t f q v := by
        intro f
        induction f with
        | zero => intro q v hv _ _; exact hv
        | succ f IH =>
          intro q v hv hq hf
          have d := pDig_t.mp (hr.2.2.1 q hq (by omega))
          exact IH (q + 1) _ (by omega) (by omega) (by omega)
      exact key _ p 0 (by omega) (Nat.le_refl _) (by omega)
    · rw [if_neg h2] at hk
      by_cases h3 : pSig (t p) = true
      · rw [if_pos h3] at hk
        have := pSig_t.mp h3
        omega
      · rw [if_neg h3] at hk; omega
theorem eH_fac (H : eG n eNum sub) (Hg : pG n sub) : eG n eNum (pFac t n o sub) := by
  intro N hN s h
  unfold pFac
  split
  · rename_i c1
    intro _
    have v0 := pV_nn (t := t) (n := n) c1.1
    show eSg N (zu s.2.2 s.2.1 (pV t n s.1)) eNum s.2.1 (s.2.1 + 1)
    refine eSg_one (by rw [zu_eq]; omega) (fun v hv => ?_)
    rw [zu_eq, if_pos v0] at hv
    rw [hv]
    unfold eNum
    omega
  · split
    · rename_i c1 c2
      intro _
      show eSg N (zu s.2.2 s.2.1 (-1 - pV t n s.1)) eNum s.2.1 (s.2.1 + 1)
      refine eSg_one (by rw [zu_eq]; omega) (fun v hv => ?_)
      rw [zu_eq, if_neg (by omega)] at hv
      rw [hv]
      exact hN _ (by omega)
    · split
      · rename_i c3
        have hp := pK_lt (t := t) (n := n) (p := s.1) (by omega)
        have b := pNx_b (t := t) (n := n) (p := s.1) h
        split
        · rename_i c4
          have g := H N hN (pA t n s) (by show pNx t n s.1 ≤ n; omega) c4
          split
          · intro _; exact g
          · intro z; cases z
        · intro z; exact absurd z ‹_›
      · intro z; cases z
theorem eH_fc : ∀ e : Nat, eG n eNum (pFc t n e)
  | 0 => eH_fac eG_no pG_no
  | e + 1 => eH_fac (eG_sm0 (eH_fc e) (pG_fc e)) (pG_sm0 (pG_fc e))
theorem eH_sum (e : Nat) : eG n eNum (pSum t n e) := eG_sm0 (eH_fc e) (pG_fc e)
theorem eH_ho : ∀ e : Nat, eG n eBit (pHo t n e)
  | 0 => eG_hol eG_no pG_no eG_no (eH_sum 0) (pG_sum 0)
  | e + 1 => eG_hol (eH_ho e) (pG_ho e) (eG_ei0 (eH_ho e) (pG_ho e)) (eH_sum (e + 1)) (pG_sum (e + 1))
theorem eH_ei (e : Nat) : eG n eBit (pEi t n e) := eG_ei0 (eH_ho e) (pG_ho e)
theorem pCb_eH (c : Int) (N : Nat → Int) (hN : eNs N) (s : pQ) (hs : s.1 ≤ n) (h : (pCb t n c s).1 = true) : eSg N (pCb t n c s).2.2.2 (if c < 3 then eNum else eBit) s.2.1 (pCb t n c s).2.2.1 := by
  unfold pCb at h ⊢
  by_cases z : c < 3
  · simp only [if_pos z] at h ⊢
    exact eH_sum 8 N hN s hs h
  · simp only [if_neg z] at h ⊢
    exact eH_ei 8 N hN s hs h
theorem pWh_cls (W : rW n s) (G : pWg s b) (h : (pCls t n s b).1 = true) : pWg (pCls t n s b).2.1 (pCls t n s b).2.2 := by
  by_cases c1 : pCc t n s b
  · have V := W.a (t := t) (by have := c1.1; omega)
    by_cases c2 : (pBo t n s).1 = true
    · by_cases c3 : pK t n (pBo t n s).2.1 = 59
      · rw [pCls_t c1 c2 c3]
        have E : ∀ N, eNs N → eSg N (pBo t n s).2.2.2 (if pV t n s.1 - 13 < 3 then eNum else eBit) s.2.1 (pBo t n s).2.2.1 := fun N hN => pCb_eH (pV t n s.1 - 13) N hN (pA t n s) V.2 c2
        have g := pG_cb (t := t) (n := n) (pV t n s.1 - 13) (pA t n s) V.2
        have g3 : s.2.1 ≤ (pBo t n s).2.2.1 := g.2.2.1
        have g5 : s.2.1 < (pBo t n s).2.2.1 := (g.2.2.2.2.1 c2).2
        have g6 : ∀ i, i < s.2.1 → (pBo t n s).2.2.2 i = s.2.2 i := g.2.2.2.2.2
        obtain ⟨c11, c12, c13, c14⟩ := c1
        intro d hd
        show zu b (pV t n s.1 - 13).toNat s.2.1 d = -1 ∨ ∃ B L : Nat, zu b (pV t n s.1 - 13).toNat s.2.1 d = (B : Int) ∧ 0 < L ∧ B + L < (pBo t n s).2.2.1 + 1 ∧ zu (pBo t n s).2.2.2 (pBo t n s).2.2.1 (-21) (B + L) = -21 ∧ ∀ N, eNs N → eSg N (zu (pBo t n s).2.2.2 (pBo t n s).2.2.1 (-21)) (if (d : Int) < 3 then eNum else eBit) B (B + L)
        by_cases z : d = (pV t n s.1 - 13).toNat
        · right
          have ed : (d : Int) = pV t n s.1 - 13 := by omega
          refine ⟨s.2.1, (pBo t n s).2.2.1 - s.2.1, by rw [z, zu_eq], by omega, by omega, by rw [show s.2.1 + ((pBo t n s).2.2.1 - s.2.1) = (pBo t n s).2.2.1 by omega, zu_eq], fun N hN => ?_⟩
          rw [show s.2.1 + ((pBo t n s).2.2.1 - s.2.1) = (pBo t n s).2.2.1 by omega, ed]
          exact eSg_cg (E N hN) (fun r r1 r2 => (zu_ne (by omega)).symm)
        · rw [zu_ne z]
          rcases G d hd with y | ⟨B, L, y1, y2, y3, y4, y5⟩
          · exact Or.inl y
          · right
            refine ⟨B, L, y1, y2, by omega, by rw [zu_ne (by omega), g6 _ (by omega)]; exact y4, fun N hN => ?_⟩
            exact eSg_cg (y5 N hN) (fun r r1 r2 => by rw [zu_ne (by omega), g6 _ (by omega)])
      · rw [pCls_s c1 c2 c3] at h
        cases h
    · rw [pCls_f c1 c2] at h
      cases h
  · rw [pCls_no c1] at h
    cases h
theorem pWh_rd : ∀ (m : Nat) (s : pQ) (b : Nat → Int), rW n s → pWg s b → (pRd t n m s b).1 = true → pWg (pRd t n m s b).2.1 (pRd t n m s b).2.2 ∧ rW n (pRd t n m s b).2.1
  | 0, _, _, W, G, _ => ⟨G, W⟩
  | m + 1, s, b, W, G, h => by
    by_cases h0 : pK t n s.1 = 0
    · rw [pRd_z (Or.inr h0)]
      exact ⟨G, W⟩
    · by_cases h1 : (pCls t n s b).1 = true
      · rw [pRd_n rfl h0 h1] at h ⊢
        exact pWh_rd m _ _ (pCls_W W h1).1 (pWh_cls W G h1) h
      · rw [pRd_f rfl h0 h1] at h
        exact absurd h h1
theorem pWh_read (h0 : pSk t n 0 ≤ n) (h : pFa t n c0 = -1) : pWg (pRead t n c0).2.1 (pRead t n c0).2.2 ∧ rW n (pRead t n c0).2.1 := by
  refine pWh_rd 400 (pSk t n 0, 0, c0) (fun _ => -1) ⟨Nat.zero_le _, h0⟩ (fun d _ => Or.inl rfl) ?_
  by_cases z : (pRead t n c0).1 = true
  · exact z
  · rw [pFa_f z] at h
    omega
end WH
end
section
/-! what stays, of the tables: pure -/
section YIV
variable {S T U : zT} {a i j k l n u v m : Nat} {b c d x y : Int} {q : qT}
def yCn (S : zT) (v : Int) : Nat → Int
  | 0 => 0
  | u + 1 => if S 184 u = v then yCn S v u + 1 else yCn S v u
theorem yCn_s {w : Int} : yCn S w (m + 1) = if S 184 m = w then yCn S w m + 1 else yCn S w m := rfl
theorem yCn_b {w : Int} : ∀ m : Nat, 0 ≤ yCn S w m ∧ yCn S w m ≤ m
  | 0 => ⟨Int.le_refl _, by show (0 : Int) ≤ ((0 : Nat) : Int); omega⟩
  | m + 1 => by
    have h := yCn_b (w := w) m
    rw [yCn_s]
    split <;> omega
theorem yCn_lt {w : Int} (h : S 184 u ≠ w) : ∀ m : Nat, u < m → yCn S w m ≤ (m : Int) - 1
  | 0, z => absurd z (Nat.not_lt_zero _)
  | m + 1, z => by
    rw [yCn_s]
    by_cases e : u = m
    · subst e
      rw [if_neg h]
      have := yCn_b (S := S) (w := w) u
      omega
    · have := yCn_lt h m (by omega)
      split <;> omega
theorem yCn_ag {w : Int} (H : ∀ u, T 184 u = S 184 u) : ∀ m : Nat, yCn T w m = yCn S w m
  | 0 => rfl
  | m + 1 => by
    rw [yCn_s, yCn_s, H m, yCn_ag H m]
theorem yCn_br {w z : Int} (h : S 184 u = -1) (hw : w ≠ -1) : ∀ m : Nat, yCn (zs S 184 u z) w m = yCn S w m + (if u < m ∧ z = w then 1 else 0)
  | 0 => by
    rw [if_neg (fun t => absurd t.1 (Nat.not_lt_zero _))]
    rfl
  | m + 1 => by
    have ih := yCn_br (z := z) h hw m
    rw [yCn_s, yCn_s, ih]
    by_cases e : m = u
    · subst e
      rw [zs_eq, h, if_neg (show ¬ (-1 : Int) = w from fun t => hw t.symm), if_neg (show ¬ (m < m ∧ z = w) by omega)]
      by_cases f : z = w
      · rw [if_pos f, if_pos (show m < m + 1 ∧ z = w from ⟨by omega, f⟩)]
        omega
      · rw [if_neg f, if_neg (fun t => f t.2)]
    · rw [zs_ni e]
      by_cases g : u < m ∧ z = w
      · rw [if_pos g, if_pos (show u < m + 1 ∧ z = w from ⟨by omega, g.2⟩)]
        split <;> omega
      · rw [if_neg g, if_neg (show ¬ (u < m + 1 ∧ z = w) from fun t => g ⟨by omega, t.2⟩)]
        split <;> omega
/-- what bringing rests on -/
def yBr (S : zT) : Prop := (0 ≤ S 37 78 ∧ S 37 78 ≤ 200) ∧ (∀ v : Nat, (v : Int) < S 37 1 → (0 ≤ S 67 v ∧ 0 ≤ S 68 v) ∧ S 67 v + S 68 v ≤ 20 * yCn S v (S 37 78).toNat) ∧ (∀ u : Nat, (u : Int) < S 37 78 → (0 ≤ S 183 u ∧ S 183 u ≤ 20) ∧ (0 ≤ S 181 u ∧ S 181 u < S 37 2)) ∧ (∀ k : Nat, (k : Int) < S 37 2 → S 91 k ≤ 40 ∧ (0 ≤ S 92 k ∧ S 92 k ≤ 40))
theorem yBr.rm (B : yBr S) : yRm S := fun u v hu hv h => by
  obtain ⟨⟨b1, b2⟩, b3, b4, -⟩ := B
  obtain ⟨⟨c1, c2⟩, c3⟩ := b3 v hv
  have d := (b4 u hu).1
  have e := yCn_lt (S := S) (w := (v : Int)) (u := u) (by omega) (S 37 78).toNat (by omega)
  exact ⟨⟨c1, c2, d.1⟩, by omega⟩
theorem yBr.hb (B : yBr S) : ∀ u : Nat, (u : Int) < S 37 78 → 0 ≤ S 181 u ∧ S 181 u < S 37 2 := fun u hu => (B.2.2.1 u hu).2
def yKb (a i : Nat) : Prop := (a = 37 ∧ (i = 1 ∨ i = 2 ∨ i = 78)) ∨ a = 67 ∨ a = 68 ∨ a = 181 ∨ a = 183 ∨ a = 184 ∨ a = 91 ∨ a = 92
theorem yBr.ag (B : yBr S) (t : ∀ a i, yKb a i → T a i = S a i) : yBr T := by
  have s1 := t 37 1 (by unfold yKb; omega)
  have s2 := t 37 2 (by unfold yKb; omega)
  have s3 := t 37 78 (by unfold yKb; omega)
  have r : ∀ a i, a = 67 ∨ a = 68 ∨ a = 181 ∨ a = 183 ∨ a = 184 ∨ a = 91 ∨ a = 92 → T a i = S a i := fun a i e => t a i (by unfold yKb; omega)
  obtain ⟨b1, b2, b3, b4⟩ := B
  refine ⟨by rw [s3]; exact b1, fun v hv => ?_, fun u hu => ?_, fun k hk => ?_⟩
  · rw [r 67 v (by omega), r 68 v (by omega), s3, yCn_ag (fun u => r 184 u (by omega))]
    exact b2 v (by omega)
  · rw [r 183 u (by omega), r 181 u (by omega), s2]
    exact b3 u (by omega)
  · rw [r 91 k (by omega), r 92 k (by omega)]
    exact b4 k (by omega)
/-- the first week's price -/
def y57 (S : zT) : Prop := ∀ v : Nat, (v : Int) < S 37 1 → S 57 (157 * v) = 10
theorem y57.ag (H : y57 S) (s1 : T 37 1 = S 37 1) (t : ∀ i, T 57 i = S 57 i) : y57 T := fun v hv => by
  rw [t]
  exact H v (by omega)
def yKi (a i : Nat) : Prop := yKt a i ∨ a = 85 ∨ a = 66 ∨ a = 65 ∨ a = 206
theorem yInv.ag (V : yInv S) (t : ∀ a i, yKi a i → T a i = S a i) : yInv T := by
  obtain ⟨K, B, H, Z⟩ := V
  have s0 := t 37 0 (Or.inl (Or.inl ⟨rfl, by omega⟩))
  have s1 := t 37 1 (Or.inl (Or.inl ⟨rfl, by omega⟩))
  refine ⟨K.ag (fun a i e => t a i (Or.inl e)), B.as (fun a i e => t a i (by unfold yKi yKt; omega)) (by rw [s0]; exact B.2.2.2.1), fun v hv => ?_, fun j hj => ?_⟩
  · rw [t 65 v (by unfold yKi; omega)]
    exact H v (by omega)
  · rw [t 206 j (by unfold yKi; omega)]
    exact Z j (by rw [← s0]; exact hj)
def yIv (S : zT) : Prop := yInv S ∧ yBr S ∧ y57 S
def yKj (a i : Nat) : Prop := yKi a i ∨ yKb a i ∨ a = 57
theorem yIv.ag (V : yIv S) (t : ∀ a i, yKj a i → T a i = S a i) : yIv T := ⟨V.1.ag (fun a i e => t a i (Or.inl e)), V.2.1.ag (fun a i e => t a i (Or.inr (Or.inl e))), V.2.2.ag (t 37 1 (Or.inr (Or.inl (Or.inl ⟨rfl, by omega⟩)))) (fun i => t 57 i (Or.inr (Or.inr rfl)))⟩
theorem yIv.zss (V : yIv S) (e : ¬ yKj a i) : yIv (zs S a i x) := V.ag (fun b j hb => by
  rw [zs_if]
  refine if_neg (fun z => e ?_)
  rw [← z.1, ← z.2]
  exact hb)
theorem yKj_n (e : (a ≠ 39 ∧ a ≠ 71 ∧ a ≠ 79 ∧ a ≠ 80 ∧ a ≠ 81 ∧ a ≠ 82 ∧ a ≠ 83) ∧ (a ≠ 170 ∧ a ≠ 172 ∧ a ≠ 173 ∧ a ≠ 85 ∧ a ≠ 66 ∧ a ≠ 65 ∧ a ≠ 206) ∧ (a ≠ 67 ∧ a ≠ 68 ∧ a ≠ 181 ∧ a ≠ 183 ∧ a ≠ 184 ∧ a ≠ 91 ∧ a ≠ 92 ∧ a ≠ 57) ∧ (a ≠ 37 ∨ (i ≠ 0 ∧ i ≠ 1 ∧ i ≠ 2 ∧ i ≠ 64 ∧ i ≠ 78))) : ¬ yKj a i := by
  unfold yKj yKi yKb yKt
  omega
/-- single places -/
theorem yIv.s71 (V : yIv S) (hx : 1 ≤ x ∧ x ≤ 99) : yIv (zs S 71 v x) := by
  obtain ⟨⟨K, B, H, Z⟩, R, P⟩ := V
  refine ⟨⟨?_, B.as (fun a i e => zs_na (by omega)) (by rw [zs_na (by decide)]; exact B.2.2.2.1), fun u hu => ?_, fun j hj => ?_⟩, R.ag (fun a i e => zs_na (by unfold yKb at e; omega)), P.ag (zs_na (by decide)) (fun i => zs_na (by decide))⟩
  · refine ⟨by rw [zs_na (by decide), zs_na (by decide), zs_na (by decide), zs_na (by decide)]; exact K.1, fun k hk => ?_, fun u hu => ?_, fun l hl => ?_⟩
    · rw [zs_na (by decide)] at hk
      rw [zs_na (by decide), zs_na (by decide), zs_na (by decide), zs_na (by decide), zs_na (by decide), zs_na (by decide)]
      exact K.2.1 k hk
    · rw [zs_na (by decide)] at hu
      refine ⟨?_, fun s hs => by rw [zs_na (by decide)]; exact (K.vi hu).2 s hs⟩
      by_cases z : u = v
      · rw [z, zs_eq]
        exact hx
      · rw [zs_ni z]
        exact (K.vi hu).1
    · rw [zs_na (by decide)] at hl
      rw [zs_na (by decide), zs_na (by decide), zs_na (by decide), zs_na (by decide)]
      exact K.2.2.2 l hl
  · rw [zs_na (by decide)] at hu
    rw [zs_na (by decide)]
    exact H u hu
  · rw [zs_na (by decide)] at hj
    rw [zs_na (by decide)]
    exact Z j hj
theorem yIv.s85 (V : yIv S) (hx : 4 ≤ x ∧ x ≤ 60) : yIv (zs S 85 n x) := by
  obtain ⟨⟨K, B, H, Z⟩, R, P⟩ := V
  refine ⟨⟨K.zss (yKt_n (by decide)), ?_, fun u hu => ?_, fun j hj => ?_⟩, R.ag (fun a i e => zs_na (by unfold yKb at e; omega)), P.ag (zs_na (by decide)) (fun i => zs_na (by decide))⟩
  · obtain ⟨b1, b2, b3, b4, b5, b6⟩ := B
    refine ⟨fun k hk => ?_, fun v hv => ?_, by rw [zs_na (by decide)]; exact b3, by rw [zs_na (by decide)]; exact b4, by rw [zs_na (by decide)]; exact b5, by rw [zs_na (by decide)]; exact b6⟩
    · rw [zs_na (by decide)] at hk
      have w := b1 k hk
      rw [zs_na (a := 85) (b := 80) (by decide), zs_na (a := 85) (b := 81) (by decide), zs_na (a := 85) (b := 79) (by decide), zs_na (a := 85) (b := 37) (by decide)]
      refine ⟨w.1, w.2.1, ?_, w.2.2.2⟩
      by_cases z : k = n
      · rw [z, zs_eq]
        exact hx
      · rw [zs_ni z]
        exact w.2.2.1
    · rw [zs_na (by decide)] at hv
      refine ⟨by rw [zs_na (by decide)]; exact (b2 v hv).1, fun s hs => by rw [zs_na (by decide)]; exact (b2 v hv).2 s hs⟩
  · rw [zs_na (by decide)] at hu
    rw [zs_na (by decide)]
    exact H u hu
  · rw [zs_na (by decide)] at hj
    rw [zs_na (by decide)]
    exact Z j hj
theorem yIv.s66 (V : yIv S) (hx : 0 ≤ x ∧ x ≤ 9999) : yIv (zs S 66 n x) := by
  obtain ⟨⟨K, B, H, Z⟩, R, P⟩ := V
  refine ⟨⟨K.zss (yKt_n (by decide)), ?_, fun u hu => ?_, fun j hj => ?_⟩, R.ag (fun a i e => zs_na (by unfold yKb at e; omega)), P.ag (zs_na (by decide)) (fun i => zs_na (by decide))⟩
  · obtain ⟨b1, b2, b3, b4, b5, b6⟩ := B
    refine ⟨fun k hk => ?_, fun v hv => ?_, by rw [zs_na (by decide)]; exact b3, by rw [zs_na (by decide)]; exact b4, by rw [zs_na (by decide)]; exact b5, by rw [zs_na (by decide)]; exact b6⟩
    · rw [zs_na (by decide)] at hk
      rw [zs_na (a := 66) (b := 80) (by decide), zs_na (a := 66) (b := 81) (by decide), zs_na (a := 66) (b := 85) (by decide), zs_na (a := 66) (b := 79) (by decide), zs_na (a := 66) (b := 37) (by decide)]
      exact b1 k hk
    · rw [zs_na (by decide)] at hv
      refine ⟨?_, fun s hs => by rw [zs_na (by decide)]; exact (b2 v hv).2 s hs⟩
      by_cases z : v = n
      · rw [z, zs_eq]
        exact hx
      · rw [zs_ni z]
        exact (b2 v hv).1
  · rw [zs_na (by decide)] at hu
    rw [zs_na (by decide)]
    exact H u hu
  · rw [zs_na (by decide)] at hj
    rw [zs_na (by decide)]
    exact Z j hj
theorem yIv.s91 (V : yIv S) (hx : x ≤ 40) : yIv (zs S 91 n x) := by
  obtain ⟨W, R, P⟩ := V
  refine ⟨W.ag (fun a i e => zs_na (by unfold yKi yKt at e; omega)), ?_, P.ag (zs_na (by decide)) (fun i => zs_na (by decide))⟩
  obtain ⟨b1, b2, b3, b4⟩ := R
  refine ⟨by rw [zs_na (by decide)]; exact b1, fun v hv => ?_, fun u hu => ?_, fun k hk => ?_⟩
  · rw [zs_na (by decide)] at hv
    rw [zs_na (a := 91) (b := 67) (by decide), zs_na (a := 91) (b := 68) (by decide), zs_na (a := 91) (b := 37) (by decide), yCn_ag (S := S) (fun u => zs_na (by decide))]
    exact b2 v hv
  · rw [zs_na (by decide)] at hu
    rw [zs_na (a := 91) (b := 183) (by decide), zs_na (a := 91) (b := 181) (by decide), zs_na (a := 91) (b := 37) (by decide)]
    exact b3 u hu
  · rw [zs_na (by decide)] at hk
    rw [zs_na (a := 91) (b := 92) (by decide)]
    refine ⟨?_, (b4 k hk).2⟩
    by_cases z : k = n
    · rw [z, zs_eq]
      exact hx
    · rw [zs_ni z]
      exact (b4 k hk).1
/-- the calls that write little -/
theorem yIv.coin (V : yIv S) : yIv (yCoin S x y) := by
  unfold yCoin
  split
  · exact V.zss (yKj_n (by omega))
  · exact V
theorem yIv.mill (V : yIv S) : yIv (yMill S x y) := by
  unfold yMill
  split
  · exact V.zss (yKj_n (by omega))
  · exact V
theorem yIv.sold (V : yIv S) : yIv (ySold S x y) := by
  unfold ySold
  split
  · exact V.zss (yKj_n (by omega))
  · exact V
theorem yIv.talk (V : yIv S) : yIv (yTalk S x y) := by
  unfold yTalk
  split
  · exact V.zss (yKj_n (by omega))
  · exact V
theorem yIv.gift {z : Int} (V : yIv S) : yIv (yGift S x y z) := by
  unfold yGift
  split
  · exact (((V.zss (yKj_n (by omega))).zss (yKj_n (by omega))).zss (yKj_n (by omega))).zss (yKj_n (by omega))
  · exact V
theorem yIv.forg (V : yIv S) : yIv (yForg S) := V.zss (yKj_n (by omega))
theorem yIv.pay {z : Int} (V : yIv S) : yIv (yPay S x y z) := by
  unfold yPay
  split
  · split
    · exact ((V.zss (yKj_n (by omega))).zss (yKj_n (by omega))).zss (yKj_n (by omega))
    · exact (((V.zss (yKj_n (by omega))).zss (yKj_n (by omega))).zss (yKj_n (by omega))).zss (yKj_n (by omega))
  · exact V
theorem yIv.pric (V : yIv S) : yIv (yPric S x y) := by
  unfold yPric
  split
  · exact (V.zss (yKj_n (by omega))).s71 (by omega)
  · exact V
theorem yIv.aim (V : yIv S) : yIv (yAim S x y) := by
  unfold yAim
  split
  · exact V.s85 (by omega)
  · exact V
theorem yIv.cott (V : yIv S) : yIv (yCott S x y) := by
  unfold yCott
  split
  · rename_i h
    have w := (V.1.2.1.2.1 x.toNat (by omega)).1
    have e : w32 (S 66 x.toNat + y) = S 66 x.toNat + y := w32_id (by first | omega | exact ⟨by omega, by omega⟩)
    exact V.s66 (by omega)
  · exact V
theorem yIv.loom {z : Int} (V : yIv S) : yIv (yLoom S x y z) := by
  unfold yLoom
  split
  · exact ((V.zss (yKj_n (by omega))).zss (yKj_n (by omega))).s91 (by omega)
  · exact V
end YIV
end
section
/-! a village, a house, weaving, bringing, weeks: what stays -/
section YIW
variable {S T U : zT} {a i j k l n u v m : Nat} {b c d x y z : Int} {q : qT}
/-- a village more -/
theorem yVil_37 (e : i ≠ 1) : yVil S n x y z 37 i = S 37 i := by
  unfold yVil
  rw [zs_ni e, z57_n (by decide), yVi0_n (by decide)]
theorem yVil_1 : yVil S n x y z 37 1 = n + 1 := zs_eq
theorem yVil_n (e : a ≠ 37 ∧ a ≠ 39 ∧ a ≠ 57 ∧ a ≠ 65 ∧ a ≠ 66 ∧ a ≠ 70 ∧ a ≠ 71) : yVil S n x y z a i = S a i := by
  unfold yVil
  rw [zs_na e.1, z57_n (by omega), yVi0_n (by omega)]
theorem yVil_71 : yVil S n x y z 71 i = if i = n then 10 else S 71 i := by
  unfold yVil
  rw [zs_na (by decide), z57_n (by decide)]
  unfold yVi0
  rw [zs_if]
  by_cases h : i = n
  · rw [if_pos ⟨rfl, h⟩, if_pos h]
  · rw [if_neg (fun z => h z.2), if_neg h]
    simp (disch := decide) only [zs_na]
theorem yVil_65 : yVil S n x y z 65 i = if i = n then y else S 65 i := by
  unfold yVil
  rw [zs_na (by decide), z57_n (by decide)]
  unfold yVi0
  simp (disch := decide) only [zs_na]
  rw [zs_if]
  by_cases h : i = n
  · rw [if_pos ⟨rfl, h⟩, if_pos h]
  · rw [if_neg (fun z => h z.2), if_neg h]
    simp (disch := decide) only [zs_na]
theorem yVil_66 : yVil S n x y z 66 i = if i = n then z else S 66 i := by
  unfold yVil
  rw [zs_na (by decide), z57_n (by decide)]
  unfold yVi0
  simp (disch := decide) only [zs_na]
  rw [zs_if]
  by_cases h : i = n
  · rw [if_pos ⟨rfl, h⟩, if_pos h]
  · rw [if_neg (fun z => h z.2), if_neg h]
    simp (disch := decide) only [zs_na]
theorem yVil_39 {s : Nat} (hs : s < 4) : yVil S n x y z 39 (4 * v + s) = if v = n then zid x s else S 39 (4 * v + s) := by
  unfold yVil
  rw [zs_na (by decide), z57_n (by decide)]
  unfold yVi0
  simp (disch := decide) only [zs_na]
  rw [zs_if, zs_if, zs_if, zs_if]
  by_cases h : v = n
  · subst h
    rw [if_pos rfl]
    have w : s = 0 ∨ s = 1 ∨ s = 2 ∨ s = 3 := by omega
    rcases w with rfl | rfl | rfl | rfl
    · rw [if_neg (by omega), if_neg (by omega), if_neg (by omega), if_pos ⟨rfl, by omega⟩]
    · rw [if_neg (by omega), if_neg (by omega), if_pos ⟨rfl, by omega⟩]
    · rw [if_neg (by omega), if_pos ⟨rfl, by omega⟩]
    · rw [if_pos ⟨rfl, by omega⟩]
  · rw [if_neg (by omega), if_neg (by omega), if_neg (by omega), if_neg (by omega), if_neg h]
theorem yVil_57 : yVil S n x y z 57 (157 * v) = if v = n then 10 else S 57 (157 * v) := by
  unfold yVil
  rw [zs_na (by decide)]
  show (if 57 = 57 ∧ 157 * v / 157 = n ∧ 157 * v % 157 < (S 37 0).toNat + 1 then (10 : Int) else yVi0 S n x y z 57 (157 * v)) = _
  rw [yVi0_n (by decide)]
  by_cases h : v = n
  · rw [if_pos ⟨rfl, by omega, by omega⟩, if_pos h]
  · rw [if_neg (by omega), if_neg h]
theorem zid_b {s : Nat} (h : 0 ≤ x ∧ x / 1000000 ≤ 40 ∧ x / 10000 % 100 ≤ 40 ∧ x / 100 % 100 ≤ 40 ∧ x % 100 ≤ 40) : 0 ≤ zid x s ∧ zid x s ≤ 40 := by
  unfold zid
  split
  · omega
  · split
    · omega
    · split <;> omega
theorem yIv.vil (V : yIv S) (z7 : S 67 (S 37 1).toNat = 0) (z8 : S 68 (S 37 1).toNat = 0) : yIv (yVilF S x y z) := by
  unfold yVilF
  split
  rotate_left 1
  · exact V
  rename_i h
  obtain ⟨h8, hx, hy, hz⟩ := h
  obtain ⟨⟨K, B, H, Z⟩, ⟨r1, r2, r3, r4⟩, P⟩ := V
  have s1 := K.s.2.1.1
  have en : (((S 37 1).toNat : Nat) : Int) = S 37 1 := by omega
  generalize hn : (S 37 1).toNat = n at en z7 z8
  have t37 : ∀ i, i ≠ 1 → yVil S n x y z 37 i = S 37 i := fun i e => yVil_37 e
  have t1 : yVil S n x y z 37 1 = S 37 1 + 1 := by rw [yVil_1, en]
  have tn : ∀ a i, (a ≠ 37 ∧ a ≠ 39 ∧ a ≠ 57 ∧ a ≠ 65 ∧ a ≠ 66 ∧ a ≠ 70 ∧ a ≠ 71) → yVil S n x y z a i = S a i := fun a i e => yVil_n e
  have ho : ∀ k : Nat, (k : Int) < S 37 2 → _ := K.2.1
  refine ⟨⟨⟨?_, fun k hk => ?_, fun u hu => ?_, fun l hl => ?_⟩, ⟨fun k hk => ?_, fun u hu => ?_, ?_, ?_, ?_, ?_⟩, fun u hu => ?_, fun j hj => ?_⟩, ⟨?_, fun u hu => ?_, fun u hu => ?_, fun k hk => ?_⟩, fun u hu => ?_⟩
  · rw [t37 0 (by decide), t1, t37 2 (by decide), t37 64 (by decide)]
    exact ⟨K.1.1, by omega, K.1.2.2⟩
  · rw [t37 2 (by decide)] at hk
    rw [tn 80 k (by omega), tn 81 k (by omega), tn 82 k (by omega), tn 83 k (by omega), tn 79 k (by omega), t1]
    have w := ho k hk
    exact ⟨w.1, w.2.1, w.2.2.1, w.2.2.2.1, w.2.2.2.2.1, by omega⟩
  · rw [t1] at hu
    rw [yVil_71]
    refine ⟨?_, fun s hs => ?_⟩
    · by_cases e : u = n
      · rw [if_pos e]
        omega
      · rw [if_neg e]
        exact (K.vi (by omega)).1
    · rw [yVil_39 hs]
      by_cases e : u = n
      · rw [if_pos e]
        exact zid_b hx
      · rw [if_neg e]
        exact (K.vi (by omega)).2 s hs
  · rw [t37 64 (by decide)] at hl
    rw [tn 172 l (by omega), tn 173 l (by omega), tn 170 l (by omega), t37 2 (by decide)]
    exact K.2.2.2 l hl
  · rw [t37 2 (by decide)] at hk
    rw [tn 80 k (by omega), tn 81 k (by omega), tn 85 k (by omega), tn 79 k (by omega), t1]
    have w := B.1 k hk
    exact ⟨w.1, w.2.1, w.2.2.1, w.2.2.2.1, by omega⟩
  · rw [t1] at hu
    rw [yVil_66]
    refine ⟨?_, fun s hs => ?_⟩
    · by_cases e : u = n
      · rw [if_pos e]
        exact hz
      · rw [if_neg e]
        exact (B.2.1 u (by omega)).1
    · rw [yVil_39 hs]
      by_cases e : u = n
      · rw [if_pos e]
        exact zid_b hx
      · rw [if_neg e]
        exact (B.2.1 u (by omega)).2 s hs
  · rw [t37 64 (by decide)]
    exact B.2.2.1
  · rw [t37 0 (by decide)]
    exact B.2.2.2.1
  · rw [t1]
    omega
  · rw [t37 2 (by decide)]
    exact B.2.2.2.2.2
  · rw [t1] at hu
    rw [yVil_65]
    by_cases e : u = n
    · rw [if_pos e]
      omega
    · rw [if_neg e]
      exact H u (by omega)
  · rw [t37 0 (by decide)] at hj
    rw [tn 206 j (by omega)]
    exact Z j hj
  · rw [t37 78 (by decide)]
    exact r1
  · rw [t1] at hu
    rw [tn 67 u (by omega), tn 68 u (by omega), t37 78 (by decide), yCn_ag (S := S) (fun w => tn 184 w (by omega))]
    by_cases e : u = n
    · have w := yCn_b (S := S) (w := (u : Int)) (S 37 78).toNat
      rw [e] at w ⊢
      rw [z7, z8]
      omega
    · exact r2 u (by omega)
  · rw [t37 78 (by decide)] at hu
    rw [tn 183 u (by omega), tn 181 u (by omega), t37 2 (by decide)]
    exact r3 u hu
  · rw [t37 2 (by decide)] at hk
    rw [tn 91 k (by omega), tn 92 k (by omega)]
    exact r4 k hk
  · rw [t1] at hu
    rw [yVil_57]
    by_cases e : u = n
    · rw [if_pos e]
    · rw [if_neg e]
      exact P u (by omega)
/-- a house more -/
theorem yHou_n {w x2 x3 x4 x5 : Int} (e : (a ≠ 79 ∧ a ≠ 80 ∧ a ≠ 81 ∧ a ≠ 82 ∧ a ≠ 83 ∧ a ≠ 85) ∧ (a ≠ 37 ∨ i ≠ 2)) : yHou S n w x2 x3 x4 x5 a i = S a i := by
  obtain ⟨⟨e1, e2, e3, e4, e5, e6⟩, e7⟩ := e
  unfold yHou
  rw [zs_if, if_neg (by omega), zs_na e6, zs_na e5, zs_na e4, zs_na e3, zs_na e2, zs_na e1]
theorem yHou_2 {w x2 x3 x4 x5 : Int} : yHou S n w x2 x3 x4 x5 37 2 = n + 1 := zs_eq
theorem yHou_o {w x2 x3 x4 x5 : Int} (h : i ≠ n) (e : a ≠ 37) : yHou S n w x2 x3 x4 x5 a i = S a i := by
  unfold yHou
  rw [zs_na e, zs_ni h, zs_ni h, zs_ni h, zs_ni h, zs_ni h, zs_ni h]
theorem yHou_e {w x2 x3 x4 x5 : Int} : yHou S n w x2 x3 x4 x5 79 n = w ∧ yHou S n w x2 x3 x4 x5 80 n = x2 ∧ yHou S n w x2 x3 x4 x5 81 n = x3 ∧ yHou S n w x2 x3 x4 x5 82 n = x4 ∧ yHou S n w x2 x3 x4 x5 83 n = x5 ∧ yHou S n w x2 x3 x4 x5 85 n = 10 := by
  unfold yHou
  refine ⟨?_, ?_, ?_, ?_, ?_, ?_⟩ <;> simp (disch := decide) only [zs_na, zs_eq]
theorem yIv.hou (V : yIv S) (z1 : S 91 (S 37 2).toNat = 0) (z2 : S 92 (S 37 2).toNat = 0) : yIv (yHouF S x y) := by
  unfold yHouF
  split
  rotate_left 1
  · exact V
  rename_i h
  obtain ⟨h1, h2, h3, h4, h5, h6, h7, h8⟩ := h
  obtain ⟨⟨K, B, H, Z⟩, ⟨r1, r2, r3, r4⟩, P⟩ := V
  have s1 := K.s.2.2.1.1
  have en : (((S 37 2).toNat : Nat) : Int) = S 37 2 := by omega
  generalize hn : (S 37 2).toNat = n at en z1 z2
  have t1 : yHou S n x (y / 1000) (y / 100 % 10) (y / 10 % 10) (y % 10) 37 2 = S 37 2 + 1 := by rw [yHou_2, en]
  have tn : ∀ a i, (a ≠ 79 ∧ a ≠ 80 ∧ a ≠ 81 ∧ a ≠ 82 ∧ a ≠ 83 ∧ a ≠ 85) ∧ (a ≠ 37 ∨ i ≠ 2) → yHou S n x (y / 1000) (y / 100 % 10) (y / 10 % 10) (y % 10) a i = S a i := fun a i e => yHou_n e
  have to : ∀ a i, i ≠ n → a ≠ 37 → yHou S n x (y / 1000) (y / 100 % 10) (y / 10 % 10) (y % 10) a i = S a i := fun a i e f => yHou_o e f
  obtain ⟨e79, e80, e81, e82, e83, e85⟩ := yHou_e (S := S) (n := n) (w := x) (x2 := y / 1000) (x3 := y / 100 % 10) (x4 := y / 10 % 10) (x5 := y % 10)
  generalize hT : yHou S n x (y / 1000) (y / 100 % 10) (y / 10 % 10) (y % 10) = T at t1 tn to e79 e80 e81 e82 e83 e85
  refine ⟨⟨⟨?_, fun k hk => ?_, fun u hu => ?_, fun l hl => ?_⟩, ⟨fun k hk => ?_, fun u hu => ?_, ?_, ?_, ?_, ?_⟩, fun u hu => ?_, fun j hj => ?_⟩, ⟨?_, fun u hu => ?_, fun u hu => ?_, fun k hk => ?_⟩, fun u hu => ?_⟩
  · rw [tn 37 0 (by omega), tn 37 1 (by omega), t1, tn 37 64 (by omega)]
    exact ⟨K.1.1, K.1.2.1, by omega, K.1.2.2.2⟩
  · rw [t1] at hk
    rw [tn 37 1 (by omega)]
    by_cases e : k = n
    · rw [e, e79, e80, e81, e82, e83]
      omega
    · rw [to 80 k e (by decide), to 81 k e (by decide), to 82 k e (by decide), to 83 k e (by decide), to 79 k e (by decide)]
      exact K.ho (by omega)
  · rw [tn 37 1 (by omega)] at hu
    rw [tn 71 u (by omega)]
    exact ⟨(K.vi hu).1, fun s hs => by rw [tn 39 _ (by omega)]; exact (K.vi hu).2 s hs⟩
  · rw [tn 37 64 (by omega)] at hl
    rw [tn 172 l (by omega), tn 173 l (by omega), tn 170 l (by omega), t1]
    have w := K.2.2.2 l hl
    exact ⟨w.1, w.2.1, w.2.2.1, by omega⟩
  · rw [t1] at hk
    rw [tn 37 1 (by omega)]
    by_cases e : k = n
    · rw [e, e79, e80, e81, e85]
      omega
    · rw [to 80 k e (by decide), to 81 k e (by decide), to 85 k e (by decide), to 79 k e (by decide)]
      exact B.1 k (by omega)
  · rw [tn 37 1 (by omega)] at hu
    rw [tn 66 u (by omega)]
    exact ⟨(B.2.1 u hu).1, fun s hs => by rw [tn 39 _ (by omega)]; exact (B.2.1 u hu).2 s hs⟩
  · rw [tn 37 64 (by omega)]
    exact B.2.2.1
  · rw [tn 37 0 (by omega)]
    exact B.2.2.2.1
  · rw [tn 37 1 (by omega)]
    exact B.2.2.2.2.1
  · rw [t1]
    omega
  · rw [tn 37 1 (by omega)] at hu
    rw [tn 65 u (by omega)]
    exact H u hu
  · rw [tn 37 0 (by omega)] at hj
    rw [tn 206 j (by omega)]
    exact Z j hj
  · rw [tn 37 78 (by omega)]
    exact r1
  · rw [tn 37 1 (by omega)] at hu
    rw [tn 67 u (by omega), tn 68 u (by omega), tn 37 78 (by omega), yCn_ag (S := S) (fun w => tn 184 w (by omega))]
    exact r2 u hu
  · rw [tn 37 78 (by omega)] at hu
    rw [tn 183 u (by omega), tn 181 u (by omega), t1]
    have w := r3 u hu
    exact ⟨w.1, w.2.1, by omega⟩
  · rw [t1] at hk
    rw [tn 91 k (by omega), tn 92 k (by omega)]
    by_cases e : k = n
    · rw [e, z1, z2]
      omega
    · exact r4 k (by omega)
  · rw [tn 37 1 (by omega)] at hu
    rw [tn 57 _ (by omega)]
    exact P u hu
/-- weaving -/
theorem yWvS_n (e : (a ≠ 84 ∧ a ≠ 92 ∧ a ≠ 175) ∧ (a < 180 ∨ 185 < a) ∧ (a ≠ 37 ∨ (i ≠ 70 ∧ i ≠ 78))) : yWvS q S k l x a i = S a i := by
  obtain ⟨⟨e1, e2, e3⟩, e4, e5⟩ := e
  unfold yWvS
  rw [zs_if, if_neg (by omega), zs_if, if_neg (by omega), zs_na (by omega), zs_na (by omega), zs_na (by omega), zs_na (by omega), zs_na (by omega), zs_na (by omega), zs_na e3, zs_na e2, zs_na e1, zs_na e1]
theorem yWvS_o (h : i ≠ (S 37 78).toNat) (e : 180 ≤ a ∧ a ≤ 185) : yWvS q S k l x a i = S a i := by
  unfold yWvS
  rw [zs_na (by omega), zs_na (by omega), zs_ni h, zs_ni h, zs_ni h, zs_ni h, zs_ni h, zs_ni h, zs_na (by omega), zs_na (by omega), zs_na (by omega), zs_na (by omega)]
theorem yWvS_92 : yWvS q S k l x 92 i = if i = k then w32 (S 92 k + x) else S 92 i := by
  unfold yWvS
  simp (disch := decide) only [zs_na]
  rw [zs_if]
  by_cases h : i = k
  · rw [if_pos ⟨rfl, h⟩, if_pos h]
  · rw [if_neg (fun z => h z.2), if_neg h]
    simp (disch := decide) only [zs_na]
theorem yWvS_e : yWvS q S k l x 181 (S 37 78).toNat = k ∧ yWvS q S k l x 183 (S 37 78).toNat = x / 2 ∧ yWvS q S k l x 184 (S 37 78).toNat = -1 ∧ yWvS q S k l x 37 78 = S 37 78 + 1 := by
  unfold yWvS
  refine ⟨?_, ?_, ?_, ?_⟩ <;> simp (disch := decide) only [zs_na, zs_eq]
theorem yIv.wv (V : yIv S) : yIv (yWvF q S x y z) := by
  unfold yWvF
  split
  rotate_left 1
  · exact V
  rename_i h
  obtain ⟨⟨h1, h2, h3⟩, h4, h5, h6⟩ := h
  have h7 : z ≤ w32 (S 91 x.toNat - S 92 x.toNat) := by
    unfold yBarF at h6
    split at h6
    · omega
    · split at h6
      · omega
      · split at h6 <;> omega
  have h8 : 0 < S 91 x.toNat := by
    have w : yLbar q S x.toNat y.toNat z = 0 := by
      unfold yBarF at h6
      split at h6
      · exact h6
      · omega
    unfold yLbar at w
    split at w <;> omega
  obtain ⟨W, ⟨r1, r2, r3, r4⟩, P⟩ := V
  have b4 := r4 x.toNat (by omega)
  have w1 : w32 (S 91 x.toNat - S 92 x.toNat) ≤ 40 - S 92 x.toNat := by
    unfold w32 at h7 ⊢
    omega
  have w2 : w32 (S 92 x.toNat + z) = S 92 x.toNat + z := w32_id (by first | omega | exact ⟨by omega, by omega⟩)
  have en : (((S 37 78).toNat : Nat) : Int) = S 37 78 := by omega
  obtain ⟨f1, f3, f4, f7⟩ := yWvS_e (q := q) (S := S) (k := x.toNat) (l := y.toNat) (x := z)
  have tn : ∀ a i, (a ≠ 84 ∧ a ≠ 92 ∧ a ≠ 175) ∧ (a < 180 ∨ 185 < a) ∧ (a ≠ 37 ∨ (i ≠ 70 ∧ i ≠ 78)) → yWvS q S x.toNat y.toNat z a i = S a i := fun a i e => yWvS_n e
  have to : ∀ a i, i ≠ (S 37 78).toNat → 180 ≤ a ∧ a ≤ 185 → yWvS q S x.toNat y.toNat z a i = S a i := fun a i e f => yWvS_o e f
  have t92 : ∀ i, yWvS q S x.toNat y.toNat z 92 i = if i = x.toNat then w32 (S 92 x.toNat + z) else S 92 i := fun i => yWvS_92
  generalize hT : yWvS q S x.toNat y.toNat z = T at f1 f3 f4 f7 tn to t92
  refine ⟨W.ag (fun a i e => tn a i (by unfold yKi yKt at e; omega)), ⟨?_, fun u hu => ?_, fun u hu => ?_, fun k hk => ?_⟩, P.ag (tn 37 1 (by omega)) (fun i => tn 57 i (by omega))⟩
  · rw [f7]
    omega
  · rw [tn 37 1 (by omega)] at hu
    rw [tn 67 u (by omega), tn 68 u (by omega), f7, show (S 37 78 + 1).toNat = (S 37 78).toNat + 1 by omega]
    have c := r2 u hu
    rw [yCn_s, f4, if_neg (show ¬ (-1 : Int) = (u : Int) by omega)]
    have g : ∀ m : Nat, m ≤ (S 37 78).toNat → yCn T (u : Int) m = yCn S (u : Int) m := by
      intro m
      induction m with
      | zero => intro _; rfl
      | succ m ih =>
        intro hm
        rw [yCn_s, yCn_s, to 184 m (by omega) (by omega), ih (by omega)]
    rw [g _ (Nat.le_refl _)]
    exact c
  · rw [f7] at hu
    rw [tn 37 2 (by omega)]
    by_cases e : u = (S 37 78).toNat
    · rw [e, f3, f1]
      omega
    · rw [to 183 u e (by omega), to 181 u e (by omega)]
      exact r3 u (by omega)
  · rw [tn 37 2 (by omega)] at hk
    rw [tn 91 k (by omega), t92]
    by_cases e : k = x.toNat
    · rw [if_pos e, w2, e]
      omega
    · rw [if_neg e]
      exact r4 k hk
/-- bringing -/
theorem yBrS_n (e : a ≠ 67 ∧ a ≠ 68 ∧ a ≠ 75 ∧ a ≠ 184) : yBrS S u v a i = S a i := by
  obtain ⟨e1, e2, e3, e4⟩ := e
  unfold yBrS
  split
  · rw [zs_na e4, zs_na e2]
  · rw [zs_na e4, zs_na e3, zs_na e1]
theorem yBrS_184 : yBrS S u v 184 i = zs S 184 u v 184 i := by
  unfold yBrS
  by_cases h : i = u
  · subst h
    split <;> rw [zs_eq, zs_eq]
  · split
    · rw [zs_ni h, zs_ni h, zs_na (by decide)]
    · rw [zs_ni h, zs_ni h, zs_na (by decide), zs_na (by decide)]
theorem yBrS_o (h : i ≠ v) (e : a = 67 ∨ a = 68) : yBrS S u v a i = S a i := by
  unfold yBrS
  split
  · rw [zs_na (by omega), zs_ni h]
  · rw [zs_na (by omega), zs_na (by omega), zs_ni h]
theorem yBrS_v (h1 : 0 ≤ S 67 v ∧ 0 ≤ S 68 v) (h2 : 0 ≤ S 183 u ∧ S 183 u ≤ 20) (h3 : S 67 v + S 68 v ≤ 5000) : (0 ≤ yBrS S u v 67 v ∧ 0 ≤ yBrS S u v 68 v) ∧ yBrS S u v 67 v + yBrS S u v 68 v ≤ S 67 v + S 68 v + 20 := by
  have w1 : w32 (S 67 v + S 183 u) = S 67 v + S 183 u := w32_id (by first | omega | exact ⟨by omega, by omega⟩)
  have w2 : w32 (S 68 v + S 183 u) = S 68 v + S 183 u := w32_id (by first | omega | exact ⟨by omega, by omega⟩)
  unfold yBrS
  split
  · simp (disch := decide) only [zs_na, zs_eq]
    omega
  · simp (disch := decide) only [zs_na, zs_eq]
    omega
theorem yIv.br (V : yIv S) : yIv (yBrF S x y) := by
  unfold yBrF
  split
  rotate_left 1
  · exact V
  rename_i h
  obtain ⟨h1, h2, h3, h4⟩ := h
  obtain ⟨W, ⟨r1, r2, r3, r4⟩, P⟩ := V
  have tn : ∀ a i, (a ≠ 67 ∧ a ≠ 68 ∧ a ≠ 75 ∧ a ≠ 184) → yBrS S x.toNat y.toNat a i = S a i := fun a i e => yBrS_n e
  refine ⟨W.ag (fun a i e => tn a i (by unfold yKi yKt at e; omega)), ⟨?_, fun u hu => ?_, fun u hu => ?_, fun k hk => ?_⟩, P.ag (tn 37 1 (by omega)) (fun i => tn 57 i (by omega))⟩
  · rw [tn 37 78 (by omega)]
    exact r1
  · rw [tn 37 1 (by omega)] at hu
    rw [tn 37 78 (by omega), yCn_ag (S := zs S 184 x.toNat y.toNat) (fun w => yBrS_184), yCn_br h3 (by omega)]
    have c := r2 u hu
    have cb := yCn_b (S := S) (w := (u : Int)) (S 37 78).toNat
    by_cases e : u = y.toNat
    · have d := yBrS_v (S := S) (u := x.toNat) (v := u) c.1 (r3 x.toNat (by omega)).1 (by omega)
      rw [← e, if_pos ⟨by omega, rfl⟩]
      omega
    · rw [yBrS_o e (Or.inl rfl), yBrS_o e (Or.inr rfl), if_neg (by omega)]
      omega
  · rw [tn 37 78 (by omega)] at hu
    rw [tn 183 u (by omega), tn 181 u (by omega), tn 37 2 (by omega)]
    exact r3 u hu
  · rw [tn 37 2 (by omega)] at hk
    rw [tn 91 k (by omega), tn 92 k (by omega)]
    exact r4 k hk
/-- weeks -/
theorem ySlH_b {B : Int} (h : (0 ≤ S 67 v ∧ 0 ≤ S 68 v) ∧ S 67 v + S 68 v ≤ B) (hB : B ≤ 5000) (hp : 0 < w32 (S 67 v + S 68 v)) : (0 ≤ ySlH S v 67 v ∧ 0 ≤ ySlH S v 68 v) ∧ ySlH S v 67 v + ySlH S v 68 v ≤ B := by
  have w0 : w32 (S 67 v + S 68 v) = S 67 v + S 68 v := w32_id (by first | omega | exact ⟨by omega, by omega⟩)
  have w1 : w32 (S 67 v - 1) = S 67 v - 1 := w32_id (by first | omega | exact ⟨by omega, by omega⟩)
  have w2 : w32 (S 68 v - 1) = S 68 v - 1 := w32_id (by first | omega | exact ⟨by omega, by omega⟩)
  unfold ySlH
  split
  · simp (disch := decide) only [zs_na, zs_eq]
    omega
  · simp (disch := decide) only [zs_na, zs_eq]
    omega
theorem ySlH_o (h : v ≠ u) (e : a = 67 ∨ a = 68) : ySlH S u a v = S a v := by
  unfold ySlH
  split
  · rw [zs_na (by omega), zs_na (by omega), zs_ni h]
  · rw [zs_na (by omega), zs_ni h]
theorem yByd_b {B : Int} (h : (0 ≤ S 67 v ∧ 0 ≤ S 68 v) ∧ S 67 v + S 68 v ≤ B) (hB : B ≤ 5000) : (0 ≤ yByd S k d 67 v ∧ 0 ≤ yByd S k d 68 v) ∧ yByd S k d 67 v + yByd S k d 68 v ≤ B := by
  unfold yByd yBya
  split
  · rename_i e
    have hp : 0 < w32 (S 67 (S 79 k).toNat + S 68 (S 79 k).toNat) := by
      unfold yCho at e
      split at e
      · rename_i f
        exact f.1
      · split at e <;> omega
    rw [zs_na (a := 87) (by decide), zs_na (a := 84) (by decide), zs_na (a := 87) (by decide), zs_na (a := 84) (by decide)]
    by_cases f : v = (S 79 k).toNat
    · rw [← f] at hp ⊢
      exact ySlH_b h hB hp
    · rw [ySlH_o f (Or.inl rfl), ySlH_o f (Or.inr rfl)]
      exact h
  · split
    · rw [zs_na (a := 37) (by decide), zs_na (a := 88) (by decide), zs_na (a := 84) (by decide), ySlM_n (by decide), zs_na (a := 37) (by decide), zs_na (a := 88) (by decide), zs_na (a := 84) (by decide), ySlM_n (by decide)]
      exact h
    · rw [zs_na (a := 86) (by decide), zs_na (a := 86) (by decide)]
      exact h
theorem yBys_b {B : Int} (h : (0 ≤ S 67 v ∧ 0 ≤ S 68 v) ∧ S 67 v + S 68 v ≤ B) (hB : B ≤ 5000) : ∀ k : Nat, (0 ≤ yBys q S k 67 v ∧ 0 ≤ yBys q S k 68 v) ∧ yBys q S k 67 v + yBys q S k 68 v ≤ B
  | 0 => h
  | k + 1 => by
    have ih := yBys_b h hB k
    rw [yBys_s]
    split
    · exact yByd_b ih hB
    · exact ih
theorem yBg2_v : ∀ n : Nat, k < n → yBg2 S n 92 k = 0
  | 0, h => absurd h (Nat.not_lt_zero _)
  | n + 1, h => by
    rw [yBg2_s, zs_if]
    by_cases e : k = n
    · rw [if_pos ⟨rfl, e⟩]
    · rw [if_neg (fun z => e z.2)]
      exact yBg2_v n (by omega)
theorem yBg1_57 (h : 0 < m ∧ m < 157) : ∀ n : Nat, yBg1 S m n 57 (157 * v) = S 57 (157 * v)
  | 0 => rfl
  | n + 1 => by
    rw [yBg1_s, zs_ni (by omega)]
    exact yBg1_57 h n
theorem yWk5_b (e : (a = 37 ∧ (i = 1 ∨ i = 2 ∨ i = 78)) ∨ a = 181 ∨ a = 183 ∨ a = 184 ∨ a = 91 ∨ a = 57) : yWk5 q S a i = S a i := by
  have e3 : yWk3 q S a i = S a i := (yWrA_n (by omega)).trans ((yBys_n (by omega) _).trans (yLyN_n (by omega) _))
  unfold yWk5
  split
  · rw [ySea_n (by omega), e3]
  · exact e3
theorem yIv.wk (V : yIv S) (h : S 37 0 < 156) : yIv (yWkC q S) := by
  obtain ⟨W, ⟨r1, r2, r3, r4⟩, P⟩ := V
  have s0 := W.1.s.1.1
  have t : ∀ a i, (a = 37 ∧ (i = 1 ∨ i = 2 ∨ i = 78)) ∨ a = 181 ∨ a = 183 ∨ a = 184 ∨ a = 91 → yWkC q S a i = S a i := fun a i e => (yWkC_n (by omega)).trans (yWk5_b (by omega))
  have t67 : ∀ a v, a = 67 ∨ a = 68 → yWkC q S a v = yByA q (yLyA S) a v := fun a v e => by
    rw [yWkC_n (by omega)]
    have e3 : yWk3 q S a v = yByA q (yLyA S) a v := yWrA_n (by omega)
    unfold yWk5
    split
    · rw [ySea_n (by omega), e3]
    · exact e3
  refine ⟨W.wk h, ⟨?_, fun u hu => ?_, fun u hu => ?_, fun k hk => ?_⟩, fun u hu => ?_⟩
  · rw [t 37 78 (by omega)]
    exact r1
  · rw [t 37 1 (by omega)] at hu
    have c := r2 u hu
    have cb := yCn_b (S := S) (w := (u : Int)) (S 37 78).toNat
    have l7 : yLyA S 67 u = S 67 u := yLyN_n (by omega) _
    have l8 : yLyA S 68 u = S 68 u := yLyN_n (by omega) _
    rw [t67 67 u (by omega), t67 68 u (by omega), t 37 78 (by omega), yCn_ag (S := S) (fun w => t 184 w (by omega))]
    exact yBys_b (by rw [l7, l8]; exact c) (by omega) _
  · rw [t 37 78 (by omega)] at hu
    rw [t 183 u (by omega), t 181 u (by omega), t 37 2 (by omega)]
    exact r3 u hu
  · rw [t 37 2 (by omega)] at hk
    rw [t 91 k (by omega)]
    refine ⟨(r4 k hk).1, ?_⟩
    have e2 : yWkC q S 92 k = 0 := by
      unfold yWkC yBgA
      refine yBg2_v _ ?_
      rw [zs_ni (by decide), yClo_n (by omega), yWk5_b (by omega)]
      omega
    rw [e2]
    omega
  · rw [t 37 1 (by omega)] at hu
    have e : yWkC q S 57 (157 * u) = yWk5 q S 57 (157 * u) := by
      unfold yWkC yBgA
      have n92 : ∀ (U : zT) (n : Nat), yBg2 U n 57 (157 * u) = U 57 (157 * u) := fun U n => yBg2_n (by decide) _
      rw [n92, yBg1_57 (by rw [zs_eq, yWk5_n (by omega)]; omega), zs_na (by decide), yClo_n (by omega)]
    rw [e, yWk5_b (by omega)]
    exact P u hu
theorem yIv.go (V : yIv S) : ∀ k : Nat, yIv (yGoN q S k)
  | 0 => V
  | k + 1 => by
    rw [yGoN_s]
    split
    · exact (V.go k).wk (by assumption)
    · exact V.go k
theorem yIv.gof (V : yIv S) : yIv (yGoF q S x) := by
  unfold yGoF
  split
  · exact V.go _
  · exact V
end YIW
end
section
/-! class and model alike: all tables -/
section YREL
variable {h h1 g : Hp} {ms ms' : Zms} {c s c' s' : Int} {a i k n : Nat} {x : Int} {q : qT}
/-- what clauses answer now -/
def zQq (h : Hp) : qT := fun c w N => zTl h c w N
theorem mRq.xr (P : mRq q h) (R : zXR ms c s h g) (e : zkMq ms = true) : mRq q g := by
  obtain ⟨p1, p2, p3, p4⟩ := P
  unfold zkMq at e
  simp only [Bool.and_eq_true] at e
  obtain ⟨⟨e1, e2⟩, e3, e4, e5⟩ := e
  have f1 : fld g 37 52 = fld h 37 52 := R.f e5 (by first | decide | exact ⟨by decide, by decide⟩) (by first | decide | exact ⟨by decide, by decide⟩) (by first | decide | exact ⟨by decide, by decide⟩)
  have f2 : fld g 37 53 = fld h 37 53 := R.f e5 (by first | decide | exact ⟨by decide, by decide⟩) (by first | decide | exact ⟨by decide, by decide⟩) (by first | decide | exact ⟨by decide, by decide⟩)
  have f3 : fld g 164 = fld h 164 := R.fa (a := 164) e3 (by decide)
  have f4 : fld g 165 = fld h 165 := R.fa (a := 165) e4 (by decide)
  have r1 : ∀ r : Int, 101 ≤ r → r ≤ 148 → fld g r = fld h r := fun r u v => R.rw e1 (by decide) (by decide) u v
  have r2 : ∀ r : Int, 155 ≤ r → r ≤ 162 → fld g r = fld h r := fun r u v => R.rw e2 (by decide) (by decide) u v
  refine ⟨p1.of r1 r2 f1 p3.2, fun k hk => ?_, by omega, fun c w N c0 c1 => ?_⟩
  · rw [f3, f1]
    exact p2 k (by omega)
  · rw [← p4 c w N c0 c1]
    exact zTl_of r1 r2 f3 f4 f2 (fun k hk => by have := p2 k hk; omega) ⟨c0, c1⟩
def zkCk (ms : Zms) : Bool := zuw ms 101 148 && (zuw ms 155 162 && zqN ms 37 37 52 53)
theorem zCk.xr (K : zCk h) (R : zXR ms c s h g) (e : zkCk ms = true) (b : fld h 37 52 ≤ 8) : zCk g := by
  unfold zkCk at e
  simp only [Bool.and_eq_true] at e
  exact K.of (fun r u v => R.rw e.1 (by decide) (by decide) u v) (fun r u v => R.rw e.2.1 (by decide) (by decide) u v) (R.f e.2.2 (by first | decide | exact ⟨by decide, by decide⟩) (by first | decide | exact ⟨by decide, by decide⟩) (by first | decide | exact ⟨by decide, by decide⟩)) b
theorem zRq_q (P : zShe h) (F : zFo h) (K : zCk h) (e1 : fld h 13 1 = fld h 37 53) (e2 : fld h 14 2 = fld h 37 52) : zRq (zQq h) h := ⟨⟨P, F, K⟩, ⟨e1, e2⟩, fun _ _ _ _ _ => rfl⟩
theorem mRq_q (F : zFo h) (K : zCk h) (e1 : fld h 13 1 = fld h 37 53) (e2 : fld h 14 2 = fld h 37 52) (b : 0 ≤ fld h 37 52 ∧ fld h 37 52 ≤ 8) : mRq (zQq h) h := ⟨K, fun k hk => by have w := (F k (by omega)).1; omega, b, fun _ _ _ _ _ => rfl⟩
theorem zLw_of (P : zRO h) : zLw h := fun a b ha hb => by
  obtain ⟨p1, p2⟩ := P.2.2 a b ha hb
  have e : fld h 7 (8 * a + b) = zLa h a b := rfl
  rw [e, p1]
  by_cases z : a = b
  · rw [if_pos z]
    exact Or.inl ⟨z, rfl⟩
  · rw [if_neg z]
    right
    refine ⟨z, ?_⟩
    by_cases w : fld h (48 + (a : Int)) b = 0
    · rw [if_pos w]
      exact (by first | decide | exact ⟨by decide, by decide⟩)
    · rw [if_neg w]
      have := p2 w
      omega
theorem yF8_of (P : zRO h) : yF8 (yM h) := fun u v hu hv => by
  rw [yM_8 (by omega)]
  exact (P.2.1.1 u v hu hv).1
theorem yM_o (e1 : a ≠ 37) (e2 : a ≠ 186) (hi : ySz a ≤ i) : yM h a i = 0 := by
  unfold yM
  rw [zbq_f e1, zbq_f e2]
  simp only [cond_false]
  cases c4 : Nat.blt i (ySz a) with
  | false => rfl
  | true => exact absurd (Nat.le_of_ble_eq_true c4) (by omega)
theorem y48_of (P : zRO h) : yM h 48 i = yC h 48 i := by
  show _ = (if i < 64 then (if fld h 7 i = 1000000 then 0 else fld h 7 i) else 0)
  by_cases hi : i < 64
  · obtain ⟨v, j, hv, hj, e⟩ : ∃ v j : Nat, v < 8 ∧ j < 8 ∧ i = 8 * v + j := ⟨i / 8, i % 8, by omega, by omega, by omega⟩
    subst e
    obtain ⟨p1, p2⟩ := P.2.2 v j hv hj
    rw [yM_2 (a := 48) (w := 8) rfl hj (by show _ < 64; omega), if_pos hi, show fld h 7 (8 * v + j) = zLa h v j from rfl, p1, show ((48 + v : Nat) : Int) = 48 + (v : Int) by omega]
    by_cases z : v = j
    · rw [if_pos z, if_neg (by decide)]
      by_cases w : fld h (48 + (v : Int)) j = 0
      · exact w
      · exact absurd z (p2 w).1
    · rw [if_neg z]
      by_cases w : fld h (48 + (v : Int)) j = 0
      · rw [if_pos w, if_pos rfl, w]
      · rw [if_neg w, if_neg (by have := p2 w; omega)]
  · rw [if_neg hi]
    exact yM_o (by decide) (by decide) (by show 64 ≤ i; omega)
theorem y98_of (P : ∀ i : Nat, i < 400 → (0 ≤ fld h 10 i ∧ fld h 10 i ≤ 255) ∧ fld h 98 i = i_byt (fld h 10 i)) : yM h 98 i = yC h 98 i := by
  show _ = (if i < 400 then i_byt (fld h 10 i) else 0)
  by_cases hi : i < 400
  · rw [if_pos hi, yM_p (a := 98) (n := 400) rfl hi]
    exact (P i hi).2
  · rw [if_neg hi]
    exact yM_o (by decide) (by decide) (by show 400 ≤ i; omega)
theorem y186_of (P : zAk h) (N : ∀ i : Nat, (i : Int) < fld h 4 2 → fld h (zv h 4 i) 0 = i) (e : fld h 20 2 = fld h 37 86) : yM h 186 i = yC h 186 i := by
  show (if (i : Int) < fld h 37 86 then fld h 186 i else 0) = (if (i : Int) < fld h 20 2 then fld h (zv h 20 i) 0 else 0)
  rw [e]
  by_cases z : (i : Int) < fld h 37 86
  · obtain ⟨p1, p2, p3⟩ := P i (by omega)
    rw [if_pos z, if_pos z, p3, N _ (by omega)]
    omega
  · rw [if_neg z, if_neg z]
/-- the single numbers -/
def y37k (ms : Zms) : Bool := (zqN ms 37 37 38 39 && (zqN ms 37 37 69 72 && zqN ms 37 37 78 79)) && (zqN ms 1 1 1 2 && (zqN ms 34 34 0 3 && zun ms 5))
theorem y37_of (H : yM h = yC h) (R : zXR ms c s h g) (e : y37k ms = true) (s0 : fld g 1 0 = fld g 37 0) (s1 : fld g 2 2 = fld g 37 1) (s2 : fld g 3 2 = fld g 37 2) (s41 : fld g 9 0 = fld g 37 41) (s52 : fld g 14 2 = fld g 37 52) (s53 : fld g 13 1 = fld g 37 53) (s64 : fld g 4 2 = fld g 37 64) (s86 : fld g 20 2 = fld g 37 86) (s96 : fld g 27 0 = fld g 37 96) : yM g 37 i = yC g 37 i := by
  unfold y37k at e
  simp only [Bool.and_eq_true] at e
  obtain ⟨⟨e1, e2, e3⟩, e4, e5, e6⟩ := e
  cases c2 : ySc i with
  | false =>
    show cond (ySc i) _ _ = cond (ySc i) _ _
    rw [c2]
    rfl
  | true =>
    have key : ∀ (r j : Nat), ySr i = (r, j) → fld g 37 i = fld h 37 i → fld g (r : Int) j = fld h (r : Int) j → yM g 37 i = yC g 37 i := fun r j er f1 f2 => by
      have w := congrFun (congrFun H 37) i
      rw [yM_s c2, yC_s c2, er] at w
      rw [yM_s c2, yC_s c2, er]
      exact f1.trans (w.trans f2.symm)
    rcases ySc_of c2 with z | rfl | rfl | rfl | rfl | rfl | z | rfl | rfl | rfl
    · have z : i = 0 ∨ i = 1 ∨ i = 2 := by omega
      rcases z with rfl | rfl | rfl
      · exact s0.symm
      · exact s1.symm
      · exact s2.symm
    · exact key 1 1 rfl (R.f e1 (r := 37) (by first | decide | exact ⟨by decide, by decide⟩) (by first | decide | exact ⟨by decide, by decide⟩) (by first | decide | exact ⟨by decide, by decide⟩)) (R.f e4 (r := 1) (by first | decide | exact ⟨by decide, by decide⟩) (by first | decide | exact ⟨by decide, by decide⟩) (by first | decide | exact ⟨by decide, by decide⟩))
    · exact s41.symm
    · exact s52.symm
    · exact s53.symm
    · exact s64.symm
    · have z : i = 69 ∨ i = 70 ∨ i = 71 := by omega
      rcases z with rfl | rfl | rfl
      · exact key 34 0 rfl (R.f e2 (r := 37) (by first | decide | exact ⟨by decide, by decide⟩) (by first | decide | exact ⟨by decide, by decide⟩) (by first | decide | exact ⟨by decide, by decide⟩)) (R.f e5 (r := 34) (by first | decide | exact ⟨by decide, by decide⟩) (by first | decide | exact ⟨by decide, by decide⟩) (by first | decide | exact ⟨by decide, by decide⟩))
      · exact key 34 1 rfl (R.f e2 (r := 37) (by first | decide | exact ⟨by decide, by decide⟩) (by first | decide | exact ⟨by decide, by decide⟩) (by first | decide | exact ⟨by decide, by decide⟩)) (R.f e5 (r := 34) (by first | decide | exact ⟨by decide, by decide⟩) (by first | decide | exact ⟨by decide, by decide⟩) (by first | decide | exact ⟨by decide, by decide⟩))
      · exact key 34 2 rfl (R.f e2 (r := 37) (by first | decide | exact ⟨by decide, by decide⟩) (by first | decide | exact ⟨by decide, by decide⟩) (by first | decide | exact ⟨by decide, by decide⟩)) (R.f e5 (r := 34) (by first | decide | exact ⟨by decide, by decide⟩) (by first | decide | exact ⟨by decide, by decide⟩) (by first | decide | exact ⟨by decide, by decide⟩))
    · exact key 5 2 rfl (R.f e3 (r := 37) (by first | decide | exact ⟨by decide, by decide⟩) (by first | decide | exact ⟨by decide, by decide⟩) (by first | decide | exact ⟨by decide, by decide⟩)) (R.vz (A := 5) (by decide) e6)
    · exact s86.symm
    · exact s96.symm
/-- alike behind both calls, where few tables are touched -/
theorem yEq_t (H : yM h = yC h) (C : CI h) (R : zXR ms c s h g) (ex : List Nat) (e1 : yXo ms = true) (eA : (List.range 366).all (fun a => ex.contains a || (Nat.beq (yK a) 8 || (yCf ms a && yTf ms a))) = true) (b86 : fld h 37 86 ≤ 6) (hx : ∀ a i, ex.contains a = true → yM g a i = yC g a i) : yM g = yC g := by
  funext a i
  by_cases e : yK a = 8
  · exact (yC_8 e).symm
  cases c0 : ex.contains a with
  | true => exact hx a i c0
  | false =>
    have t : 366 ≤ a ∨ (yCf ms a = true ∧ yTf ms a = true) := by
      by_cases w : a < 366
      · right
        have q := List.all_eq_true.mp eA a (List.mem_range.mpr w)
        rw [c0, zbq_f e] at q
        simp only [Bool.false_or, Bool.and_eq_true] at q
        exact q
      · exact Or.inl (by omega)
    rw [yC_zx C R e1 (t.imp id (fun w => w.1)) e, yM_zx R (t.imp id (fun w => w.2)) b86, H]
theorem yEq_0 (H : yM h = yC h) (C : CI h) (R : zXR ms c s h g) (e1 : yXo ms = true) (eA : (List.range 366).all (fun a => ([] : List Nat).contains a || (Nat.beq (yK a) 8 || (yCf ms a && yTf ms a))) = true) (b86 : fld h 37 86 ≤ 6) : yM g = yC g := yEq_t H C R [] e1 eA b86 (fun a i z => by cases z)
/-- the TEXT, the roads, lots told -/
theorem yEq_g (H : yM h = yC h) (C : CI h) (R : zXR ms c s h g) (e1 : yXo ms = true) (eA : (List.range 366).all (fun a => [37, 48, 98, 186].contains a || (Nat.beq (yK a) 8 || (yCf ms a && yTf ms a))) = true) (e37 : y37k ms = true) (b86 : fld h 37 86 ≤ 6) (RO : zRO g) (TX : ∀ i : Nat, i < 400 → (0 ≤ fld g 10 i ∧ fld g 10 i ≤ 255) ∧ fld g 98 i = i_byt (fld g 10 i)) (AK : zAk g) (N : ∀ i : Nat, (i : Int) < fld g 4 2 → fld g (zv g 4 i) 0 = i) (s0 : fld g 1 0 = fld g 37 0) (s1 : fld g 2 2 = fld g 37 1) (s2 : fld g 3 2 = fld g 37 2) (s41 : fld g 9 0 = fld g 37 41) (s52 : fld g 14 2 = fld g 37 52) (s53 : fld g 13 1 = fld g 37 53) (s64 : fld g 4 2 = fld g 37 64) (s86 : fld g 20 2 = fld g 37 86) (s96 : fld g 27 0 = fld g 37 96) : yM g = yC g := yEq_t H C R [37, 48, 98, 186] e1 eA b86 (fun a i hc => by
  rw [List.contains_iff_mem] at hc
  simp only [List.mem_cons, List.not_mem_nil, or_false] at hc
  rcases hc with rfl | rfl | rfl | rfl
  · exact y37_of H R e37 s0 s1 s2 s41 s52 s53 s64 s86 s96
  · exact y48_of RO
  · exact y98_of TX
  · exact y186_of AK N s86)
/-- a sheet put in force -/
theorem yEq_f (H : yM h = yC h) (C : CI h) (R : zXR ms c s h g) (e1 : yXo ms = true) (eA : (List.range 366).all (fun a => [37, 164, 165].contains a || (Nat.beq (yK a) 8 || (yCf ms a && yTf ms a))) = true) (e37 : y37k ms = true) (b86 : fld h 37 86 ≤ 6) (SH : zShe g) (FO : zFo g) {va vb vz : Int} {m : Nat} (hm : m = (fld h 13 1).toNat) (hc : fld g 13 1 = fld h 13 1 + 1) (b0 : 0 ≤ fld h 13 1 ∧ fld h 13 1 < 12) (m1 : fld g 164 = zu (fld h 164) m va) (m2 : fld g 165 = zu (fld h 165) m vb) (x3 : fld g 16 = zu (fld h 16) m vz) (s0 : fld g 1 0 = fld g 37 0) (s1 : fld g 2 2 = fld g 37 1) (s2 : fld g 3 2 = fld g 37 2) (s41 : fld g 9 0 = fld g 37 41) (s52 : fld g 14 2 = fld g 37 52) (s53 : fld g 13 1 = fld g 37 53) (s64 : fld g 4 2 = fld g 37 64) (s86 : fld g 20 2 = fld g 37 86) (s96 : fld g 27 0 = fld g 37 96) : yM g = yC g := yEq_t H C R [37, 164, 165] e1 eA b86 (fun a i hc' => by
  rw [List.contains_iff_mem] at hc'
  simp only [List.mem_cons, List.not_mem_nil, or_false] at hc'
  rcases hc' with rfl | rfl | rfl
  · exact y37_of H R e37 s0 s1 s2 s41 s52 s53 s64 s86 s96
  · show _ = (if (i : Int) < fld g 13 1 then fld g (fld g 15 i) 0 else 0)
    by_cases z : (i : Int) < fld g 13 1
    · obtain ⟨⟨p0, p1⟩, p2, -, -⟩ := FO i z
      have w := (SH (fld g 164 i).toNat (by omega)).1
      have ye : yM g 164 i = fld g 164 i := yM_p (a := 164) (n := 12) rfl (by omega)
      rw [if_pos z, p2, w, ye]
      omega
    · rw [if_neg z]
      by_cases y : i < 12
      · have hh := congrFun (congrFun H 164) i
        have ch : yC h 164 i = if (i : Int) < fld h 13 1 then fld h (fld h 15 i) 0 else 0 := rfl
        rw [ch, if_neg (by omega), yM_p (a := 164) (n := 12) rfl y] at hh
        rw [yM_p (a := 164) (n := 12) rfl y, show fld g ((164 : Nat) : Int) i = zu (fld h 164) m va i from congrFun m1 i, zu_ne (by omega)]
        exact hh
      · exact yM_o (by decide) (by decide) (by show 12 ≤ i; omega)
  · show _ = (if i < 12 then fld g 16 i else 0)
    by_cases y : i < 12
    · rw [if_pos y, yM_p (a := 165) (n := 12) rfl y]
      by_cases z : (i : Int) < fld g 13 1
      · exact (FO i z).2.2.1.symm
      · have hh := congrFun (congrFun H 165) i
        have ch : yC h 165 i = if i < 12 then fld h 16 i else 0 := rfl
        rw [ch, if_pos y, yM_p (a := 165) (n := 12) rfl y] at hh
        rw [show fld g ((165 : Nat) : Int) i = zu (fld h 165) m vb i from congrFun m2 i, zu_ne (by omega), congrFun x3 i, zu_ne (by omega)]
        exact hh
    · rw [if_neg y]
      exact yM_o (by decide) (by decide) (by show 12 ≤ i; omega))
/-- numbers and references behind such calls -/
theorem yR_g (J : yR h) (C : CI h) (R : zXR ms c s h g) (e : yXo ms = true) (SH : zShe g) (AK : zAk g) (FO : zFo g) (e4 : fld g 20 2 = fld g 37 86) : yR g := by
  unfold yXo at e
  simp only [Bool.and_eq_true] at e
  obtain ⟨⟨e2, e3, e4, e5⟩, -⟩ := e
  have L : ∀ A : Nat, (A = 2 ∨ A = 3 ∨ A = 4 ∨ A = 5) → A ∈ zLis ∧ fld g A 2 = fld h A 2 ∧ ∀ i : Nat, (i : Int) < fld h A 2 → zv g A i = zv h A i := by
    intro A hA
    rcases hA with rfl | rfl | rfl | rfl
    · exact ⟨by decide, R.vz (A := 2) (by decide) e2, fun i hi => R.v C (A := 2) (by decide) e2 hi⟩
    · exact ⟨by decide, R.vz (A := 3) (by decide) e3, fun i hi => R.v C (A := 3) (by decide) e3 hi⟩
    · exact ⟨by decide, R.vz (A := 4) (by decide) e4, fun i hi => R.v C (A := 4) (by decide) e4 hi⟩
    · exact ⟨by decide, R.vz (A := 5) (by decide) e5, fun i hi => R.v C (A := 5) (by decide) e5 hi⟩
  have F : ∀ (A j : Nat), A ∈ zLis → zfin (zkd A) j = true → ∀ i : Nat, (i : Int) < fld h A 2 → fld g (zv h A i) j = fld h (zv h A i) j := by
    intro A j hA hf i hi
    obtain ⟨h1, n, h2⟩ := zv_s C hA hi
    exact R.2.2.1 _ _ n j h1 h2 hf
  obtain ⟨j1, j2, j3, j4, j5, j6⟩ := J
  refine ⟨fun A hA i hi => ?_, fun A j B hB i hi => ?_, fun i hi => ?_, fun i hi => ?_, fun i hi => ?_, fun i k hi hk e => ?_⟩
  · by_cases z : A = 14
    · subst z
      exact (SH i hi).1
    · obtain ⟨m, l, v⟩ := L A (by omega)
      rw [l] at hi
      rw [v i hi, F A 0 m (by unfold zkd; rcases (show A = 2 ∨ A = 3 ∨ A = 4 by omega) with rfl | rfl | rfl <;> rfl) i hi]
      exact j1 A hA i hi
  · obtain ⟨m, l, v⟩ := L A (by omega)
    obtain ⟨m', l', v'⟩ := L B (by omega)
    rw [l] at hi
    obtain ⟨w, w1, w2⟩ := j2 A j B hB i hi
    refine ⟨w, by rw [l']; exact w1, ?_⟩
    rw [v i hi, F A j m (by unfold zkd; rcases hB with ⟨rfl, rfl, -⟩ | ⟨rfl, rfl, -⟩ | ⟨rfl, rfl, -⟩ | ⟨rfl, rfl, -⟩ <;> rfl) i hi, v' w w1]
    exact w2
  · obtain ⟨p1, p2, p3⟩ := AK i hi
    exact ⟨(fld g 186 i).toNat, by omega, p3⟩
  · obtain ⟨⟨p0, p1⟩, p2, -, -⟩ := FO i hi
    exact ⟨(fld g 164 i).toNat, by omega, p2⟩
  · obtain ⟨m, l, v⟩ := L 2 (by omega)
    have l : fld g 2 2 = fld h 2 2 := l
    rw [l] at hi
    rw [v i hi, F 2 1 m rfl i hi]
    exact j5 i hi
  · obtain ⟨m, l, v⟩ := L 5 (by omega)
    have l : fld g 5 2 = fld h 5 2 := l
    rw [l] at hi hk
    rw [v i hi, v k hk] at e
    exact j6 i k hi hk e
/-- the bounds behind such calls -/
def yKl : List Nat := [39, 71, 79, 80, 81, 82, 83, 170, 172, 173, 85, 66, 65, 206, 67, 68, 181, 183, 184, 91, 92, 57]
def yIk (ms : Zms) : Bool := yKl.all (fun a => yTf ms a) && (zqN ms 37 37 0 3 && (zqN ms 37 37 64 65 && zqN ms 37 37 78 79))
theorem yIv.gr (V : yIv (yM h)) (R : zXR ms c s h g) (e : yIk ms = true) (b86 : fld h 37 86 ≤ 6) : yIv (yM g) := by
  unfold yIk at e
  simp only [Bool.and_eq_true] at e
  obtain ⟨e0, e1, e2, e3⟩ := e
  refine V.ag (fun a i ha => ?_)
  by_cases z : a = 37
  · subst z
    have w : i ≤ 2 ∨ i = 64 ∨ i = 78 := by unfold yKj yKi yKb yKt at ha; omega
    have sc : ySc i = true := by
      rcases (show i = 0 ∨ i = 1 ∨ i = 2 ∨ i = 64 ∨ i = 78 by omega) with rfl | rfl | rfl | rfl | rfl <;> rfl
    rw [yM_s sc, yM_s sc]
    rcases w with w | w | w
    · exact R.f e1 (r := 37) (by first | decide | exact ⟨by decide, by decide⟩) (by first | omega | exact ⟨by omega, by omega⟩) (by first | decide | exact ⟨by decide, by decide⟩)
    · exact R.f e2 (r := 37) (by first | decide | exact ⟨by decide, by decide⟩) (by first | omega | exact ⟨by omega, by omega⟩) (by first | decide | exact ⟨by decide, by decide⟩)
    · exact R.f e3 (r := 37) (by first | decide | exact ⟨by decide, by decide⟩) (by first | omega | exact ⟨by omega, by omega⟩) (by first | decide | exact ⟨by decide, by decide⟩)
  · have m : a ∈ yKl := by
      unfold yKl
      simp only [List.mem_cons, List.not_mem_nil, or_false]
      unfold yKj yKi yKb yKt at ha
      omega
    exact yM_zx R (Or.inr (List.all_eq_true.mp e0 a m)) b86
/-- what class and model have alike, with all tables -/
def wD (h : Hp) : Prop := yM h = yC h ∧ yR h ∧ yIv (yM h) ∧ zCk h ∧ zPd h
end YREL
end
section
/-! all tables as both constructors leave them -/
section YST
variable {h : Hp} {a i r : Nat}
def wkZ (h : Hp) (r : Nat) : Bool := match cel h (r : Int) with
  | some (_, l) => l.all (fun x => decide (x = 0))
  | none => false
theorem wkZ_ok (e : wkZ h r = true) : ∀ q : Nat, fld h (r : Int) q = 0 := by
  intro q
  unfold wkZ at e
  cases hc : cel h (r : Int) with
  | none => rw [hc] at e; cases e
  | some z =>
    obtain ⟨k, l⟩ := z
    rw [hc] at e
    dsimp only at e
    rw [fld_of hc, List.getD_eq_getElem?_getD]
    by_cases hq : q < l.length
    · rw [List.getElem?_eq_getElem hq]
      exact of_decide_eq_true (List.all_eq_true.mp e _ (List.getElem_mem hq))
    · rw [List.getElem?_eq_none (by omega)]
      rfl
/-- the model's rows that stay, and the class's -/
def wkZr : List (Nat × Nat) := [(10, 1), (16, 1), (28, 3), (35, 1), (39, 8), (48, 8), (57, 8), (65, 34), (164, 2), (170, 6), (180, 7), (206, 156), (363, 3)]
def wkD (h : Hp) : Bool := wkZr.all (fun e => (List.range e.2).all (fun j => wkZ h (e.1 + j))) && ((List.range 64).all (fun i => decide (fld h 7 i = 0) || decide (fld h 7 i = 1000000)) && ([0, 1, 2, 38, 41, 52, 53, 64, 69, 70, 71, 78, 86, 96].all (fun i => decide (fld h 37 i = 0) && decide (fld h ((ySr i).1 : Nat) (ySr i).2 = 0)) && ([2, 3, 4, 5, 14, 20].all (fun A => decide (fld h ((A : Nat) : Int) 2 = 0)) && decide (fld h 13 1 = 0))))
theorem wkD_ok (e : wkD h = true) : wD h := by
  unfold wkD at e
  simp only [Bool.and_eq_true, List.all_eq_true] at e
  obtain ⟨e1, e2, e3, e4, e5⟩ := e
  have e5 := of_decide_eq_true e5
  have Z : ∀ b n : Nat, (b, n) ∈ wkZr → ∀ (p : Nat) (q : Nat), b ≤ p → p < b + n → fld h (p : Int) q = 0 := fun b n m p q h1 h2 => by
    have w := e1 (b, n) m (p - b) (List.mem_range.mpr (by omega))
    have w := wkZ_ok w q
    rwa [show b + (p - b) = p by omega] at w
  have L : ∀ A : Nat, A ∈ [2, 3, 4, 5, 14, 20] → fld h (A : Int) 2 = 0 := fun A m => of_decide_eq_true (e4 A m)
  have l2 : fld h 2 2 = 0 := L 2 (by decide)
  have l3 : fld h 3 2 = 0 := L 3 (by decide)
  have l4 : fld h 4 2 = 0 := L 4 (by decide)
  have l5 : fld h 5 2 = 0 := L 5 (by decide)
  have l14 : fld h 14 2 = 0 := L 14 (by decide)
  have l20 : fld h 20 2 = 0 := L 20 (by decide)
  have S : ∀ i, i ∈ [0, 1, 2, 38, 41, 52, 53, 64, 69, 70, 71, 78, 86, 96] → fld h 37 i = 0 ∧ fld h ((ySr i).1 : Nat) (ySr i).2 = 0 := fun i m => by
    have w := e3 i m
    exact ⟨of_decide_eq_true w.1, of_decide_eq_true w.2⟩
  have sM : ∀ i, ySc i = true → i ∈ [0, 1, 2, 38, 41, 52, 53, 64, 69, 70, 71, 78, 86, 96] := fun i c => by
    simp only [List.mem_cons, List.not_mem_nil, or_false]
    have := ySc_of c
    omega
  have m86 : fld h 37 86 = 0 := (S 86 (by decide)).1
  have zM : ∀ a i, yK a ≠ 8 → a ≠ 37 → yM h a i = 0 := by
    intro a i h8 h37
    by_cases h186 : a = 186
    · rw [h186, yM_186, if_neg (by omega)]
    by_cases hi : i < ySz a
    · have w := yM_wh hi
      have key : fld h ((a + i / yWd a : Nat) : Int) (i % yWd a) = 0 := by
        have n8 : a ≠ 8 := fun z => h8 (by rw [z]; rfl)
        have n101 : a ≠ 101 := fun z => h8 (by rw [z]; rfl)
        have n155 : a ≠ 155 := fun z => h8 (by rw [z]; rfl)
        have c : (39 ≤ a + i / yWd a ∧ a + i / yWd a < 47) ∨ (48 ≤ a + i / yWd a ∧ a + i / yWd a < 56) ∨ (57 ≤ a + i / yWd a ∧ a + i / yWd a < 65) ∨ (65 ≤ a + i / yWd a ∧ a + i / yWd a < 99) ∨ (164 ≤ a + i / yWd a ∧ a + i / yWd a < 166) ∨ (170 ≤ a + i / yWd a ∧ a + i / yWd a < 176) ∨ (180 ≤ a + i / yWd a ∧ a + i / yWd a < 187) ∨ (206 ≤ a + i / yWd a ∧ a + i / yWd a < 362) ∨ (363 ≤ a + i / yWd a ∧ a + i / yWd a < 366) ∨ (166 ≤ a ∧ a < 170 ∧ ySz a = 0) ∨ (176 ≤ a ∧ a < 180 ∧ ySz a = 0) := by
          rcases w with ⟨w1, w2, ⟨w31, w32, w33, w34, w35, w36⟩, w4, w5, w6⟩ | ⟨w1, w2, w3, w4⟩
          · rcases w1 with z | z | z | z | z | z
            · have y := w31 z
              clear w31 w32 w33 w34 w35 w36 w6
              omega
            · have y := w32 z
              clear w31 w32 w33 w34 w35 w36 w6
              omega
            · have y := w33 z
              clear w31 w32 w33 w34 w35 w36 w6
              omega
            · exact absurd z n101
            · exact absurd z n155
            · have y := w36 z
              clear w31 w32 w33 w34 w35 w36 w6
              omega
          · rcases (show (65 ≤ a ∧ a < 99) ∨ (164 ≤ a ∧ a < 166) ∨ (166 ≤ a ∧ a < 170) ∨ (170 ≤ a ∧ a < 176) ∨ (176 ≤ a ∧ a < 180) ∨ (180 ≤ a ∧ a < 187) ∨ (363 ≤ a ∧ a < 366) by omega) with z | z | z | z | z | z | z
            · omega
            · omega
            · have y : a = 166 ∨ a = 167 ∨ a = 168 ∨ a = 169 := by omega
              have : ySz a = 0 := by rcases y with rfl | rfl | rfl | rfl <;> rfl
              omega
            · omega
            · have y : a = 176 ∨ a = 177 ∨ a = 178 ∨ a = 179 := by omega
              have : ySz a = 0 := by rcases y with rfl | rfl | rfl | rfl <;> rfl
              omega
            · omega
            · omega
        clear w
        rcases c with c | c | c | c | c | c | c | c | c | c | c
        · exact Z 39 8 (by decide) _ _ c.1 (by omega)
        · exact Z 48 8 (by decide) _ _ c.1 (by omega)
        · exact Z 57 8 (by decide) _ _ c.1 (by omega)
        · exact Z 65 34 (by decide) _ _ c.1 (by omega)
        · exact Z 164 2 (by decide) _ _ c.1 (by omega)
        · exact Z 170 6 (by decide) _ _ c.1 (by omega)
        · exact Z 180 7 (by decide) _ _ c.1 (by omega)
        · exact Z 206 156 (by decide) _ _ c.1 (by omega)
        · exact Z 363 3 (by decide) _ _ c.1 (by omega)
        · omega
        · omega
      unfold yM
      rw [zbq_f h37, zbq_f h186, blt_t hi]
      simp only [cond_false, cond_true]
      rw [key]
      cases c5 : Nat.beq a 93 with
      | false => rfl
      | true =>
        have hb := Nat.eq_of_beq_eq_true c5
        subst hb
        have key : fld h ((93 + i / 0 : Nat) : Int) (i % 0) = 0 := key
        rw [Nat.div_zero, Nat.mod_zero] at key
        show w32 _ = 0
        rw [show fld h 93 i = 0 from key]
        rfl
    · exact yM_o h37 h186 (by omega)
  have zC : ∀ a i, yK a ≠ 8 → a ≠ 37 → yC h a i = 0 := by
    intro a i h8 h37
    unfold yC
    split
    · rename_i hK
      exact absurd (yK_1 hK) h37
    · exact if_neg (fun z => by have := z.2; omega)
    · by_cases q : i < 64
      · rw [if_pos q]
        have w := e2 i (List.mem_range.mpr q)
        rw [Bool.or_eq_true, decide_eq_true_eq, decide_eq_true_eq] at w
        split <;> omega
      · rw [if_neg q]
    · exact if_neg (fun z => by have := z.2.1; omega)
    · by_cases q : i < 400
      · rw [if_pos q, show fld h 10 i = 0 from Z 10 1 (by decide) 10 i (by decide) (by decide)]
        rfl
      · rw [if_neg q]
    · exact if_neg (by omega)
    · exact if_neg (by omega)
    · rename_i hK
      exact absurd hK h8
    · rename_i hK
      by_cases q : i < ySz a
      · rw [if_pos q]
        rcases yK_9 hK with rfl | rfl | rfl | rfl | rfl
        · exact Z 16 1 (by decide) 16 i (by decide) (by decide)
        · exact Z 35 1 (by decide) 35 i (by decide) (by decide)
        · exact Z 28 3 (by decide) 28 i (by decide) (by decide)
        · exact Z 28 3 (by decide) 29 i (by decide) (by decide)
        · exact Z 28 3 (by decide) 30 i (by decide) (by decide)
      · rw [if_neg q]
    · rename_i hK
      refine if_neg ?_
      rcases yK_10 hK with ⟨z, -⟩ | ⟨z, -⟩ | ⟨z, -⟩ | ⟨z, -⟩ <;> rw [z]
      · show ¬ (i : Int) < fld h 3 2
        omega
      · show ¬ (i : Int) < fld h 4 2
        omega
      · show ¬ (i : Int) < fld h 5 2
        omega
      · show ¬ (i : Int) < fld h 5 2
        omega
    · rename_i hK
      refine if_neg ?_
      rcases (yF_of hK).2.2 with z | z | z | z <;> rw [z]
      · show ¬ (i : Int) < fld h 2 2
        omega
      · show ¬ (i : Int) < fld h 3 2
        omega
      · show ¬ (i : Int) < fld h 4 2
        omega
      · show ¬ (i : Int) < fld h 5 2
        omega
    · rfl
  have H : yM h = yC h := by
    funext a i
    by_cases h8 : yK a = 8
    · exact (yC_8 h8).symm
    by_cases h37 : a = 37
    · subst h37
      cases c : ySc i with
      | false =>
        show cond (ySc i) _ _ = cond (ySc i) _ _
        rw [c]
        rfl
      | true =>
        have w := S i (sM i c)
        rw [yM_s c, yC_s c, w.1, w.2]
    · rw [zM a i h8 h37, zC a i h8 h37]
  have m0 : yM h 37 0 = 0 := (S 0 (by decide)).1
  have m1 : yM h 37 1 = 0 := (S 1 (by decide)).1
  have m2 : yM h 37 2 = 0 := (S 2 (by decide)).1
  have m64 : yM h 37 64 = 0 := (S 64 (by decide)).1
  have m78 : yM h 37 78 = 0 := (S 78 (by decide)).1
  have m52 : fld h 37 52 = 0 := (S 52 (by decide)).1
  refine ⟨H, ⟨fun A hA j hj => ?_, fun A j B hB k hk => ?_, fun j hj => by omega, fun j hj => by omega, fun j hj => by omega, fun j k hj => by omega⟩, ⟨⟨⟨?_, fun k hk => by omega, fun v hv => by omega, fun l hl => by omega⟩, ⟨fun k hk => by omega, fun v hv => by omega, by omega, by omega, by omega, by omega⟩, fun v hv => by omega, fun j hj => zM 206 j (by decide) (by decide)⟩, ⟨by omega, fun v hv => by omega, fun u hu => by omega, fun k hk => by omega⟩, fun v hv => by omega⟩, fun s c s0 s1 => by omega, fun v k hv => by omega⟩
  · exfalso
    rcases hA with rfl | rfl | rfl | rfl
    · have hj : (j : Int) < fld h 2 2 := hj
      omega
    · have hj : (j : Int) < fld h 3 2 := hj
      omega
    · have hj : (j : Int) < fld h 4 2 := hj
      omega
    · have hj : (j : Int) < fld h 14 2 := hj
      omega
  · exfalso
    rcases hB with ⟨rfl, -⟩ | ⟨rfl, -⟩ | ⟨rfl, -⟩ | ⟨rfl, -⟩
    · have hk : (k : Int) < fld h 3 2 := hk
      omega
    · have hk : (k : Int) < fld h 4 2 := hk
      omega
    · have hk : (k : Int) < fld h 5 2 := hk
      omega
    · have hk : (k : Int) < fld h 5 2 := hk
      omega
  · omega
/-- bounds of the model's rows, everywhere -/
theorem yM_185 (I : zI h) (i : Nat) : 0 ≤ yM h 185 i ∧ yM h 185 i ≤ 1 := by
  by_cases q : i < 200
  · rw [yM_p (a := 185) (n := 200) rfl q]
    exact I.b (a1 := 185) (a2 := 185) (j1 := 0) (j2 := 200) (lo := 0) (hi := 1) (by decide +kernel) (r := 185) (j := i) (by decide) (by decide) (by omega) (by omega)
  · rw [yM_o (by decide) (by decide) (by show 200 ≤ i; omega)]
    exact (by first | decide | exact ⟨by decide, by decide⟩)
theorem yM_74 (I : zI h) (i : Nat) : 0 ≤ yM h 74 i ∧ yM h 74 i ≤ 9999 := by
  by_cases q : i < 8
  · rw [yM_p (a := 74) (n := 8) rfl q]
    exact I.b (a1 := 74) (a2 := 74) (j1 := 0) (j2 := 8) (lo := 0) (hi := 9999) (by decide +kernel) (r := 74) (j := i) (by decide) (by decide) (by omega) (by omega)
  · rw [yM_o (by decide) (by decide) (by show 8 ≤ i; omega)]
    exact (by first | decide | exact ⟨by decide, by decide⟩)
theorem yM_83 (I : zI h) (i : Nat) : 0 ≤ yM h 83 i ∧ yM h 83 i ≤ 9 := by
  by_cases q : i < 20
  · rw [yM_p (a := 83) (n := 20) rfl q]
    exact I.b (a1 := 83) (a2 := 83) (j1 := 0) (j2 := 20) (lo := 0) (hi := 9) (by decide +kernel) (r := 83) (j := i) (by decide) (by decide) (by omega) (by omega)
  · rw [yM_o (by decide) (by decide) (by show 20 ≤ i; omega)]
    exact (by first | decide | exact ⟨by decide, by decide⟩)
end YST
end
section
/-! the BEST heap: pure -/
section YBST
variable {h g h' h1 : Hp} {S T U : zT} {b c d x : Int} {a i j k u v n e : Nat}
theorem i_and1 : 0 ≤ i_and x 1 ∧ i_and x 1 ≤ 1 := by
  unfold i_and
  rw [show z32 1 = 1 from rfl, Nat.and_one_is_mod]
  unfold w32
  omega
def yBt (b k : Int) : Int := i_and (i_shr b k) 1
theorem yBt_b : 0 ≤ yBt b x ∧ yBt b x ≤ 1 := i_and1
/-- a gift is given: to house b, of village c, of kind d -/
def yGv (S : zT) (b c d : Int) : zT := if d = 0 then zs S 80 b.toNat (min (S 80 b.toNat + 1) 5) else if d = 1 then zs S 81 b.toNat (min (S 81 b.toNat + 1) 9) else zs S 66 c.toNat (min (S 66 c.toNat + 5) 9999)
def yG1 (S : zT) (k : Nat) : zT := yGv S (S 364 k) (S 79 (S 364 k).toNat) (S 365 k)
def yGN (S : zT) (b : Int) : Nat → zT
  | 0 => S
  | k + 1 => if yBt b k = 0 then yGN S b k else yG1 (yGN S b k) k
def yCo (S : zT) (b : Int) : Nat → Int
  | 0 => 0
  | k + 1 => yCo S b k + (if yBt b k = 0 then 0 else S 363 k)
/-- what a heap costs, what is spun with it -/
def yCst (S : zT) (b : Int) : Int := yCo S b (S 37 96).toNat
def ySpn (S : zT) (b : Int) : Int := yTo (yGN S b (S 37 96).toNat) (yEp S) (S 37 2).toNat
/-- the best of the heaps up to n: which, and what is spun -/
def yBN (S : zT) (c : Int) : Nat → Int × Int
  | 0 => (0, ySpn S 0)
  | n + 1 => if yCst S ((n : Int) + 1) ≤ c ∧ ((yBN S c n).2 < ySpn S ((n : Int) + 1) ∨ (ySpn S ((n : Int) + 1) = (yBN S c n).2 ∧ yCst S ((n : Int) + 1) < yCst S (yBN S c n).1)) then ((n : Int) + 1, ySpn S ((n : Int) + 1)) else yBN S c n
def yBst (S : zT) (c : Int) : Int × Int := yBN S c ((i_shl 1 (S 37 96)).toNat - 1)
def yBstA (S : zT) (b c : Int) : Int := if 0 ≤ b ∧ (0 ≤ c ∧ c ≤ 2) ∧ S 37 0 < 156 then (if c = 0 then (yBst S b).1 else if c = 1 then (yBst S b).2 else yCst S (yBst S b).1) else -1
/-- gifts that can be given -/
def yGf (S : zT) : Prop := (0 ≤ S 37 96 ∧ S 37 96 ≤ 8) ∧ ∀ k : Nat, (k : Int) < S 37 96 → (0 ≤ S 364 k ∧ S 364 k < S 37 2) ∧ (0 ≤ S 365 k ∧ S 365 k ≤ 2) ∧ (1 ≤ S 363 k ∧ S 363 k ≤ 99)
theorem yGf.cg (F : yGf S) (t : ∀ a i, a ≠ 66 → a ≠ 80 → a ≠ 81 → T a i = S a i) : yGf T := by
  unfold yGf
  rw [t 37 96 (by decide) (by decide) (by decide), t 37 2 (by decide) (by decide) (by decide)]
  refine ⟨F.1, fun k hk => ?_⟩
  rw [t 363 k (by decide) (by decide) (by decide), t 364 k (by decide) (by decide) (by decide), t 365 k (by decide) (by decide) (by decide)]
  exact F.2 k hk
theorem yGv_na (h1 : a ≠ 66) (h2 : a ≠ 80) (h3 : a ≠ 81) : yGv S b c d a i = S a i := by
  unfold yGv
  split
  · exact zs_na h2
  · split
    · exact zs_na h3
    · exact zs_na h1
theorem yGN_na (h1 : a ≠ 66) (h2 : a ≠ 80) (h3 : a ≠ 81) : ∀ n, yGN S b n a i = S a i
  | 0 => rfl
  | n + 1 => by
    have w := yGN_na h1 h2 h3 n
    show (if yBt b n = 0 then yGN S b n else yG1 (yGN S b n) n) a i = _
    split
    · exact w
    · exact (yGv_na h1 h2 h3).trans w
theorem yGN_s : yGN S b (n + 1) = if yBt b n = 0 then yGN S b n else yG1 (yGN S b n) n := rfl
theorem yCo_s : yCo S b (n + 1) = yCo S b n + (if yBt b n = 0 then 0 else S 363 n) := rfl
theorem yCo_b (F : yGf S) : ∀ n : Nat, (n : Int) ≤ S 37 96 → 0 ≤ yCo S b n ∧ yCo S b n ≤ 99 * n
  | 0, _ => ⟨Int.le_refl _, by show (0 : Int) ≤ _; omega⟩
  | n + 1, h => by
    have w := yCo_b F n (by omega)
    have q := F.2 n (by omega)
    rw [yCo_s]
    split <;> omega
theorem yCst_0 (z : ∀ k : Nat, k < 8 → yBt 0 k = 0) (F : yGf S) : yCst S 0 = 0 := by
  have w : ∀ n : Nat, n ≤ 8 → yCo S 0 n = 0 := by
    intro n
    induction n with
    | zero => intro _; rfl
    | succ n ih =>
      intro hn
      rw [yCo_s, ih (by omega), if_pos (z n (by omega))]
      rfl
  exact w _ (by have := F.1; omega)
theorem yBt_0 : ∀ k : Nat, k < 8 → yBt 0 k = 0 := by decide +kernel
theorem zBs.gv (B : zBs S) (hb : 0 ≤ b ∧ b < S 37 2) (hc : 0 ≤ c ∧ c < S 37 1) : zBs (yGv S b c d) := by
  have kb := B.1 b.toNat (by omega)
  have kc := (B.2.1 c.toNat (by omega)).1
  obtain ⟨b1, b2, b3, b4, b5, b6⟩ := B
  unfold yGv
  split
  · refine ⟨fun k hk => ?_, fun v hv => b2 v hv, b3, b4, b5, b6⟩
    have w := b1 k hk
    refine ⟨?_, w.2⟩
    rw [zs_if]
    split
    · omega
    · exact w.1
  · split
    · refine ⟨fun k hk => ?_, fun v hv => b2 v hv, b3, b4, b5, b6⟩
      have w := b1 k hk
      refine ⟨w.1, ?_, w.2.2⟩
      rw [zs_if]
      split
      · omega
      · exact w.2.1
    · refine ⟨fun k hk => b1 k hk, fun v hv => ⟨?_, (b2 v hv).2⟩, b3, b4, b5, b6⟩
      rw [zs_if]
      split
      · omega
      · exact (b2 v hv).1
theorem zBs.gn (B : zBs S) (F : yGf S) : ∀ n : Nat, (n : Int) ≤ S 37 96 → zBs (yGN S b n)
  | 0, _ => B
  | n + 1, h => by
    have w := zBs.gn B F n (by omega)
    rw [yGN_s]
    split
    · exact w
    · have q := F.2 n (by omega)
      have q2 := B.1 (S 364 n).toNat (by omega)
      refine w.gv ?_ ?_
      · rw [yGN_na (by decide) (by decide) (by decide), yGN_na (by decide) (by decide) (by decide)]
        exact q.1
      · rw [yGN_na (a := 364) (by decide) (by decide) (by decide), yGN_na (a := 79) (by decide) (by decide) (by decide), yGN_na (a := 37) (by decide) (by decide) (by decide)]
        exact q2.2.2.2
theorem zAg.gv (A : zAg S T) (hb : 0 ≤ b ∧ b < S 37 2) (hc : 0 ≤ c ∧ c < S 37 1) : zAg (yGv S b c d) (yGv T b c d) := by
  obtain ⟨a1, a2, a3⟩ := A
  have kb := a2 b.toNat (by omega)
  have kc := (a3 c.toNat (by omega)).1
  unfold yGv
  by_cases z0 : d = 0
  · rw [if_pos z0, if_pos z0]
    refine ⟨a1, fun k hk => ?_, fun v hv => a3 v hv⟩
    have w := a2 k hk
    refine ⟨w.1, ?_, w.2.2⟩
    rw [zs_if, zs_if, kb.2.1, w.2.1]
  · rw [if_neg z0, if_neg z0]
    by_cases z1 : d = 1
    · rw [if_pos z1, if_pos z1]
      refine ⟨a1, fun k hk => ?_, fun v hv => a3 v hv⟩
      have w := a2 k hk
      refine ⟨w.1, w.2.1, ?_, w.2.2.2⟩
      rw [zs_if, zs_if, kb.2.2.1, w.2.2.1]
    · rw [if_neg z1, if_neg z1]
      refine ⟨a1, fun k hk => a2 k hk, fun v hv => ⟨?_, (a3 v hv).2⟩⟩
      rw [zs_if, zs_if, kc, (a3 v hv).1]
theorem zAg.gn (A : zAg S T) (B : zBs S) (F : yGf S) (t : ∀ k : Nat, (k : Int) < S 37 96 → T 364 k = S 364 k ∧ T 365 k = S 365 k) : ∀ n : Nat, (n : Int) ≤ S 37 96 → zAg (yGN S b n) (yGN T b n)
  | 0, _ => A
  | n + 1, h => by
    have w := zAg.gn A B F t n (by omega)
    rw [yGN_s, yGN_s]
    split
    · exact w
    · have q := F.2 n (by omega)
      have q2 := B.1 (S 364 n).toNat (by omega)
      have p := t n (by omega)
      unfold yG1
      rw [yGN_na (S := T) (a := 364) (by decide) (by decide) (by decide), yGN_na (S := T) (a := 365) (by decide) (by decide) (by decide), yGN_na (S := T) (a := 79) (by decide) (by decide) (by decide), yGN_na (S := S) (a := 364) (by decide) (by decide) (by decide), yGN_na (S := S) (a := 365) (by decide) (by decide) (by decide), yGN_na (S := S) (a := 79) (by decide) (by decide) (by decide), p.1, p.2, ← (A.2.1 (S 364 n).toNat (by omega)).1]
      refine w.gv ?_ ?_
      · rw [yGN_na (by decide) (by decide) (by decide)]
        exact q.1
      · rw [yGN_na (a := 37) (by decide) (by decide) (by decide)]
        exact q2.2.2.2
theorem yEp_ag (A : zAg S T) : yEp S = yEp T := by unfold yEp; rw [A.1.1]
theorem ySpn_ag (A : zAg U T) (B : zBs T) (F : yGf T) (t : ∀ k : Nat, (k : Int) < T 37 96 → U 364 k = T 364 k ∧ U 365 k = T 365 k) : yTo (yGN U b (T 37 96).toNat) (yEp T) (T 37 2).toNat = ySpn T b := by
  have f := F.1
  have b6 := B.2.2.2.2.2
  have w := (zAg.gn (b := b) A.sy B F t (T 37 96).toNat (by omega)).to (B.gn F _ (by omega)) (yEp_4 (S := T)) (T 37 2).toNat (by rw [yGN_na (by decide) (by decide) (by decide)]; omega)
  exact w.symm
theorem ySpn_b (B : zBs S) (F : yGf S) : 0 ≤ ySpn S b ∧ ySpn S b ≤ 76000 := by
  have f := F.1
  have b6 := B.2.2.2.2.2
  have w := yTo_b (B.gn (b := b) F (S 37 96).toNat (by omega)) (yEp_4 (S := S)) (S 37 2).toNat (by rw [yGN_na (by decide) (by decide) (by decide)]; omega)
  unfold ySpn
  omega
theorem yTo_stop (z : 300 ≤ ySN S e k 37 64) : ∀ d : Nat, ySN S e (k + d) = ySN S e k ∧ yTo S e (k + d) = yTo S e k
  | 0 => ⟨rfl, rfl⟩
  | d + 1 => by
    have w := yTo_stop z d
    have x0 : yX (ySN S e (k + d)) e (k + d) = 0 := by
      unfold yX
      rw [w.1, if_pos z]
    refine ⟨?_, ?_⟩
    · show yS1 (ySN S e (k + d)) e (k + d) = _
      rw [yS1_0 x0]
      exact w.1
    · show yTo S e (k + d) + yX (ySN S e (k + d)) e (k + d) = _
      rw [x0, w.2, Int.add_zero]
theorem yTo_end (z : 300 ≤ ySN S e k 37 64) (hk : k ≤ n) : yTo S e n = yTo S e k := by
  have w := (yTo_stop z (n - k)).2
  rw [show k + (n - k) = n by omega] at w
  exact w
theorem yBN_s : yBN S c (n + 1) = if yCst S ((n : Int) + 1) ≤ c ∧ ((yBN S c n).2 < ySpn S ((n : Int) + 1) ∨ (ySpn S ((n : Int) + 1) = (yBN S c n).2 ∧ yCst S ((n : Int) + 1) < yCst S (yBN S c n).1)) then ((n : Int) + 1, ySpn S ((n : Int) + 1)) else yBN S c n := rfl
theorem yBN_b (B : zBs S) (F : yGf S) : ∀ n : Nat, (0 ≤ (yBN S c n).1 ∧ (yBN S c n).1 ≤ n) ∧ 0 ≤ (yBN S c n).2 ∧ (yBN S c n).2 ≤ 76000
  | 0 => ⟨⟨Int.le_refl _, Int.le_refl _⟩, ySpn_b B F⟩
  | n + 1 => by
    have w := yBN_b B F n
    rw [yBN_s]
    split
    · exact ⟨⟨by omega, by show (n : Int) + 1 ≤ _; omega⟩, ySpn_b B F⟩
    · exact ⟨⟨w.1.1, by omega⟩, w.2⟩
/-- wheels, skill and cotton of their own: class and model -/
def xOv (h : Hp) : zT := fun a i => if a = 80 then fld h 31 i else if a = 81 then fld h 32 i else if a = 66 then fld h 33 i else yC h a i
def yOv (h : Hp) : zT := fun a i => if a = 80 then fld h 178 i else if a = 81 then fld h 179 i else if a = 66 then fld h 177 i else yM h a i
theorem xOv_na (h1 : a ≠ 66) (h2 : a ≠ 80) (h3 : a ≠ 81) : xOv h a i = yC h a i := by
  unfold xOv
  rw [if_neg h2, if_neg h3, if_neg h1]
theorem yOv_na (h1 : a ≠ 66) (h2 : a ≠ 80) (h3 : a ≠ 81) : yOv h a i = yM h a i := by
  unfold yOv
  rw [if_neg h2, if_neg h3, if_neg h1]
theorem yGf.ox (F : yGf (yC h)) : yGf (xOv h) := F.cg (fun _ _ h1 h2 h3 => xOv_na h1 h2 h3)
theorem yGf.oy (F : yGf (yM h)) : yGf (yOv h) := F.cg (fun _ _ h1 h2 h3 => yOv_na h1 h2 h3)
theorem xOv_w31 (Z1 : yC h' = T) (Z0 : yC h = T) (w : h' = wr h 31 i x) (s : sh h 31 = some (20, 20)) (hi : i < 20) : xOv h' = zs (xOv h) 80 i x := by
  funext a k
  rw [zs_if]
  unfold xOv
  rw [Z1, Z0, fwi w s hi, show fld h' 32 k = fld h 32 k from fld_oth w (Or.inl (by decide)), show fld h' 33 k = fld h 33 k from fld_oth w (Or.inl (by decide))]
  by_cases q : a = 80
  · subst q
    by_cases z : k = i
    · rw [if_pos z, if_pos (show (80 : Nat) = 80 ∧ k = i from ⟨rfl, z⟩)]
      rfl
    · rw [if_neg z, if_neg (fun m : (80 : Nat) = 80 ∧ k = i => z m.2)]
  · rw [if_neg (fun m : a = 80 ∧ k = i => q m.1), if_neg q, if_neg q]
theorem xOv_w32 (Z1 : yC h' = T) (Z0 : yC h = T) (w : h' = wr h 32 i x) (s : sh h 32 = some (20, 20)) (hi : i < 20) : xOv h' = zs (xOv h) 81 i x := by
  funext a k
  rw [zs_if]
  unfold xOv
  rw [Z1, Z0, fwi w s hi, show fld h' 31 k = fld h 31 k from fld_oth w (Or.inl (by decide)), show fld h' 33 k = fld h 33 k from fld_oth w (Or.inl (by decide))]
  by_cases q : a = 81
  · subst q
    by_cases z : k = i
    · rw [if_pos z, if_pos (show (81 : Nat) = 81 ∧ k = i from ⟨rfl, z⟩)]
      rfl
    · rw [if_neg z, if_neg (fun m : (81 : Nat) = 81 ∧ k = i => z m.2)]
  · rw [if_neg (fun m : a = 81 ∧ k = i => q m.1), if_neg q, if_neg q]
theorem xOv_w33 (Z1 : yC h' = T) (Z0 : yC h = T) (w : h' = wr h 33 i x) (s : sh h 33 = some (20, 8)) (hi : i < 8) : xOv h' = zs (xOv h) 66 i x := by
  funext a k
  rw [zs_if]
  unfold xOv
  rw [Z1, Z0, fwi w s hi, show fld h' 31 k = fld h 31 k from fld_oth w (Or.inl (by decide)), show fld h' 32 k = fld h 32 k from fld_oth w (Or.inl (by decide))]
  by_cases q : a = 66
  · subst q
    by_cases z : k = i
    · rw [if_pos z, if_pos (show (66 : Nat) = 66 ∧ k = i from ⟨rfl, z⟩)]
      rfl
    · rw [if_neg z, if_neg (fun m : (66 : Nat) = 66 ∧ k = i => z m.2)]
  · rw [if_neg (fun m : a = 66 ∧ k = i => q m.1), if_neg q, if_neg q]
theorem yOv_w178 (Z1 : yM h' = T) (Z0 : yM h = T) (w : h' = wr h 178 i x) (s : sh h 178 = some (20, 20)) (hi : i < 20) : yOv h' = zs (yOv h) 80 i x := by
  funext a k
  rw [zs_if]
  unfold yOv
  rw [Z1, Z0, fwi w s hi, show fld h' 179 k = fld h 179 k from fld_oth w (Or.inl (by decide)), show fld h' 177 k = fld h 177 k from fld_oth w (Or.inl (by decide))]
  by_cases q : a = 80
  · subst q
    by_cases z : k = i
    · rw [if_pos z, if_pos (show (80 : Nat) = 80 ∧ k = i from ⟨rfl, z⟩)]
      rfl
    · rw [if_neg z, if_neg (fun m : (80 : Nat) = 80 ∧ k = i => z m.2)]
  · rw [if_neg (fun m : a = 80 ∧ k = i => q m.1), if_neg q, if_neg q]
theorem yOv_w179 (Z1 : yM h' = T) (Z0 : yM h = T) (w : h' = wr h 179 i x) (s : sh h 179 = some (20, 20)) (hi : i < 20) : yOv h' = zs (yOv h) 81 i x := by
  funext a k
  rw [zs_if]
  unfold yOv
  rw [Z1, Z0, fwi w s hi, show fld h' 178 k = fld h 178 k from fld_oth w (Or.inl (by decide)), show fld h' 177 k = fld h 177 k from fld_oth w (Or.inl (by decide))]
  by_cases q : a = 81
  · subst q
    by_cases z : k = i
    · rw [if_pos z, if_pos (show (81 : Nat) = 81 ∧ k = i from ⟨rfl, z⟩)]
      rfl
    · rw [if_neg z, if_neg (fun m : (81 : Nat) = 81 ∧ k = i => z m.2)]
  · rw [if_neg (fun m : a = 81 ∧ k = i => q m.1), if_neg q, if_neg q]
theorem yOv_w177 (Z1 : yM h' = T) (Z0 : yM h = T) (w : h' = wr h 177 i x) (s : sh h 177 = some (20, 8)) (hi : i < 8) : yOv h' = zs (yOv h) 66 i x := by
  funext a k
  rw [zs_if]
  unfold yOv
  rw [Z1, Z0, fwi w s hi, show fld h' 178 k = fld h 178 k from fld_oth w (Or.inl (by decide)), show fld h' 179 k = fld h 179 k from fld_oth w (Or.inl (by decide))]
  by_cases q : a = 66
  · subst q
    by_cases z : k = i
    · rw [if_pos z, if_pos (show (66 : Nat) = 66 ∧ k = i from ⟨rfl, z⟩)]
      rfl
    · rw [if_neg z, if_neg (fun m : (66 : Nat) = 66 ∧ k = i => z m.2)]
  · rw [if_neg (fun m : a = 66 ∧ k = i => q m.1), if_neg q, if_neg q]
theorem zs_same : zs S a i (S a i) = S := by
  funext b k
  rw [zs_if]
  split
  · rename_i z
    rw [z.1, z.2]
  · rfl
theorem yS1_64 : yS1 S e k 37 64 = S 37 64 + (if 0 < yX S e k then 1 else 0) := by
  unfold yS1
  split
  · exact zs_eq
  · omega
theorem yS1_66 (B : zBs S) (he : e < 4) (hk : (k : Int) < S 37 2) : yS1 S e k 66 v = if v = (S 79 k).toNat then S 66 (S 79 k).toNat - (yX S e k + S 85 k - 1) / S 85 k else S 66 v := by
  have xb := yX_b B he hk
  have kb := B.1 k hk
  by_cases h0 : 0 < yX S e k
  · rw [yS1_p h0, zs_na (by decide), zs_if]
    by_cases z : v = (S 79 k).toNat
    · rw [if_pos ⟨rfl, z⟩, if_pos z]
    · rw [if_neg (fun m => z m.2), if_neg z]
  · have x0 : yX S e k = 0 := by omega
    have c := zceil (x := yX S e k) (c := 0) (a := S 85 k) xb.1 (by omega) (by rw [x0, Int.zero_mul]; exact Int.le_refl _)
    rw [yS1_0 x0]
    split
    · rename_i z
      rw [z]
      omega
    · rfl
/-- what the class has found, of the heaps before t -/
def yBst0 (S : zT) (c t p q r : Int) : Prop := (t = 0 → p = -1 ∧ q = 0 ∧ r = 0) ∧ (0 < t → p = (yBN S c (t - 1).toNat).1 ∧ q = (yBN S c (t - 1).toNat).2 ∧ r = yCst S (yBN S c (t - 1).toNat).1)
theorem yBst0_i : yBst0 S c 0 (-1) 0 0 := ⟨fun _ => ⟨rfl, rfl, rfl⟩, fun z => by omega⟩
theorem yBst0.yes {t p q r s m : Int} (I : yBst0 S c t p q r) (F : yGf S) (ht : 0 ≤ t) (hc : 0 ≤ c) (hm : m = yCst S t) (hs : s = ySpn S t) (h1 : m ≤ c) (h2 : p = -1 ∨ q < s ∨ (s = q ∧ m < r)) (B : zBs S) : yBst0 S c (t + 1) t s m := by
  refine ⟨fun z => by omega, fun _ => ?_⟩
  by_cases z : t = 0
  · subst z
    refine ⟨rfl, hs, ?_⟩
    rw [hm]
    rfl
  · have w := I.2 (by omega)
    have b := yBN_b (c := c) B F (t - 1).toNat
    have q1 : yBN S c (t + 1 - 1).toNat = (t, ySpn S t) := by
      rw [show (t + 1 - 1).toNat = (t - 1).toNat + 1 by omega, yBN_s, show (((t - 1).toNat : Nat) : Int) + 1 = t by omega]
      exact if_pos (by first | omega | exact ⟨by omega, by omega⟩)
    rw [q1]
    exact ⟨rfl, hs, hm⟩
theorem yBst0.no {t p q r s m : Int} (I : yBst0 S c t p q r) (F : yGf S) (ht : 0 ≤ t) (hc : 0 ≤ c) (hm : m = yCst S t) (hs : c < m ∨ s = ySpn S t) (h2 : c < m ∨ (p ≠ -1 ∧ s ≤ q ∧ (s ≠ q ∨ r ≤ m))) : yBst0 S c (t + 1) p q r := by
  refine ⟨fun z => by omega, fun _ => ?_⟩
  by_cases z : t = 0
  · have w := I.1 z
    have c0 := yCst_0 yBt_0 F
    rw [z, c0] at hm
    omega
  · have w := I.2 (by omega)
    have q1 : yBN S c (t + 1 - 1).toNat = yBN S c (t - 1).toNat := by
      rw [show (t + 1 - 1).toNat = (t - 1).toNat + 1 by omega, yBN_s, show (((t - 1).toNat : Nat) : Int) + 1 = t by omega]
      exact if_neg (by omega)
    rw [q1]
    exact w
/-- an equation that the numbers' tactic does not see -/
def zEq (x y : Int) : Prop := x = y
section YBN
variable {t p m s r f : Int}
theorem yBN_t (ht : 1 ≤ t) : yBN S c (t + 1 - 1).toNat = if yCst S t ≤ c ∧ ((yBN S c (t - 1).toNat).2 < ySpn S t ∨ (ySpn S t = (yBN S c (t - 1).toNat).2 ∧ yCst S t < yCst S (yBN S c (t - 1).toNat).1)) then (t, ySpn S t) else yBN S c (t - 1).toNat := by
  rw [show (t + 1 - 1).toNat = (t - 1).toNat + 1 by omega, yBN_s, show (((t - 1).toNat : Nat) : Int) + 1 = t by omega]
theorem yBN_y1 (e1 : yBN S c (t - 1).toNat = (p, m)) (ht : 1 ≤ t) (hf : zEq f (yCst S t)) (hs : zEq s (ySpn S t)) (h1 : f ≤ c) (h2 : m < s) : yBN S c (t + 1 - 1).toNat = (t, s) := by
  rw [yBN_t ht, e1, ← (show s = ySpn S t from hs), ← (show f = yCst S t from hf)]
  exact if_pos ⟨h1, Or.inl h2⟩
theorem yBN_y2 (e1 : yBN S c (t - 1).toNat = (p, m)) (ht : 1 ≤ t) (hf : zEq f (yCst S t)) (hs : zEq s (ySpn S t)) (hr : zEq r (yCst S p)) (h1 : f ≤ c) (h2 : s = m) (h3 : f < r) : yBN S c (t + 1 - 1).toNat = (t, s) := by
  rw [yBN_t ht, e1, ← (show s = ySpn S t from hs), ← (show f = yCst S t from hf)]
  exact if_pos ⟨h1, Or.inr ⟨h2, by rw [← (show r = yCst S p from hr)]; exact h3⟩⟩
theorem yBN_n0 (e1 : yBN S c (t - 1).toNat = (p, m)) (ht : 1 ≤ t) (hf : zEq f (yCst S t)) (h1 : c < f) : yBN S c (t + 1 - 1).toNat = (p, m) := by
  rw [yBN_t ht, e1, ← (show f = yCst S t from hf)]
  exact if_neg (fun z => by have := z.1; omega)
theorem yBN_n1 (e1 : yBN S c (t - 1).toNat = (p, m)) (ht : 1 ≤ t) (hs : zEq s (ySpn S t)) (h2 : s < m) : yBN S c (t + 1 - 1).toNat = (p, m) := by
  rw [yBN_t ht, e1, ← (show s = ySpn S t from hs)]
  exact if_neg (fun z => by
    have w : m < s ∨ (s = m ∧ _) := z.2
    rcases w with w | w
    · omega
    · have := w.1
      omega)
theorem yBN_n2 (e1 : yBN S c (t - 1).toNat = (p, m)) (ht : 1 ≤ t) (hf : zEq f (yCst S t)) (hs : zEq s (ySpn S t)) (hr : zEq r (yCst S p)) (h2 : s = m) (h3 : r ≤ f) : yBN S c (t + 1 - 1).toNat = (p, m) := by
  rw [yBN_t ht, e1, ← (show s = ySpn S t from hs), ← (show f = yCst S t from hf)]
  exact if_neg (fun z => by
    have w : m < s ∨ (s = m ∧ f < yCst S p) := z.2
    rw [← (show r = yCst S p from hr)] at w
    omega)
theorem yBst_e (h1 : zEq t (i_shl 1 (S 37 96))) (h2 : 1 ≤ t) (e1 : yBN S c (t - 1).toNat = (p, m)) : yBst S c = (p, m) := by
  have e2 : ∀ s : Int, t = s → s.toNat - 1 = (t - 1).toNat := fun s hs => by omega
  unfold yBst
  rw [e2 _ h1]
  exact e1
end YBN
theorem yBst0.end {t p q r : Int} (I : yBst0 S c t p q r) (h1 : t = i_shl 1 (S 37 96)) (h2 : 0 < t) : p = (yBst S c).1 ∧ q = (yBst S c).2 ∧ r = yCst S (yBst S c).1 := by
  have w := I.2 h2
  have e1 : ∀ s : Int, t = s → s.toNat - 1 = (t - 1).toNat := fun s hs => by omega
  unfold yBst
  rw [e1 _ h1]
  exact w
theorem xOv_ag (Z : yC g = yC h) (p : ∀ k : Nat, (k : Int) < yC h 37 2 → fld g 31 k = yC h 80 k ∧ fld g 32 k = yC h 81 k) (q : ∀ v : Nat, (v : Int) < yC h 37 1 → fld g 33 v = yC h 66 v) : zAg (xOv g) (yC h) := by
  have t : ∀ a i, a ≠ 66 → a ≠ 80 → a ≠ 81 → xOv g a i = yC h a i := fun a i h1 h2 h3 => (xOv_na h1 h2 h3).trans (by rw [Z])
  refine ⟨⟨t _ _ (by decide) (by decide) (by decide), t _ _ (by decide) (by decide) (by decide), t _ _ (by decide) (by decide) (by decide), t _ _ (by decide) (by decide) (by decide)⟩, fun k hk => ?_, fun v hv => ?_⟩
  · rw [t _ _ (by decide) (by decide) (by decide)] at hk
    exact ⟨t _ _ (by decide) (by decide) (by decide), (p k hk).1, (p k hk).2, t _ _ (by decide) (by decide) (by decide)⟩
  · rw [t _ _ (by decide) (by decide) (by decide)] at hv
    exact ⟨q v hv, fun s _ => t _ _ (by decide) (by decide) (by decide)⟩
theorem yOv_ag (Z : yM g = yM h) (p : ∀ k : Nat, (k : Int) < yM h 37 2 → fld g 178 k = yM h 80 k ∧ fld g 179 k = yM h 81 k) (q : ∀ v : Nat, (v : Int) < yM h 37 1 → fld g 177 v = yM h 66 v) : zAg (yOv g) (yM h) := by
  have t : ∀ a i, a ≠ 66 → a ≠ 80 → a ≠ 81 → yOv g a i = yM h a i := fun a i h1 h2 h3 => (yOv_na h1 h2 h3).trans (by rw [Z])
  refine ⟨⟨t _ _ (by decide) (by decide) (by decide), t _ _ (by decide) (by decide) (by decide), t _ _ (by decide) (by decide) (by decide), t _ _ (by decide) (by decide) (by decide)⟩, fun k hk => ?_, fun v hv => ?_⟩
  · rw [t _ _ (by decide) (by decide) (by decide)] at hk
    exact ⟨t _ _ (by decide) (by decide) (by decide), (p k hk).1, (p k hk).2, t _ _ (by decide) (by decide) (by decide)⟩
  · rw [t _ _ (by decide) (by decide) (by decide)] at hv
    exact ⟨q v hv, fun s _ => t _ _ (by decide) (by decide) (by decide)⟩
theorem zOv_y (b1 : fld h 37 1 ≤ 8) (b2 : fld h 37 2 ≤ 20) : zAg (zOv h) (yOv h) := by
  refine ⟨⟨rfl, rfl, rfl, rfl⟩, fun k hk => ?_, fun v hv => ?_⟩
  · have hk : (k : Int) < fld h 37 2 := hk
    exact ⟨(yM_p (a := 79) (n := 20) rfl (by omega)).symm, rfl, rfl, (yM_p (a := 85) (n := 20) rfl (by omega)).symm⟩
  · have hv : (v : Int) < fld h 37 1 := hv
    refine ⟨rfl, fun s hs => ?_⟩
    show zSt h 39 (4 * v + s) = yM h 39 (4 * v + s)
    rw [zSt_39 hs, yM_2 (a := 39) (w := 4) (v := v) (j := s) rfl hs (by show _ < 32; omega)]
    rfl
end YBST
end
section
/-! contracts of the class -/
-- WheelLand$Gifts.priceOf(I)I
theorem x216_z {sc : List Int} (h : Hp) (C : CI h) (a : Int) (q_a : -2147483648 ≤ a ∧ a ≤ 2147483647) (J : yR h) (GF : yGf (yC h)) : zwC sc 1 216 [(2, 27), (0, a)] h (zwRt 0 (fun x g => h = g ∧ (-2147483648 ≤ x ∧ x ≤ 2147483647) ∧ (x = yCst (yC h) a))) := by
  refine zwC_of (D := 0) 4 (by decide +kernel) rfl (ls := [(2, 27), (0, a), (9, 0), (9, 0)]) rfl ?_
  have u96 : yC h 37 96 = fld h 27 0 := rfl
  have F96 := GF.1
  refine zwW_p [(0, 0, 0), (2, 2, 0), (0, 0, 0), (2, 3, 0)] (q := 4) (ls' := [(2, 27), (0, a), (0, 0), (0, 0)]) (st' := []) (by decide +kernel) rfl ?_
  have L1 : ∀ (n0 : Nat) (nL1 kL1 : Int), n0 = ((1000 - kL1)).toNat → (nL1 = yCo (yC h) a (kL1).toNat) → (kL1 ≤ yC h 37 96) → (0 ≤ nL1 ∧ nL1 ≤ 99 * kL1) → (0 ≤ nL1 ∧ nL1 ≤ 800) → (0 ≤ kL1 ∧ kL1 ≤ 8) → zwW sc (0) 216 4 [(2, 27), (0, a), (0, nL1), (0, kL1)] [] h (zwRt 0 (fun x g => h = g ∧ (-2147483648 ≤ x ∧ x ≤ 2147483647) ∧ (x = yCst (yC h) a))) := by
    intro n0
    induction n0 using Nat.strongRecOn with
    | ind n0 IHL1 =>
      intro nL1 kL1 hnL1 iL1_0 iL1_1 iL1_2 iL1_3 iL1_4
      refine zwW_p [(1, 3, 0), (1, 0, 2)] (q := 6) (ls' := [(2, 27), (0, a), (0, nL1), (0, kL1)]) (st' := [(2, 27), (0, kL1)]) (by decide +kernel) rfl ?_
      refine zwW_gs C.1 (kd := 2) (bn := 0) (n := 10) (t := 0) (lo := 0) (hi := 8) (nx := 9) (by decide +kernel) ?_
      intro v2 ev2 lv2 uv2
      have sv2 : v2 = (yC h) 37 96 := Eq.trans ev2 (Eq.trans (Eq.symm (yC_s (h := h) (i := 96) rfl)) (Eq.trans (congrFun (congrFun (rfl : yC h = yC h) 37) 96) rfl))
      refine zwic_ge (q := 41) (nx := 12) (by decide +kernel) (fun c3 => ?_) (fun c3 => ?_)
      · refine zwW_p [(1, 2, 0)] (q := 42) (ls' := [(2, 27), (0, a), (0, nL1), (0, kL1)]) (st' := [(0, nL1)]) (by decide +kernel) rfl ?_
        refine zwW_ret (nx := 43) (a := 0) (b := 0) (by decide +kernel) rfl (Or.inl rfl) ?_
        exact ⟨rfl, by omega, by unfold yCst; rw [show (yC h 37 96).toNat = (kL1).toNat by omega]; exact iL1_0⟩
      · refine zwW_p [(1, 3, 0), (0, 8, 0)] (q := 15) (ls' := [(2, 27), (0, a), (0, nL1), (0, kL1)]) (st' := [(0, 8), (0, kL1)]) (by decide +kernel) rfl ?_
        refine zwic_ge (q := 41) (nx := 18) (by decide +kernel) (fun c4 => ?_) (fun c4 => ?_)
        · exfalso; omega
        · refine zwW_p [(1, 1, 0), (1, 3, 0)] (q := 20) (ls' := [(2, 27), (0, a), (0, nL1), (0, kL1)]) (st' := [(0, kL1), (0, a)]) (by decide +kernel) rfl ?_
          refine zwW_ib (a := 9) (nx := 21) (by decide +kernel) rfl ?_
          refine zwW_p [(0, 1, 0)] (q := 22) (ls' := [(2, 27), (0, a), (0, nL1), (0, kL1)]) (st' := [(0, 1), (0, (i_shr a kL1))]) (by decide +kernel) rfl ?_
          refine zwW_ib (a := 5) (nx := 23) (by decide +kernel) rfl ?_
          refine zwif_eq (q := 35) (nx := 26) (by decide +kernel) (fun c5 => ?_) (fun c5 => ?_)
          · have N35 : nL1 = yCo (yC h) a ((kL1).toNat + 1) := by
              rw [yCo_s, show (((kL1).toNat : Nat) : Int) = kL1 by omega]
              first
              | (rw [if_pos (by unfold yBt; omega)]; omega)
              | (rw [if_neg (by unfold yBt; omega), ← sa]; omega)
            have B35 := yCo_b (b := a) GF ((kL1).toNat + 1) (by omega)
            refine zwW_inc (i := 3) (c := 1) (x := kL1) (nx := 38) (by decide +kernel) rfl (by first | omega | exact ⟨by omega, by omega⟩) (ls' := [(2, 27), (0, a), (0, nL1), (0, (kL1 + 1))]) rfl ?_
            refine zwW_p [(24, 4, 0)] (q := 4) (ls' := [(2, 27), (0, a), (0, nL1), (0, (kL1 + 1))]) (st' := []) (by decide +kernel) rfl ?_
            exact IHL1 ((1000 - (kL1 + 1))).toNat (by omega) nL1 (kL1 + 1) rfl (by rw [show (kL1 + 1).toNat = (kL1).toNat + 1 by omega]; exact N35) (by omega) (by omega) (by omega) (by omega)
          · refine zwW_p [(1, 2, 0), (1, 0, 2)] (q := 28) (ls' := [(2, 27), (0, a), (0, nL1), (0, kL1)]) (st' := [(2, 27), (0, nL1)]) (by decide +kernel) rfl ?_
            refine zwW_gc C.1 (kd := 2) (bn := 4) (n := 10) (c := 28) (nx := 31) (by decide +kernel) ?_
            refine zwW_p [(1, 3, 0)] (q := 32) (ls' := [(2, 27), (0, a), (0, nL1), (0, kL1)]) (st' := [(0, kL1), (2, 28), (0, nL1)]) (by decide +kernel) rfl ?_
            have ib1 : 0 ≤ kL1 ∧ kL1 < ((8 : Nat) : Int) := (by first | omega | exact ⟨by omega, by omega⟩)
            refine zwW_al C.1 (a1 := 28) (a2 := 28) (kd := 20) (n := 8) (t := 0) (lo := -2147483648) (hi := 2147483647) (nx := 33) (by decide +kernel) (by first | decide | exact ⟨by decide, by decide⟩) ib1 ?_
            intro v6 ev6 lv6 uv6
            have sv6 : v6 = (yC h) 363 kL1.toNat := Eq.trans ev6 (Eq.trans (Eq.symm (yC_x (h := h) (a := 363) (r := 28) (n := 8) (i := kL1.toNat) rfl (by omega))) (Eq.trans (congrFun (congrFun (rfl : yC h = yC h) 363) kL1.toNat) rfl))
            have P33 := (GF.2 (kL1).toNat (by omega)).2.2
            refine zwW_add (nx := 34) (by decide +kernel) (by first | omega | exact ⟨by omega, by omega⟩) ?_
            refine zwW_p [(2, 2, 0)] (q := 35) (ls' := [(2, 27), (0, a), (0, (nL1 + v6)), (0, kL1)]) (st' := []) (by decide +kernel) rfl ?_
            have N35 : (nL1 + v6) = yCo (yC h) a ((kL1).toNat + 1) := by
              rw [yCo_s, show (((kL1).toNat : Nat) : Int) = kL1 by omega]
              first
              | (rw [if_pos (by unfold yBt; omega)]; omega)
              | (rw [if_neg (by unfold yBt; omega), ← sv6]; omega)
            have B35 := yCo_b (b := a) GF ((kL1).toNat + 1) (by omega)
            refine zwW_inc (i := 3) (c := 1) (x := kL1) (nx := 38) (by decide +kernel) rfl (by first | omega | exact ⟨by omega, by omega⟩) (ls' := [(2, 27), (0, a), (0, (nL1 + v6)), (0, (kL1 + 1))]) rfl ?_
            refine zwW_p [(24, 4, 0)] (q := 4) (ls' := [(2, 27), (0, a), (0, (nL1 + v6)), (0, (kL1 + 1))]) (st' := []) (by decide +kernel) rfl ?_
            exact IHL1 ((1000 - (kL1 + 1))).toNat (by omega) (nL1 + v6) (kL1 + 1) rfl (by rw [show (kL1 + 1).toNat = (kL1).toNat + 1 by omega]; exact N35) (by omega) (by omega) (by omega) (by omega)
  exact L1 _ 0 0 rfl (rfl) (by omega) (by omega) (by omega) (by omega)
def msx254_z : Zms := [(31, 31, 0, 20), (32, 32, 0, 20), (33, 33, 0, 8)]
-- WheelLand$Gifts.giveOne(III)V
theorem x254_z {sc : List Int} (h : Hp) (C : CI h) (a b c : Int) (q_a : -2147483648 ≤ a ∧ a ≤ 2147483647) (q_b : -2147483648 ≤ b ∧ b ≤ 2147483647) (q_c : -2147483648 ≤ c ∧ c ≤ 2147483647) (J : yR h) (B : zBs (xOv h)) (pa : 0 ≤ a ∧ a < yC h 37 2) (pb : 0 ≤ b ∧ b < yC h 37 1) : zwC sc 2 254 [(2, 27), (0, a), (0, b), (0, c)] h (zwRv (fun g => CI g ∧ zXR msx254_z (0) (0) h g ∧ (xOv g = yGv (xOv h) a b c) ∧ (yR g))) := by
  refine zwC_of (D := 1) 4 (by decide +kernel) rfl (ls := [(2, 27), (0, a), (0, b), (0, c)]) rfl ?_
  have X : zXR msx254_z 0 0 h h := zXR.rf _ _
  have u1 : yC h 37 1 = fld h 2 2 := rfl
  have u2 : yC h 37 2 = fld h 3 2 := rfl
  have b33 := zLb_3 C
  have b22 := zLb_2 C
  have KA := B.1 a.toNat (by show _ < yC h 37 2; omega)
  have KB := (B.2.1 b.toNat (by show _ < yC h 37 1; omega)).1
  refine zwW_p [(1, 1, 0), (0, 0, 0), (0, 19, 0)] (q := 4) (ls' := [(2, 27), (0, a), (0, b), (0, c)]) (st' := [(0, 19), (0, 0), (0, a)]) (by decide +kernel) rfl ?_
  refine zwW_cs (k' := 98) (n := 3) (nx := 7) (as := [(0, a), (0, 0), (0, 19)]) (st' := []) (by decide +kernel) rfl (x98 h C a 0 19 (by omega) (by omega) (by omega)) rfl ?_
  rintro x _ ⟨rfl, ⟨rfl, c1⟩ | ⟨rfl, c1⟩⟩
  · refine zwif_ne (q := 20) (nx := 10) (by decide +kernel) (fun c2 => ?_) (fun c2 => ?_)
    · refine zwW_retv (nx := 21) (a := 0) (b := 0) (by decide +kernel) ?_
      exact ⟨C, X.le (by decide) (by decide), by first | (exfalso; omega) | (unfold yGv; first | (rw [if_pos (by omega), ← V254]; exact xOv_w31 (rfl : yC h = yC h) rfl E254 (C.1.s (a1 := 31) (a2 := 31) (k := 20) (n := 20) (by decide +kernel) (by decide) (by decide)) (by omega)) | (rw [if_neg (by omega), if_pos (by omega), ← V254]; exact xOv_w32 (rfl : yC h = yC h) rfl E254 (C.1.s (a1 := 32) (a2 := 32) (k := 20) (n := 20) (by decide +kernel) (by decide) (by decide)) (by omega)) | (rw [if_neg (by omega), if_neg (by omega), ← V254]; exact xOv_w33 (rfl : yC h = yC h) rfl E254 (C.1.s (a1 := 33) (a2 := 33) (k := 20) (n := 8) (by decide +kernel) (by decide) (by decide)) (by omega))), by exact J⟩
    · exfalso; omega
  · refine zwif_ne (q := 20) (nx := 10) (by decide +kernel) (fun c3 => ?_) (fun c3 => ?_)
    · exfalso; omega
    · refine zwW_p [(1, 2, 0), (0, 0, 0), (0, 7, 0)] (q := 14) (ls' := [(2, 27), (0, a), (0, b), (0, c)]) (st' := [(0, 7), (0, 0), (0, b)]) (by decide +kernel) rfl ?_
      refine zwW_cs (k' := 98) (n := 3) (nx := 17) (as := [(0, b), (0, 0), (0, 7)]) (st' := []) (by decide +kernel) rfl (x98 h C b 0 7 (by omega) (by omega) (by omega)) rfl ?_
      rintro x _ ⟨rfl, ⟨rfl, c4⟩ | ⟨rfl, c4⟩⟩
      · refine zwif_eq (q := 21) (nx := 20) (by decide +kernel) (fun c5 => ?_) (fun c5 => ?_)
        · exfalso; omega
        · refine zwW_retv (nx := 21) (a := 0) (b := 0) (by decide +kernel) ?_
          exact ⟨C, X.le (by decide) (by decide), by first | (exfalso; omega) | (unfold yGv; first | (rw [if_pos (by omega), ← V254]; exact xOv_w31 (rfl : yC h = yC h) rfl E254 (C.1.s (a1 := 31) (a2 := 31) (k := 20) (n := 20) (by decide +kernel) (by decide) (by decide)) (by omega)) | (rw [if_neg (by omega), if_pos (by omega), ← V254]; exact xOv_w32 (rfl : yC h = yC h) rfl E254 (C.1.s (a1 := 32) (a2 := 32) (k := 20) (n := 20) (by decide +kernel) (by decide) (by decide)) (by omega)) | (rw [if_neg (by omega), if_neg (by omega), ← V254]; exact xOv_w33 (rfl : yC h = yC h) rfl E254 (C.1.s (a1 := 33) (a2 := 33) (k := 20) (n := 8) (by decide +kernel) (by decide) (by decide)) (by omega))), by exact J⟩
      · refine zwif_eq (q := 21) (nx := 20) (by decide +kernel) (fun c6 => ?_) (fun c6 => ?_)
        · refine zwW_p [(1, 3, 0)] (q := 22) (ls' := [(2, 27), (0, a), (0, b), (0, c)]) (st' := [(0, c)]) (by decide +kernel) rfl ?_
          refine zwif_ne (q := 46) (nx := 25) (by decide +kernel) (fun c7 => ?_) (fun c7 => ?_)
          · refine zwW_p [(1, 3, 0), (0, 1, 0)] (q := 48) (ls' := [(2, 27), (0, a), (0, b), (0, c)]) (st' := [(0, 1), (0, c)]) (by decide +kernel) rfl ?_
            refine zwic_ne (q := 73) (nx := 51) (by decide +kernel) (fun c8 => ?_) (fun c8 => ?_)
            · refine zwW_p [(1, 0, 2)] (q := 74) (ls' := [(2, 27), (0, a), (0, b), (0, c)]) (st' := [(2, 27)]) (by decide +kernel) rfl ?_
              refine zwW_gc C.1 (kd := 2) (bn := 9) (n := 10) (c := 33) (nx := 77) (by decide +kernel) ?_
              refine zwW_p [(1, 2, 0), (1, 0, 2)] (q := 79) (ls' := [(2, 27), (0, a), (0, b), (0, c)]) (st' := [(2, 27), (0, b), (2, 33)]) (by decide +kernel) rfl ?_
              refine zwW_gc C.1 (kd := 2) (bn := 9) (n := 10) (c := 33) (nx := 82) (by decide +kernel) ?_
              refine zwW_p [(1, 2, 0)] (q := 83) (ls' := [(2, 27), (0, a), (0, b), (0, c)]) (st' := [(0, b), (2, 33), (0, b), (2, 33)]) (by decide +kernel) rfl ?_
              have ib1 : 0 ≤ b ∧ b < ((8 : Nat) : Int) := (by first | omega | exact ⟨by omega, by omega⟩)
              refine zwW_al C.1 (a1 := 33) (a2 := 33) (kd := 20) (n := 8) (t := 0) (lo := -2147483648) (hi := 2147483647) (nx := 84) (by decide +kernel) (by first | decide | exact ⟨by decide, by decide⟩) ib1 ?_
              intro v9 ev9 lv9 uv9
              have P83 : v9 = xOv h 66 b.toNat := ev9
              refine zwW_p [(0, 5, 0)] (q := 85) (ls' := [(2, 27), (0, a), (0, b), (0, c)]) (st' := [(0, 5), (0, v9), (0, b), (2, 33)]) (by decide +kernel) rfl ?_
              refine zwW_add (nx := 86) (by decide +kernel) (by first | omega | exact ⟨by omega, by omega⟩) ?_
              refine zwW_p [(0, 9999, 0)] (q := 89) (ls' := [(2, 27), (0, a), (0, b), (0, c)]) (st' := [(0, 9999), (0, (v9 + 5)), (0, b), (2, 33)]) (by decide +kernel) rfl ?_
              refine zwW_min (nx := 92) (by decide +kernel) rfl ?_
              intro v10 ev10
              refine zwW_as C.1 (a1 := 33) (a2 := 33) (n := 8) (lo := -2147483648) (hi := 2147483647) (nx := 93) (by decide +kernel) (by first | decide | exact ⟨by decide, by decide⟩) ib1 (by first | omega | exact ⟨by omega, by omega⟩) ?_
              intro h11 eh11 Ih11
              have Ch11 : CI h11 := C.wc eh11 Ih11 (by decide) (by decide)
              have Qh11 : zXR [(33, 33, 0, 8)] 0 0 h h11 := zXR.wc eh11 rfl ⟨by decide, by decide, Or.inl (by decide)⟩ (by first | omega | exact ⟨by omega, by omega⟩)
              have E254 := eh11
              have V254 : v10 = min (xOv h 66 b.toNat + 5) 9999 := by omega
              have Xh11 : zXR msx254_z (0) (0) h h11 := X.tr (c2 := 0) (s2 := 0) Qh11 (by decide +kernel) (by decide) (by decide)
              have Zh11 : yC h11 = (yC h) := (yC_fr C Qh11 (by decide +kernel) (C.1.b (a1 := 37) (a2 := 37) (j1 := 86) (j2 := 87) (lo := 0) (hi := 6) (by decide +kernel) (r := 37) (j := 86) (by decide) (by decide) (by decide) (by decide)).2).trans (rfl : yC h = yC h)
              have Jh11 : yR h11 := J.fr C Qh11 (by decide +kernel)
              refine zwW_retv (nx := 94) (a := 0) (b := 0) (by decide +kernel) ?_
              exact ⟨Ch11, Xh11.le (by decide) (by decide), by first | (exfalso; omega) | (unfold yGv; first | (rw [if_pos (by omega), ← V254]; exact xOv_w31 Zh11 rfl E254 (C.1.s (a1 := 31) (a2 := 31) (k := 20) (n := 20) (by decide +kernel) (by decide) (by decide)) (by omega)) | (rw [if_neg (by omega), if_pos (by omega), ← V254]; exact xOv_w32 Zh11 rfl E254 (C.1.s (a1 := 32) (a2 := 32) (k := 20) (n := 20) (by decide +kernel) (by decide) (by decide)) (by omega)) | (rw [if_neg (by omega), if_neg (by omega), ← V254]; exact xOv_w33 Zh11 rfl E254 (C.1.s (a1 := 33) (a2 := 33) (k := 20) (n := 8) (by decide +kernel) (by decide) (by decide)) (by omega))), by exact Jh11⟩
            · refine zwW_p [(1, 0, 2)] (q := 52) (ls' := [(2, 27), (0, a), (0, b), (0, c)]) (st' := [(2, 27)]) (by decide +kernel) rfl ?_
              refine zwW_gc C.1 (kd := 2) (bn := 8) (n := 10) (c := 32) (nx := 55) (by decide +kernel) ?_
              refine zwW_p [(1, 1, 0), (1, 0, 2)] (q := 57) (ls' := [(2, 27), (0, a), (0, b), (0, c)]) (st' := [(2, 27), (0, a), (2, 32)]) (by decide +kernel) rfl ?_
              refine zwW_gc C.1 (kd := 2) (bn := 8) (n := 10) (c := 32) (nx := 60) (by decide +kernel) ?_
              refine zwW_p [(1, 1, 0)] (q := 61) (ls' := [(2, 27), (0, a), (0, b), (0, c)]) (st' := [(0, a), (2, 32), (0, a), (2, 32)]) (by decide +kernel) rfl ?_
              have ib2 : 0 ≤ a ∧ a < ((20 : Nat) : Int) := (by first | omega | exact ⟨by omega, by omega⟩)
              refine zwW_al C.1 (a1 := 32) (a2 := 32) (kd := 20) (n := 20) (t := 0) (lo := -2147483648) (hi := 2147483647) (nx := 62) (by decide +kernel) (by first | decide | exact ⟨by decide, by decide⟩) ib2 ?_
              intro v12 ev12 lv12 uv12
              have P61 : v12 = xOv h 81 a.toNat := ev12
              refine zwW_p [(0, 1, 0)] (q := 63) (ls' := [(2, 27), (0, a), (0, b), (0, c)]) (st' := [(0, 1), (0, v12), (0, a), (2, 32)]) (by decide +kernel) rfl ?_
              refine zwW_add (nx := 64) (by decide +kernel) (by first | omega | exact ⟨by omega, by omega⟩) ?_
              refine zwW_p [(0, 9, 0)] (q := 66) (ls' := [(2, 27), (0, a), (0, b), (0, c)]) (st' := [(0, 9), (0, (v12 + 1)), (0, a), (2, 32)]) (by decide +kernel) rfl ?_
              refine zwW_min (nx := 69) (by decide +kernel) rfl ?_
              intro v13 ev13
              refine zwW_as C.1 (a1 := 32) (a2 := 32) (n := 20) (lo := -2147483648) (hi := 2147483647) (nx := 70) (by decide +kernel) (by first | decide | exact ⟨by decide, by decide⟩) ib2 (by first | omega | exact ⟨by omega, by omega⟩) ?_
              intro h14 eh14 Ih14
              have Ch14 : CI h14 := C.wc eh14 Ih14 (by decide) (by decide)
              have Qh14 : zXR [(32, 32, 0, 20)] 0 0 h h14 := zXR.wc eh14 rfl ⟨by decide, by decide, Or.inl (by decide)⟩ (by first | omega | exact ⟨by omega, by omega⟩)
              have E254 := eh14
              have V254 : v13 = min (xOv h 81 a.toNat + 1) 9 := by omega
              have Xh14 : zXR msx254_z (0) (0) h h14 := X.tr (c2 := 0) (s2 := 0) Qh14 (by decide +kernel) (by decide) (by decide)
              have Zh14 : yC h14 = (yC h) := (yC_fr C Qh14 (by decide +kernel) (C.1.b (a1 := 37) (a2 := 37) (j1 := 86) (j2 := 87) (lo := 0) (hi := 6) (by decide +kernel) (r := 37) (j := 86) (by decide) (by decide) (by decide) (by decide)).2).trans (rfl : yC h = yC h)
              have Jh14 : yR h14 := J.fr C Qh14 (by decide +kernel)
              refine zwW_p [(24, 93, 0)] (q := 93) (ls' := [(2, 27), (0, a), (0, b), (0, c)]) (st' := []) (by decide +kernel) rfl ?_
              refine zwW_retv (nx := 94) (a := 0) (b := 0) (by decide +kernel) ?_
              exact ⟨Ch14, Xh14.le (by decide) (by decide), by first | (exfalso; omega) | (unfold yGv; first | (rw [if_pos (by omega), ← V254]; exact xOv_w31 Zh14 rfl E254 (C.1.s (a1 := 31) (a2 := 31) (k := 20) (n := 20) (by decide +kernel) (by decide) (by decide)) (by omega)) | (rw [if_neg (by omega), if_pos (by omega), ← V254]; exact xOv_w32 Zh14 rfl E254 (C.1.s (a1 := 32) (a2 := 32) (k := 20) (n := 20) (by decide +kernel) (by decide) (by decide)) (by omega)) | (rw [if_neg (by omega), if_neg (by omega), ← V254]; exact xOv_w33 Zh14 rfl E254 (C.1.s (a1 := 33) (a2 := 33) (k := 20) (n := 8) (by decide +kernel) (by decide) (by decide)) (by omega))), by exact Jh14⟩
          · refine zwW_p [(1, 0, 2)] (q := 26) (ls' := [(2, 27), (0, a), (0, b), (0, c)]) (st' := [(2, 27)]) (by decide +kernel) rfl ?_
            refine zwW_gc C.1 (kd := 2) (bn := 7) (n := 10) (c := 31) (nx := 29) (by decide +kernel) ?_
            refine zwW_p [(1, 1, 0), (1, 0, 2)] (q := 31) (ls' := [(2, 27), (0, a), (0, b), (0, c)]) (st' := [(2, 27), (0, a), (2, 31)]) (by decide +kernel) rfl ?_
            refine zwW_gc C.1 (kd := 2) (bn := 7) (n := 10) (c := 31) (nx := 34) (by decide +kernel) ?_
            refine zwW_p [(1, 1, 0)] (q := 35) (ls' := [(2, 27), (0, a), (0, b), (0, c)]) (st' := [(0, a), (2, 31), (0, a), (2, 31)]) (by decide +kernel) rfl ?_
            have ib3 : 0 ≤ a ∧ a < ((20 : Nat) : Int) := (by first | omega | exact ⟨by omega, by omega⟩)
            refine zwW_al C.1 (a1 := 31) (a2 := 31) (kd := 20) (n := 20) (t := 0) (lo := -2147483648) (hi := 2147483647) (nx := 36) (by decide +kernel) (by first | decide | exact ⟨by decide, by decide⟩) ib3 ?_
            intro v15 ev15 lv15 uv15
            have P36 : v15 = xOv h 80 a.toNat := ev15
            refine zwW_p [(0, 1, 0)] (q := 37) (ls' := [(2, 27), (0, a), (0, b), (0, c)]) (st' := [(0, 1), (0, v15), (0, a), (2, 31)]) (by decide +kernel) rfl ?_
            refine zwW_add (nx := 38) (by decide +kernel) (by first | omega | exact ⟨by omega, by omega⟩) ?_
            refine zwW_p [(0, 5, 0)] (q := 39) (ls' := [(2, 27), (0, a), (0, b), (0, c)]) (st' := [(0, 5), (0, (v15 + 1)), (0, a), (2, 31)]) (by decide +kernel) rfl ?_
            refine zwW_min (nx := 42) (by decide +kernel) rfl ?_
            intro v16 ev16
            refine zwW_as C.1 (a1 := 31) (a2 := 31) (n := 20) (lo := -2147483648) (hi := 2147483647) (nx := 43) (by decide +kernel) (by first | decide | exact ⟨by decide, by decide⟩) ib3 (by first | omega | exact ⟨by omega, by omega⟩) ?_
            intro h17 eh17 Ih17
            have Ch17 : CI h17 := C.wc eh17 Ih17 (by decide) (by decide)
            have Qh17 : zXR [(31, 31, 0, 20)] 0 0 h h17 := zXR.wc eh17 rfl ⟨by decide, by decide, Or.inl (by decide)⟩ (by first | omega | exact ⟨by omega, by omega⟩)
            have E254 := eh17
            have V254 : v16 = min (xOv h 80 a.toNat + 1) 5 := by omega
            have Xh17 : zXR msx254_z (0) (0) h h17 := X.tr (c2 := 0) (s2 := 0) Qh17 (by decide +kernel) (by decide) (by decide)
            have Zh17 : yC h17 = (yC h) := (yC_fr C Qh17 (by decide +kernel) (C.1.b (a1 := 37) (a2 := 37) (j1 := 86) (j2 := 87) (lo := 0) (hi := 6) (by decide +kernel) (r := 37) (j := 86) (by decide) (by decide) (by decide) (by decide)).2).trans (rfl : yC h = yC h)
            have Jh17 : yR h17 := J.fr C Qh17 (by decide +kernel)
            refine zwW_p [(24, 93, 0)] (q := 93) (ls' := [(2, 27), (0, a), (0, b), (0, c)]) (st' := []) (by decide +kernel) rfl ?_
            refine zwW_retv (nx := 94) (a := 0) (b := 0) (by decide +kernel) ?_
            exact ⟨Ch17, Xh17.le (by decide) (by decide), by first | (exfalso; omega) | (unfold yGv; first | (rw [if_pos (by omega), ← V254]; exact xOv_w31 Zh17 rfl E254 (C.1.s (a1 := 31) (a2 := 31) (k := 20) (n := 20) (by decide +kernel) (by decide) (by decide)) (by omega)) | (rw [if_neg (by omega), if_pos (by omega), ← V254]; exact xOv_w32 Zh17 rfl E254 (C.1.s (a1 := 32) (a2 := 32) (k := 20) (n := 20) (by decide +kernel) (by decide) (by decide)) (by omega)) | (rw [if_neg (by omega), if_neg (by omega), ← V254]; exact xOv_w33 Zh17 rfl E254 (C.1.s (a1 := 33) (a2 := 33) (k := 20) (n := 8) (by decide +kernel) (by decide) (by decide)) (by omega))), by exact Jh17⟩
        · exfalso; omega
def msx218_z : Zms := [(31, 31, 0, 20), (32, 32, 0, 20), (33, 33, 0, 8)]
-- WheelLand$Gifts.give(ILjava/util/ArrayList;)V
theorem x218_z {sc : List Int} (h : Hp) (C : CI h) (a : Int) (q_a : -2147483648 ≤ a ∧ a ≤ 2147483647) (J : yR h) (B : zBs (xOv h)) (GF : yGf (yC h)) : zwC sc 5 218 [(2, 27), (0, a), (2, 3)] h (zwRv (fun g => CI g ∧ zXR msx218_z (0) (0) h g ∧ (xOv g = yGN (xOv h) a (yC h 37 96).toNat) ∧ (yR g))) := by
  refine zwC_of (D := 4) 5 (by decide +kernel) rfl (ls := [(2, 27), (0, a), (2, 3), (9, 0), (9, 0)]) rfl ?_
  have X : zXR msx218_z 0 0 h h := zXR.rf _ _
  have u1 : yC h 37 1 = fld h 2 2 := rfl
  have u2 : yC h 37 2 = fld h 3 2 := rfl
  have u96 : yC h 37 96 = fld h 27 0 := rfl
  have b33 := zLb_3 C
  have b22 := zLb_2 C
  have F96 := GF.1
  have GX := GF.ox
  refine zwW_p [(0, 0, 0), (2, 3, 0)] (q := 2) (ls' := [(2, 27), (0, a), (2, 3), (0, 0), (9, 0)]) (st' := []) (by decide +kernel) rfl ?_
  have L1 : ∀ (n0 : Nat) (kL1 : Int) (w4L1 : Vl) (hL1 : Hp), n0 = ((1000 - kL1)).toNat → (xOv hL1 = yGN (xOv h) a (kL1).toNat) → (kL1 ≤ yC h 37 96) → (0 ≤ kL1 ∧ kL1 ≤ 8) → (yC hL1 = (yC h)) → (yR hL1) → CI hL1 → zXR msx218_z (0) (0) h hL1 → zwW sc (4) 218 2 [(2, 27), (0, a), (2, 3), (0, kL1), w4L1] [] hL1 (zwRv (fun g => CI g ∧ zXR msx218_z (0) (0) h g ∧ (xOv g = yGN (xOv h) a (yC h 37 96).toNat) ∧ (yR g))) := by
    intro n0
    induction n0 using Nat.strongRecOn with
    | ind n0 IHL1 =>
      intro kL1 w4L1 hL1 hnL1 iL1_0 iL1_1 iL1_2 iL1_3 iL1_4 ChL1 XhL1
      refine zwW_p [(1, 3, 0), (1, 0, 2)] (q := 4) (ls' := [(2, 27), (0, a), (2, 3), (0, kL1), w4L1]) (st' := [(2, 27), (0, kL1)]) (by decide +kernel) rfl ?_
      refine zwW_gs ChL1.1 (kd := 2) (bn := 0) (n := 10) (t := 0) (lo := 0) (hi := 8) (nx := 7) (by decide +kernel) ?_
      intro v2 ev2 lv2 uv2
      have sv2 : v2 = (yC h) 37 96 := Eq.trans ev2 (Eq.trans (Eq.symm (yC_s (h := hL1) (i := 96) rfl)) (Eq.trans (congrFun (congrFun iL1_3 37) 96) rfl))
      refine zwic_ge (q := 79) (nx := 10) (by decide +kernel) (fun c3 => ?_) (fun c3 => ?_)
      · refine zwW_retv (nx := 80) (a := 0) (b := 0) (by decide +kernel) ?_
        exact ⟨ChL1, XhL1.le (by decide) (by decide), by rw [show (yC h 37 96).toNat = (kL1).toNat by omega]; exact iL1_0, by exact iL1_4⟩
      · refine zwW_p [(1, 3, 0), (0, 8, 0)] (q := 13) (ls' := [(2, 27), (0, a), (2, 3), (0, kL1), w4L1]) (st' := [(0, 8), (0, kL1)]) (by decide +kernel) rfl ?_
        refine zwic_ge (q := 79) (nx := 16) (by decide +kernel) (fun c4 => ?_) (fun c4 => ?_)
        · exfalso; omega
        · refine zwW_p [(1, 0, 2)] (q := 17) (ls' := [(2, 27), (0, a), (2, 3), (0, kL1), w4L1]) (st' := [(2, 27)]) (by decide +kernel) rfl ?_
          refine zwW_gc ChL1.1 (kd := 2) (bn := 5) (n := 10) (c := 29) (nx := 20) (by decide +kernel) ?_
          refine zwW_p [(1, 3, 0)] (q := 21) (ls' := [(2, 27), (0, a), (2, 3), (0, kL1), w4L1]) (st' := [(0, kL1), (2, 29)]) (by decide +kernel) rfl ?_
          have ib1 : 0 ≤ kL1 ∧ kL1 < ((8 : Nat) : Int) := (by first | omega | exact ⟨by omega, by omega⟩)
          refine zwW_al ChL1.1 (a1 := 29) (a2 := 29) (kd := 20) (n := 8) (t := 0) (lo := -2147483648) (hi := 2147483647) (nx := 22) (by decide +kernel) (by first | decide | exact ⟨by decide, by decide⟩) ib1 ?_
          intro v5 ev5 lv5 uv5
          have sv5 : v5 = (yC h) 364 kL1.toNat := Eq.trans ev5 (Eq.trans (Eq.symm (yC_x (h := hL1) (a := 364) (r := 29) (n := 8) (i := kL1.toNat) rfl (by omega))) (Eq.trans (congrFun (congrFun iL1_3 364) kL1.toNat) rfl))
          refine zwW_p [(2, 4, 0)] (q := 24) (ls' := [(2, 27), (0, a), (2, 3), (0, kL1), (0, v5)]) (st' := []) (by decide +kernel) rfl ?_
          have KG := GF.2 (kL1).toNat (by omega)
          have KH : 0 ≤ yC h 79 (v5).toNat ∧ yC h 79 (v5).toNat < yC h 37 1 := (B.1 (v5).toNat (by show _ < yC h 37 2; omega)).2.2.2
          refine zwW_p [(1, 1, 0), (1, 3, 0)] (q := 26) (ls' := [(2, 27), (0, a), (2, 3), (0, kL1), (0, v5)]) (st' := [(0, kL1), (0, a)]) (by decide +kernel) rfl ?_
          refine zwW_ib (a := 9) (nx := 27) (by decide +kernel) rfl ?_
          refine zwW_p [(0, 1, 0)] (q := 28) (ls' := [(2, 27), (0, a), (2, 3), (0, kL1), (0, v5)]) (st' := [(0, 1), (0, (i_shr a kL1))]) (by decide +kernel) rfl ?_
          refine zwW_ib (a := 5) (nx := 29) (by decide +kernel) rfl ?_
          refine zwif_eq (q := 73) (nx := 32) (by decide +kernel) (fun c6 => ?_) (fun c6 => ?_)
          · have K73 : xOv hL1 = yGN (xOv h) a ((kL1).toNat + 1) := by
              rw [yGN_s, show (((kL1).toNat : Nat) : Int) = kL1 by omega]
              first
              | (exfalso; omega)
              | (rw [if_pos (by unfold yBt; omega)]; exact iL1_0)
              | (rw [if_neg (by unfold yBt; omega)]; exact A70)
            refine zwW_inc (i := 3) (c := 1) (x := kL1) (nx := 76) (by decide +kernel) rfl (by first | omega | exact ⟨by omega, by omega⟩) (ls' := [(2, 27), (0, a), (2, 3), (0, (kL1 + 1)), (0, v5)]) rfl ?_
            refine zwW_p [(24, 2, 0)] (q := 2) (ls' := [(2, 27), (0, a), (2, 3), (0, (kL1 + 1)), (0, v5)]) (st' := []) (by decide +kernel) rfl ?_
            exact IHL1 ((1000 - (kL1 + 1))).toNat (by omega) (kL1 + 1) (0, v5) hL1 rfl (by rw [show (kL1 + 1).toNat = (kL1).toNat + 1 by omega]; exact K73) (by omega) (by omega) (iL1_3) (iL1_4) ChL1 (XhL1.le (by decide) (by decide))
          · refine zwW_p [(1, 4, 0)] (q := 34) (ls' := [(2, 27), (0, a), (2, 3), (0, kL1), (0, v5)]) (st' := [(0, v5)]) (by decide +kernel) rfl ?_
            refine zwif_lt (q := 73) (nx := 37) (by decide +kernel) (fun c7 => ?_) (fun c7 => ?_)
            · have K73 : xOv hL1 = yGN (xOv h) a ((kL1).toNat + 1) := by
                rw [yGN_s, show (((kL1).toNat : Nat) : Int) = kL1 by omega]
                first
                | (exfalso; omega)
                | (rw [if_pos (by unfold yBt; omega)]; exact iL1_0)
                | (rw [if_neg (by unfold yBt; omega)]; exact A70)
              refine zwW_inc (i := 3) (c := 1) (x := kL1) (nx := 76) (by decide +kernel) rfl (by first | omega | exact ⟨by omega, by omega⟩) (ls' := [(2, 27), (0, a), (2, 3), (0, (kL1 + 1)), (0, v5)]) rfl ?_
              refine zwW_p [(24, 2, 0)] (q := 2) (ls' := [(2, 27), (0, a), (2, 3), (0, (kL1 + 1)), (0, v5)]) (st' := []) (by decide +kernel) rfl ?_
              exact IHL1 ((1000 - (kL1 + 1))).toNat (by omega) (kL1 + 1) (0, v5) hL1 rfl (by rw [show (kL1 + 1).toNat = (kL1).toNat + 1 by omega]; exact K73) (by omega) (by omega) (iL1_3) (iL1_4) ChL1 (XhL1.le (by decide) (by decide))
            · refine zwW_p [(1, 4, 0), (1, 2, 2)] (q := 40) (ls' := [(2, 27), (0, a), (2, 3), (0, kL1), (0, v5)]) (st' := [(2, 3), (0, v5)]) (by decide +kernel) rfl ?_
              refine zwW_cm ChL1.1 (op := 60) (k' := 96) (n := 0) (kd := 0) (m := 3) (nx := 43) (r := 3) (tl := []) (st' := [(0, v5)]) (by decide +kernel) rfl (by decide +kernel) rfl (x96_3 ChL1) ?_
              rintro v8 _ ⟨rfl, ev8⟩
              have bv8 := zLb_3 ChL1
              have sv8 : v8 = (yC h) 37 2 := Eq.trans ev8 (Eq.trans (Eq.symm (yC_s (h := hL1) (i := 2) rfl)) (Eq.trans (congrFun (congrFun iL1_3 37) 2) rfl))
              refine zwic_ge (q := 73) (nx := 46) (by decide +kernel) (fun c9 => ?_) (fun c9 => ?_)
              · have K73 : xOv hL1 = yGN (xOv h) a ((kL1).toNat + 1) := by
                  rw [yGN_s, show (((kL1).toNat : Nat) : Int) = kL1 by omega]
                  first
                  | (exfalso; omega)
                  | (rw [if_pos (by unfold yBt; omega)]; exact iL1_0)
                  | (rw [if_neg (by unfold yBt; omega)]; exact A70)
                refine zwW_inc (i := 3) (c := 1) (x := kL1) (nx := 76) (by decide +kernel) rfl (by first | omega | exact ⟨by omega, by omega⟩) (ls' := [(2, 27), (0, a), (2, 3), (0, (kL1 + 1)), (0, v5)]) rfl ?_
                refine zwW_p [(24, 2, 0)] (q := 2) (ls' := [(2, 27), (0, a), (2, 3), (0, (kL1 + 1)), (0, v5)]) (st' := []) (by decide +kernel) rfl ?_
                exact IHL1 ((1000 - (kL1 + 1))).toNat (by omega) (kL1 + 1) (0, v5) hL1 rfl (by rw [show (kL1 + 1).toNat = (kL1).toNat + 1 by omega]; exact K73) (by omega) (by omega) (iL1_3) (iL1_4) ChL1 (XhL1.le (by decide) (by decide))
              · refine zwW_p [(1, 0, 2), (1, 4, 0), (1, 2, 2), (1, 4, 0)] (q := 52) (ls' := [(2, 27), (0, a), (2, 3), (0, kL1), (0, v5)]) (st' := [(0, v5), (2, 3), (0, v5), (2, 27)]) (by decide +kernel) rfl ?_
                refine zwW_cm ChL1.1 (op := 60) (k' := 123) (n := 1) (kd := 0) (m := 3) (nx := 55) (r := 3) (tl := [(0, v5)]) (st' := [(0, v5), (2, 27)]) (by decide +kernel) rfl (by decide +kernel) rfl (x123_3 ChL1 (i := v5) (by first | omega | exact ⟨by omega, by omega⟩)) ?_
                rintro v10 _ ⟨rfl, Gv10, ev10⟩
                have lv10 := Gv10.1
                have pv10 : v10 = zv hL1 3 v5.toNat ∧ ((v5.toNat : Nat) : Int) < fld hL1 3 2 := ⟨ev10, by omega⟩
                refine zwW_cast (a := 4) (kd := 4) (n := 19) (nx := 58) (by decide +kernel) rfl (Or.inr Gv10.2.1) ?_
                refine zwW_get (kd := 4) (bn := 1) (t := 2) (n := 19) (nx := 61) (by decide +kernel) Gv10.2.1 rfl ?_
                obtain ⟨v11, ev11⟩ : ∃ z, z = fld hL1 v10 1 := ⟨_, rfl⟩
                rw [← ev11]
                have Gv11 : gV hL1 v11 := by rw [ev11]; exact Gv10.2.2
                have lv11 := Gv11.1
                have qv11 : yC hL1 79 v5.toNat = (yC h) 79 v5.toNat := Eq.trans (congrFun (congrFun iL1_3 79) v5.toNat) rfl
                have wv11 := iL1_4.r (a := 79) (A := 3) (j := 1) (B := 2) (i := v5.toNat) rfl pv10.2
                rw [qv11] at wv11
                have pv11 : v11 = zv hL1 2 (((yC h) 79 v5.toNat).toNat) ∧ ((((yC h) 79 v5.toNat).toNat : Nat) : Int) < fld hL1 2 2 := ⟨by rw [ev11, pv10.1]; exact wv11.2.2, wv11.2.1⟩
                refine zwX_gi ChL1 (kd := 11) (bn := 0) (n := 17) (nx := 64) (by decide +kernel) Gv11.2.1 Gv11.1 rfl ?_
                intro v12 ev12 lv12 uv12
                have sv12 : v12 = ((((yC h) 79 v5.toNat).toNat : Nat) : Int) := Eq.trans ev12 (Eq.trans (congrArg (fun q => fld hL1 q 0) pv11.1) (iL1_4.1 2 (by decide) _ pv11.2))
                refine zwW_p [(1, 0, 2)] (q := 65) (ls' := [(2, 27), (0, a), (2, 3), (0, kL1), (0, v5)]) (st' := [(2, 27), (0, v12), (0, v5), (2, 27)]) (by decide +kernel) rfl ?_
                refine zwW_gc ChL1.1 (kd := 2) (bn := 6) (n := 10) (c := 30) (nx := 68) (by decide +kernel) ?_
                refine zwW_p [(1, 3, 0)] (q := 69) (ls' := [(2, 27), (0, a), (2, 3), (0, kL1), (0, v5)]) (st' := [(0, kL1), (2, 30), (0, v12), (0, v5), (2, 27)]) (by decide +kernel) rfl ?_
                refine zwW_al ChL1.1 (a1 := 30) (a2 := 30) (kd := 20) (n := 8) (t := 0) (lo := -2147483648) (hi := 2147483647) (nx := 70) (by decide +kernel) (by first | decide | exact ⟨by decide, by decide⟩) ib1 ?_
                intro v13 ev13 lv13 uv13
                have sv13 : v13 = (yC h) 365 kL1.toNat := Eq.trans ev13 (Eq.trans (Eq.symm (yC_x (h := hL1) (a := 365) (r := 30) (n := 8) (i := kL1.toNat) rfl (by omega))) (Eq.trans (congrFun (congrFun iL1_3 365) kL1.toNat) rfl))
                refine zwW_cmv ChL1.1 (op := 60) (k' := 254) (n := 3) (kd := 2) (m := 10) (nx := 73) (r := 27) (tl := [(0, v5), (0, v12), (0, v13)]) (st' := []) (by decide +kernel) rfl (by decide +kernel) rfl (x254_z hL1 ChL1 v5 v12 v13 (by omega) (by omega) (by omega) iL1_4 (by rw [iL1_0]; exact B.gn GX _ (by show _ ≤ yC h 37 96; omega)) ⟨by omega, by rw [iL1_3]; omega⟩ ⟨by omega, by rw [iL1_3]; omega⟩) ?_
                rintro h16 ⟨Ch16, Qh16, f14, f15⟩
                have Zh16 : yC h16 = (yC h) := (yC_fr ChL1 Qh16 (by decide +kernel) (ChL1.1.b (a1 := 37) (a2 := 37) (j1 := 86) (j2 := 87) (lo := 0) (hi := 6) (by decide +kernel) (r := 37) (j := 86) (by decide) (by decide) (by decide) (by decide)).2).trans iL1_3
                have Xh16 : zXR msx218_z (0) (0) h h16 := XhL1.tr (c2 := 0) (s2 := 0) Qh16 (by decide +kernel) (by decide) (by decide)
                have A70 : xOv h16 = yG1 (yGN (xOv h) a (kL1).toNat) (kL1).toNat := by
                  have z := f14
                  rw [z, iL1_0]
                  unfold yG1
                  rw [yGN_na (a := 364) (by decide) (by decide) (by decide), yGN_na (a := 365) (by decide) (by decide) (by decide), yGN_na (a := 79) (by decide) (by decide) (by decide), xOv_na (a := 364) (by decide) (by decide) (by decide), xOv_na (a := 365) (by decide) (by decide) (by decide), xOv_na (a := 79) (by decide) (by decide) (by decide), ← sv5, show yC h 79 (v5).toNat = v12 by rw [sv12]; omega, ← sv13]
                have K73 : xOv h16 = yGN (xOv h) a ((kL1).toNat + 1) := by
                  rw [yGN_s, show (((kL1).toNat : Nat) : Int) = kL1 by omega]
                  first
                  | (exfalso; omega)
                  | (rw [if_pos (by unfold yBt; omega)]; exact iL1_0)
                  | (rw [if_neg (by unfold yBt; omega)]; exact A70)
                refine zwW_inc (i := 3) (c := 1) (x := kL1) (nx := 76) (by decide +kernel) rfl (by first | omega | exact ⟨by omega, by omega⟩) (ls' := [(2, 27), (0, a), (2, 3), (0, (kL1 + 1)), (0, v5)]) rfl ?_
                refine zwW_p [(24, 2, 0)] (q := 2) (ls' := [(2, 27), (0, a), (2, 3), (0, (kL1 + 1)), (0, v5)]) (st' := []) (by decide +kernel) rfl ?_
                exact IHL1 ((1000 - (kL1 + 1))).toNat (by omega) (kL1 + 1) (0, v5) h16 rfl (by rw [show (kL1 + 1).toNat = (kL1).toNat + 1 by omega]; exact K73) (by omega) (by omega) (Zh16) (f15) Ch16 (Xh16.le (by decide) (by decide))
  exact L1 _ 0 (9, 0) h rfl (rfl) (by omega) (by omega) ((rfl : yC h = yC h)) (J) C (X.le (by decide) (by decide))
def msx217_z : Zms := [(31, 31, 0, 20), (32, 32, 0, 20), (33, 33, 0, 8)]
-- WheelLand$Gifts.standAsNow(Ljava/util/ArrayList;Ljava/util/ArrayList;)V
theorem x217_z {sc : List Int} (h : Hp) (C : CI h) (J : yR h) : zwC sc 5 217 [(2, 27), (2, 2), (2, 3)] h (zwRv (fun g => CI g ∧ zXR msx217_z (0) (0) h g ∧ (zAg (xOv g) (yC h)) ∧ (yR g))) := by
  refine zwC_of (D := 4) 4 (by decide +kernel) rfl (ls := [(2, 27), (2, 2), (2, 3), (9, 0)]) rfl ?_
  have X : zXR msx217_z 0 0 h h := zXR.rf _ _
  have u1 : yC h 37 1 = fld h 2 2 := rfl
  have u2 : yC h 37 2 = fld h 3 2 := rfl
  have b33 := zLb_3 C
  have b22 := zLb_2 C
  refine zwW_p [(0, 0, 0), (2, 3, 0)] (q := 2) (ls' := [(2, 27), (2, 2), (2, 3), (0, 0)]) (st' := []) (by decide +kernel) rfl ?_
  have L1 : ∀ (n0 : Nat) (kL1 : Int) (hL1 : Hp), n0 = ((1000 - kL1)).toNat → (∀ j : Nat, (j : Int) < kL1 → fld hL1 31 j = yC h 80 j ∧ fld hL1 32 j = yC h 81 j) → (kL1 ≤ fld h 3 2 ∧ fld hL1 2 2 = fld h 2 2 ∧ fld hL1 3 2 = fld h 3 2) → (0 ≤ kL1 ∧ kL1 ≤ 20) → (yC hL1 = (yC h)) → (yR hL1) → CI hL1 → zXR msx217_z (0) (0) h hL1 → zwW sc (4) 217 2 [(2, 27), (2, 2), (2, 3), (0, kL1)] [] hL1 (zwRv (fun g => CI g ∧ zXR msx217_z (0) (0) h g ∧ (zAg (xOv g) (yC h)) ∧ (yR g))) := by
    intro n0
    induction n0 using Nat.strongRecOn with
    | ind n0 IHL1 =>
      intro kL1 hL1 hnL1 iL1_0 iL1_1 iL1_2 iL1_3 iL1_4 ChL1 XhL1
      refine zwW_p [(1, 3, 0), (1, 2, 2)] (q := 4) (ls' := [(2, 27), (2, 2), (2, 3), (0, kL1)]) (st' := [(2, 3), (0, kL1)]) (by decide +kernel) rfl ?_
      refine zwW_cm ChL1.1 (op := 60) (k' := 96) (n := 0) (kd := 0) (m := 3) (nx := 7) (r := 3) (tl := []) (st' := [(0, kL1)]) (by decide +kernel) rfl (by decide +kernel) rfl (x96_3 ChL1) ?_
      rintro v2 _ ⟨rfl, ev2⟩
      have bv2 := zLb_3 ChL1
      have sv2 : v2 = (yC h) 37 2 := Eq.trans ev2 (Eq.trans (Eq.symm (yC_s (h := hL1) (i := 2) rfl)) (Eq.trans (congrFun (congrFun iL1_3 37) 2) rfl))
      refine zwic_ge (q := 56) (nx := 10) (by decide +kernel) (fun c3 => ?_) (fun c3 => ?_)
      · refine zwW_p [(0, 0, 0), (2, 3, 0)] (q := 58) (ls' := [(2, 27), (2, 2), (2, 3), (0, 0)]) (st' := []) (by decide +kernel) rfl ?_
        have L4 : ∀ (n0 : Nat) (vL4 : Int) (hL4 : Hp), n0 = ((1000 - vL4)).toNat → (∀ j : Nat, (j : Int) < yC h 37 2 → fld hL4 31 j = yC h 80 j ∧ fld hL4 32 j = yC h 81 j) → (∀ u : Nat, (u : Int) < vL4 → fld hL4 33 u = yC h 66 u) → (vL4 ≤ fld h 2 2 ∧ fld hL4 2 2 = fld h 2 2) → (0 ≤ vL4 ∧ vL4 ≤ 8) → (yC hL4 = (yC h)) → (yR hL4) → CI hL4 → zXR msx217_z (0) (0) h hL4 → zwW sc (4) 217 58 [(2, 27), (2, 2), (2, 3), (0, vL4)] [] hL4 (zwRv (fun g => CI g ∧ zXR msx217_z (0) (0) h g ∧ (zAg (xOv g) (yC h)) ∧ (yR g))) := by
          intro n0
          induction n0 using Nat.strongRecOn with
          | ind n0 IHL4 =>
            intro vL4 hL4 hnL4 iL4_0 iL4_1 iL4_2 iL4_3 iL4_4 iL4_5 ChL4 XhL4
            refine zwW_p [(1, 3, 0), (1, 1, 2)] (q := 60) (ls' := [(2, 27), (2, 2), (2, 3), (0, vL4)]) (st' := [(2, 2), (0, vL4)]) (by decide +kernel) rfl ?_
            refine zwW_cm ChL4.1 (op := 60) (k' := 96) (n := 0) (kd := 0) (m := 3) (nx := 63) (r := 2) (tl := []) (st' := [(0, vL4)]) (by decide +kernel) rfl (by decide +kernel) rfl (x96_2 ChL4) ?_
            rintro v5 _ ⟨rfl, ev5⟩
            have bv5 := zLb_2 ChL4
            have sv5 : v5 = (yC h) 37 1 := Eq.trans ev5 (Eq.trans (Eq.symm (yC_s (h := hL4) (i := 1) rfl)) (Eq.trans (congrFun (congrFun iL4_4 37) 1) rfl))
            refine zwic_ge (q := 95) (nx := 66) (by decide +kernel) (fun c6 => ?_) (fun c6 => ?_)
            · refine zwW_retv (nx := 96) (a := 0) (b := 0) (by decide +kernel) ?_
              exact ⟨ChL4, XhL4.le (by decide) (by decide), by exact xOv_ag iL4_4 iL4_0 (fun u hu => iL4_1 u (by omega)), by exact iL4_5⟩
            · refine zwW_p [(1, 3, 0), (0, 8, 0)] (q := 69) (ls' := [(2, 27), (2, 2), (2, 3), (0, vL4)]) (st' := [(0, 8), (0, vL4)]) (by decide +kernel) rfl ?_
              refine zwic_ge (q := 95) (nx := 72) (by decide +kernel) (fun c7 => ?_) (fun c7 => ?_)
              · exfalso; omega
              · refine zwW_p [(1, 0, 2)] (q := 73) (ls' := [(2, 27), (2, 2), (2, 3), (0, vL4)]) (st' := [(2, 27)]) (by decide +kernel) rfl ?_
                refine zwW_gc ChL4.1 (kd := 2) (bn := 9) (n := 10) (c := 33) (nx := 76) (by decide +kernel) ?_
                refine zwW_p [(1, 3, 0), (1, 1, 2), (1, 3, 0)] (q := 79) (ls' := [(2, 27), (2, 2), (2, 3), (0, vL4)]) (st' := [(0, vL4), (2, 2), (0, vL4), (2, 33)]) (by decide +kernel) rfl ?_
                refine zwW_cm ChL4.1 (op := 60) (k' := 123) (n := 1) (kd := 0) (m := 3) (nx := 82) (r := 2) (tl := [(0, vL4)]) (st' := [(0, vL4), (2, 33)]) (by decide +kernel) rfl (by decide +kernel) rfl (x123_2 ChL4 (i := vL4) (by first | omega | exact ⟨by omega, by omega⟩)) ?_
                rintro v8 _ ⟨rfl, Gv8, ev8⟩
                have lv8 := Gv8.1
                have pv8 : v8 = zv hL4 2 vL4.toNat ∧ ((vL4.toNat : Nat) : Int) < fld hL4 2 2 := ⟨ev8, by omega⟩
                refine zwW_cast (a := 11) (kd := 11) (n := 17) (nx := 85) (by decide +kernel) rfl (Or.inr Gv8.2.1) ?_
                refine zwX_gi ChL4 (kd := 11) (bn := 3) (n := 17) (nx := 88) (by decide +kernel) Gv8.2.1 Gv8.1 rfl ?_
                intro v9 ev9 lv9 uv9
                have sv9 : v9 = (yC h) 66 vL4.toNat := Eq.trans ev9 (Eq.trans (congrArg (fun q => fld hL4 q 3) pv8.1) (Eq.trans (Eq.symm (yC_f (h := hL4) (a := 66) (A := 2) (j := 3) (i := vL4.toNat) rfl pv8.2)) (Eq.trans (congrFun (congrFun iL4_4 66) vL4.toNat) rfl)))
                have ib1 : 0 ≤ vL4 ∧ vL4 < ((8 : Nat) : Int) := (by first | omega | exact ⟨by omega, by omega⟩)
                refine zwW_as ChL4.1 (a1 := 33) (a2 := 33) (n := 8) (lo := -2147483648) (hi := 2147483647) (nx := 89) (by decide +kernel) (by first | decide | exact ⟨by decide, by decide⟩) ib1 (by first | omega | exact ⟨by omega, by omega⟩) ?_
                intro h10 eh10 Ih10
                have Ch10 : CI h10 := ChL4.wc eh10 Ih10 (by decide) (by decide)
                have Qh10 : zXR [(33, 33, 0, 8)] 0 0 hL4 h10 := zXR.wc eh10 rfl ⟨by decide, by decide, Or.inl (by decide)⟩ (by first | omega | exact ⟨by omega, by omega⟩)
                have V88 : v9 = yC h 66 (vL4).toNat := sv9
                have W88 : ∀ u : Nat, (u : Int) < vL4 + 1 → fld h10 33 u = yC h 66 u := by
                  intro u hu
                  rw [fwi eh10 (ChL4.1.s (a1 := 33) (a2 := 33) (k := 20) (n := 8) (by decide +kernel) (by decide) (by decide)) (i := (vL4).toNat) (by omega) u]
                  by_cases z : u = (vL4).toNat
                  · rw [if_pos z, z]; exact V88
                  · rw [if_neg z]; exact iL4_1 u (by omega)
                have K88 : ∀ j : Nat, (j : Int) < yC h 37 2 → fld h10 31 j = yC h 80 j ∧ fld h10 32 j = yC h 81 j := fun j hj => by rw [show fld h10 31 j = fld hL4 31 j from fld_oth eh10 (Or.inl (by decide)), show fld h10 32 j = fld hL4 32 j from fld_oth eh10 (Or.inl (by decide))]; exact iL4_0 j hj
                have Xh10 : zXR msx217_z (0) (0) h h10 := XhL4.tr (c2 := 0) (s2 := 0) Qh10 (by decide +kernel) (by decide) (by decide)
                have Zh10 : yC h10 = (yC h) := (yC_fr ChL4 Qh10 (by decide +kernel) (ChL4.1.b (a1 := 37) (a2 := 37) (j1 := 86) (j2 := 87) (lo := 0) (hi := 6) (by decide +kernel) (r := 37) (j := 86) (by decide) (by decide) (by decide) (by decide)).2).trans iL4_4
                have Jh10 : yR h10 := iL4_5.fr ChL4 Qh10 (by decide +kernel)
                have th10_2_2 : fld h10 2 2 = fld hL4 2 2 := Qh10.f (a1 := 2) (a2 := 2) (j1 := 2) (j2 := 3) (by decide +kernel) (by first | decide | exact ⟨by decide, by decide⟩) (by first | decide | exact ⟨by decide, by decide⟩) (by first | decide | exact ⟨by decide, by decide⟩)
                have th10_3_2 : fld h10 3 2 = fld hL4 3 2 := Qh10.f (a1 := 3) (a2 := 3) (j1 := 2) (j2 := 3) (by decide +kernel) (by first | decide | exact ⟨by decide, by decide⟩) (by first | decide | exact ⟨by decide, by decide⟩) (by first | decide | exact ⟨by decide, by decide⟩)
                refine zwW_inc (i := 3) (c := 1) (x := vL4) (nx := 92) (by decide +kernel) rfl (by first | omega | exact ⟨by omega, by omega⟩) (ls' := [(2, 27), (2, 2), (2, 3), (0, (vL4 + 1))]) rfl ?_
                refine zwW_p [(24, 58, 0)] (q := 58) (ls' := [(2, 27), (2, 2), (2, 3), (0, (vL4 + 1))]) (st' := []) (by decide +kernel) rfl ?_
                exact IHL4 ((1000 - (vL4 + 1))).toNat (by omega) (vL4 + 1) h10 rfl (K88) (W88) (by omega) (by omega) (Zh10) (Jh10) Ch10 (Xh10.le (by decide) (by decide))
        exact L4 _ 0 hL1 rfl (fun j hj => iL1_0 j (by omega)) (fun u hu => by omega) (by omega) (by omega) (iL1_3) (iL1_4) ChL1 (XhL1.le (by decide) (by decide))
      · refine zwW_p [(1, 3, 0), (0, 20, 0)] (q := 13) (ls' := [(2, 27), (2, 2), (2, 3), (0, kL1)]) (st' := [(0, 20), (0, kL1)]) (by decide +kernel) rfl ?_
        refine zwic_ge (q := 56) (nx := 16) (by decide +kernel) (fun c11 => ?_) (fun c11 => ?_)
        · exfalso; omega
        · refine zwW_p [(1, 0, 2)] (q := 17) (ls' := [(2, 27), (2, 2), (2, 3), (0, kL1)]) (st' := [(2, 27)]) (by decide +kernel) rfl ?_
          refine zwW_gc ChL1.1 (kd := 2) (bn := 7) (n := 10) (c := 31) (nx := 20) (by decide +kernel) ?_
          refine zwW_p [(1, 3, 0), (1, 2, 2), (1, 3, 0)] (q := 23) (ls' := [(2, 27), (2, 2), (2, 3), (0, kL1)]) (st' := [(0, kL1), (2, 3), (0, kL1), (2, 31)]) (by decide +kernel) rfl ?_
          refine zwW_cm ChL1.1 (op := 60) (k' := 123) (n := 1) (kd := 0) (m := 3) (nx := 26) (r := 3) (tl := [(0, kL1)]) (st' := [(0, kL1), (2, 31)]) (by decide +kernel) rfl (by decide +kernel) rfl (x123_3 ChL1 (i := kL1) (by first | omega | exact ⟨by omega, by omega⟩)) ?_
          rintro v12 _ ⟨rfl, Gv12, ev12⟩
          have lv12 := Gv12.1
          have pv12 : v12 = zv hL1 3 kL1.toNat ∧ ((kL1.toNat : Nat) : Int) < fld hL1 3 2 := ⟨ev12, by omega⟩
          refine zwW_cast (a := 4) (kd := 4) (n := 19) (nx := 29) (by decide +kernel) rfl (Or.inr Gv12.2.1) ?_
          refine zwX_gi ChL1 (kd := 4) (bn := 2) (n := 19) (nx := 32) (by decide +kernel) Gv12.2.1 Gv12.1 rfl ?_
          intro v13 ev13 lv13 uv13
          have sv13 : v13 = (yC h) 80 kL1.toNat := Eq.trans ev13 (Eq.trans (congrArg (fun q => fld hL1 q 2) pv12.1) (Eq.trans (Eq.symm (yC_f (h := hL1) (a := 80) (A := 3) (j := 2) (i := kL1.toNat) rfl pv12.2)) (Eq.trans (congrFun (congrFun iL1_3 80) kL1.toNat) rfl)))
          have ib2 : 0 ≤ kL1 ∧ kL1 < ((20 : Nat) : Int) := (by first | omega | exact ⟨by omega, by omega⟩)
          refine zwW_as ChL1.1 (a1 := 31) (a2 := 31) (n := 20) (lo := -2147483648) (hi := 2147483647) (nx := 33) (by decide +kernel) (by first | decide | exact ⟨by decide, by decide⟩) ib2 (by first | omega | exact ⟨by omega, by omega⟩) ?_
          intro h14 eh14 Ih14
          have Ch14 : CI h14 := ChL1.wc eh14 Ih14 (by decide) (by decide)
          have Qh14 : zXR [(31, 31, 0, 20)] 0 0 hL1 h14 := zXR.wc eh14 rfl ⟨by decide, by decide, Or.inl (by decide)⟩ (by first | omega | exact ⟨by omega, by omega⟩)
          have E32 := eh14
          have W32 := fwi eh14 (ChL1.1.s (a1 := 31) (a2 := 31) (k := 20) (n := 20) (by decide +kernel) (by decide) (by decide)) (i := (kL1).toNat) (by omega)
          have V32 : v13 = yC h 80 (kL1).toNat := sv13
          have Xh14 : zXR msx217_z (0) (0) h h14 := XhL1.tr (c2 := 0) (s2 := 0) Qh14 (by decide +kernel) (by decide) (by decide)
          have Zh14 : yC h14 = (yC h) := (yC_fr ChL1 Qh14 (by decide +kernel) (ChL1.1.b (a1 := 37) (a2 := 37) (j1 := 86) (j2 := 87) (lo := 0) (hi := 6) (by decide +kernel) (r := 37) (j := 86) (by decide) (by decide) (by decide) (by decide)).2).trans iL1_3
          have Jh14 : yR h14 := iL1_4.fr ChL1 Qh14 (by decide +kernel)
          have th14_2_2 : fld h14 2 2 = fld hL1 2 2 := Qh14.f (a1 := 2) (a2 := 2) (j1 := 2) (j2 := 3) (by decide +kernel) (by first | decide | exact ⟨by decide, by decide⟩) (by first | decide | exact ⟨by decide, by decide⟩) (by first | decide | exact ⟨by decide, by decide⟩)
          have th14_3_2 : fld h14 3 2 = fld hL1 3 2 := Qh14.f (a1 := 3) (a2 := 3) (j1 := 2) (j2 := 3) (by decide +kernel) (by first | decide | exact ⟨by decide, by decide⟩) (by first | decide | exact ⟨by decide, by decide⟩) (by first | decide | exact ⟨by decide, by decide⟩)
          refine zwW_p [(1, 0, 2)] (q := 34) (ls' := [(2, 27), (2, 2), (2, 3), (0, kL1)]) (st' := [(2, 27)]) (by decide +kernel) rfl ?_
          refine zwW_gc Ch14.1 (kd := 2) (bn := 8) (n := 10) (c := 32) (nx := 37) (by decide +kernel) ?_
          refine zwW_p [(1, 3, 0), (1, 2, 2), (1, 3, 0)] (q := 40) (ls' := [(2, 27), (2, 2), (2, 3), (0, kL1)]) (st' := [(0, kL1), (2, 3), (0, kL1), (2, 32)]) (by decide +kernel) rfl ?_
          refine zwW_cm Ch14.1 (op := 60) (k' := 123) (n := 1) (kd := 0) (m := 3) (nx := 43) (r := 3) (tl := [(0, kL1)]) (st' := [(0, kL1), (2, 32)]) (by decide +kernel) rfl (by decide +kernel) rfl (x123_3 Ch14 (i := kL1) (by first | omega | exact ⟨by omega, by omega⟩)) ?_
          rintro v15 _ ⟨rfl, Gv15, ev15⟩
          have lv15 := Gv15.1
          have pv15 : v15 = zv h14 3 kL1.toNat ∧ ((kL1.toNat : Nat) : Int) < fld h14 3 2 := ⟨ev15, by omega⟩
          refine zwW_cast (a := 4) (kd := 4) (n := 19) (nx := 46) (by decide +kernel) rfl (Or.inr Gv15.2.1) ?_
          refine zwX_gi Ch14 (kd := 4) (bn := 3) (n := 19) (nx := 49) (by decide +kernel) Gv15.2.1 Gv15.1 rfl ?_
          intro v16 ev16 lv16 uv16
          have sv16 : v16 = (yC h) 81 kL1.toNat := Eq.trans ev16 (Eq.trans (congrArg (fun q => fld h14 q 3) pv15.1) (Eq.trans (Eq.symm (yC_f (h := h14) (a := 81) (A := 3) (j := 3) (i := kL1.toNat) rfl pv15.2)) (Eq.trans (congrFun (congrFun Zh14 81) kL1.toNat) rfl)))
          refine zwW_as Ch14.1 (a1 := 32) (a2 := 32) (n := 20) (lo := -2147483648) (hi := 2147483647) (nx := 50) (by decide +kernel) (by first | decide | exact ⟨by decide, by decide⟩) ib2 (by first | omega | exact ⟨by omega, by omega⟩) ?_
          intro h17 eh17 Ih17
          have Ch17 : CI h17 := Ch14.wc eh17 Ih17 (by decide) (by decide)
          have Qh17 : zXR [(32, 32, 0, 20)] 0 0 h14 h17 := zXR.wc eh17 rfl ⟨by decide, by decide, Or.inl (by decide)⟩ (by first | omega | exact ⟨by omega, by omega⟩)
          have V49 : v16 = yC h 81 (kL1).toNat := sv16
          have W49 : ∀ j : Nat, (j : Int) < kL1 + 1 → fld h17 31 j = yC h 80 j ∧ fld h17 32 j = yC h 81 j := by
            intro j hj
            rw [show fld h17 31 j = fld h14 31 j from fld_oth eh17 (Or.inl (by decide)), W32 j, fwi eh17 (Ch14.1.s (a1 := 32) (a2 := 32) (k := 20) (n := 20) (by decide +kernel) (by decide) (by decide)) (i := (kL1).toNat) (by omega) j, show fld h14 32 j = _ from fld_oth E32 (Or.inl (by decide))]
            by_cases z : j = (kL1).toNat
            · rw [if_pos z, if_pos z, z]; exact ⟨V32, V49⟩
            · rw [if_neg z, if_neg z]; exact iL1_0 j (by omega)
          have Xh17 : zXR msx217_z (0) (0) h h17 := Xh14.tr (c2 := 0) (s2 := 0) Qh17 (by decide +kernel) (by decide) (by decide)
          have Zh17 : yC h17 = (yC h) := (yC_fr Ch14 Qh17 (by decide +kernel) (Ch14.1.b (a1 := 37) (a2 := 37) (j1 := 86) (j2 := 87) (lo := 0) (hi := 6) (by decide +kernel) (r := 37) (j := 86) (by decide) (by decide) (by decide) (by decide)).2).trans Zh14
          have Jh17 : yR h17 := Jh14.fr Ch14 Qh17 (by decide +kernel)
          have th17_2_2 : fld h17 2 2 = fld h14 2 2 := Qh17.f (a1 := 2) (a2 := 2) (j1 := 2) (j2 := 3) (by decide +kernel) (by first | decide | exact ⟨by decide, by decide⟩) (by first | decide | exact ⟨by decide, by decide⟩) (by first | decide | exact ⟨by decide, by decide⟩)
          have th17_3_2 : fld h17 3 2 = fld h14 3 2 := Qh17.f (a1 := 3) (a2 := 3) (j1 := 2) (j2 := 3) (by decide +kernel) (by first | decide | exact ⟨by decide, by decide⟩) (by first | decide | exact ⟨by decide, by decide⟩) (by first | decide | exact ⟨by decide, by decide⟩)
          refine zwW_inc (i := 3) (c := 1) (x := kL1) (nx := 53) (by decide +kernel) rfl (by first | omega | exact ⟨by omega, by omega⟩) (ls' := [(2, 27), (2, 2), (2, 3), (0, (kL1 + 1))]) rfl ?_
          refine zwW_p [(24, 2, 0)] (q := 2) (ls' := [(2, 27), (2, 2), (2, 3), (0, (kL1 + 1))]) (st' := []) (by decide +kernel) rfl ?_
          exact IHL1 ((1000 - (kL1 + 1))).toNat (by omega) (kL1 + 1) h17 rfl (W49) (by omega) (by omega) (Zh17) (Jh17) Ch17 (Xh17.le (by decide) (by decide))
  exact L1 _ 0 h rfl (fun j hj => by omega) (by omega) (by omega) ((rfl : yC h = yC h)) (J) C (X.le (by decide) (by decide))
def msx219_z : Zms := [(33, 33, 0, 8)]
-- WheelLand$Gifts.spunBy(Ljava/util/ArrayList;II)I
theorem x219_z {sc : List Int} (h : Hp) (C : CI h) (a b : Int) (q_a : -2147483648 ≤ a ∧ a ≤ 2147483647) (q_b : -2147483648 ≤ b ∧ b ≤ 2147483647) (J : yR h) (B : zBs (xOv h)) (pa : a = yC h 37 0 / 13 % 4) (pb : b = 300 - yC h 37 64) : zwC sc 5 219 [(2, 27), (2, 3), (0, a), (0, b)] h (zwRt 0 (fun x g => CI g ∧ zXR msx219_z (0) (0) h g ∧ (-2147483648 ≤ x ∧ x ≤ 2147483647) ∧ (x = yTo (xOv h) (yEp (yC h)) (yC h 37 2).toNat) ∧ (yR g))) := by
  refine zwC_of (D := 4) 11 (by decide +kernel) rfl (ls := [(2, 27), (2, 3), (0, a), (0, b), (9, 0), (9, 0), (9, 0), (9, 0), (9, 0), (9, 0), (9, 0)]) rfl ?_
  have X : zXR msx219_z 0 0 h h := zXR.rf _ _
  have u0 : yC h 37 0 = fld h 1 0 := rfl
  have u1 : yC h 37 1 = fld h 2 2 := rfl
  have u2 : yC h 37 2 = fld h 3 2 := rfl
  have u64 : yC h 37 64 = fld h 4 2 := rfl
  have b33 := zLb_3 C
  have b22 := zLb_2 C
  have EP3 := yEp_4 (S := yC h)
  have TB := fun n hn => yTo_b B EP3 n hn
  have B0 : 0 ≤ yC h 37 0 ∧ yC h 37 0 ≤ 156 := B.2.2.2.1
  have B64 : 0 ≤ yC h 37 64 ∧ yC h 37 64 ≤ 300 := B.2.2.1
  have EA : a.toNat = yEp (yC h) := by unfold yEp; omega
  refine zwW_p [(1, 3, 0), (2, 4, 0), (0, 0, 0), (2, 5, 0), (0, 0, 0), (2, 6, 0)] (q := 9) (ls' := [(2, 27), (2, 3), (0, a), (0, b), (0, b), (0, 0), (0, 0), (9, 0), (9, 0), (9, 0), (9, 0)]) (st' := []) (by decide +kernel) rfl ?_
  have L1 : ∀ (n0 : Nat) (fL1 nL1 kL1 : Int) (w7L1 w8L1 w9L1 w10L1 : Vl) (hL1 : Hp), n0 = ((1000 - kL1)).toNat → (∀ v : Nat, fld hL1 33 v = (ySN (xOv h) (yEp (yC h)) (kL1).toNat) 66 v) → (fL1 = 300 - (ySN (xOv h) (yEp (yC h)) (kL1).toNat) 37 64) → (nL1 = yTo (xOv h) (yEp (yC h)) (kL1).toNat) → (kL1 ≤ yC h 37 2) → (-1 ≤ fL1 ∧ fL1 ≤ 300) → (0 ≤ nL1 ∧ nL1 ≤ 76000) → (0 ≤ kL1 ∧ kL1 ≤ 20) → (yC hL1 = (yC h)) → (yR hL1) → CI hL1 → zXR msx219_z (0) (0) h hL1 → zwW sc (4) 219 9 [(2, 27), (2, 3), (0, a), (0, b), (0, fL1), (0, nL1), (0, kL1), w7L1, w8L1, w9L1, w10L1] [] hL1 (zwRt 0 (fun x g => CI g ∧ zXR msx219_z (0) (0) h g ∧ (-2147483648 ≤ x ∧ x ≤ 2147483647) ∧ (x = yTo (xOv h) (yEp (yC h)) (yC h 37 2).toNat) ∧ (yR g))) := by
    intro n0
    induction n0 using Nat.strongRecOn with
    | ind n0 IHL1 =>
      intro fL1 nL1 kL1 w7L1 w8L1 w9L1 w10L1 hL1 hnL1 iL1_0 iL1_1 iL1_2 iL1_3 iL1_4 iL1_5 iL1_6 iL1_7 iL1_8 ChL1 XhL1
      refine zwW_p [(1, 6, 0), (1, 1, 2)] (q := 12) (ls' := [(2, 27), (2, 3), (0, a), (0, b), (0, fL1), (0, nL1), (0, kL1), w7L1, w8L1, w9L1, w10L1]) (st' := [(2, 3), (0, kL1)]) (by decide +kernel) rfl ?_
      refine zwW_cm ChL1.1 (op := 60) (k' := 96) (n := 0) (kd := 0) (m := 3) (nx := 15) (r := 3) (tl := []) (st' := [(0, kL1)]) (by decide +kernel) rfl (by decide +kernel) rfl (x96_3 ChL1) ?_
      rintro v2 _ ⟨rfl, ev2⟩
      have bv2 := zLb_3 ChL1
      have sv2 : v2 = (yC h) 37 2 := Eq.trans ev2 (Eq.trans (Eq.symm (yC_s (h := hL1) (i := 2) rfl)) (Eq.trans (congrFun (congrFun iL1_7 37) 2) rfl))
      refine zwic_ge (q := 156) (nx := 18) (by decide +kernel) (fun c3 => ?_) (fun c3 => ?_)
      · refine zwW_p [(1, 5, 0)] (q := 158) (ls' := [(2, 27), (2, 3), (0, a), (0, b), (0, fL1), (0, nL1), (0, kL1), w7L1, w8L1, w9L1, w10L1]) (st' := [(0, nL1)]) (by decide +kernel) rfl ?_
        refine zwW_ret (nx := 159) (a := 0) (b := 0) (by decide +kernel) rfl (Or.inl rfl) ?_
        exact ⟨ChL1, XhL1.le (by decide) (by decide), by omega, by first | (rw [show (yC h 37 2).toNat = (kL1).toNat by omega]; exact iL1_2) | (rw [yTo_end (k := (kL1).toNat) (by omega) (by omega)]; exact iL1_2), by exact iL1_8⟩
      · refine zwW_p [(1, 6, 0), (0, 20, 0)] (q := 22) (ls' := [(2, 27), (2, 3), (0, a), (0, b), (0, fL1), (0, nL1), (0, kL1), w7L1, w8L1, w9L1, w10L1]) (st' := [(0, 20), (0, kL1)]) (by decide +kernel) rfl ?_
        refine zwic_ge (q := 156) (nx := 25) (by decide +kernel) (fun c4 => ?_) (fun c4 => ?_)
        · exfalso; omega
        · refine zwW_p [(1, 4, 0)] (q := 27) (ls' := [(2, 27), (2, 3), (0, a), (0, b), (0, fL1), (0, nL1), (0, kL1), w7L1, w8L1, w9L1, w10L1]) (st' := [(0, fL1)]) (by decide +kernel) rfl ?_
          refine zwif_le (q := 156) (nx := 30) (by decide +kernel) (fun c5 => ?_) (fun c5 => ?_)
          · refine zwW_p [(1, 5, 0)] (q := 158) (ls' := [(2, 27), (2, 3), (0, a), (0, b), (0, fL1), (0, nL1), (0, kL1), w7L1, w8L1, w9L1, w10L1]) (st' := [(0, nL1)]) (by decide +kernel) rfl ?_
            refine zwW_ret (nx := 159) (a := 0) (b := 0) (by decide +kernel) rfl (Or.inl rfl) ?_
            exact ⟨ChL1, XhL1.le (by decide) (by decide), by omega, by first | (rw [show (yC h 37 2).toNat = (kL1).toNat by omega]; exact iL1_2) | (rw [yTo_end (k := (kL1).toNat) (by omega) (by omega)]; exact iL1_2), by exact iL1_8⟩
          · have BT := B.sn EP3 (kL1).toNat (by show _ ≤ yC h 37 2; omega)
            have KT : (((kL1).toNat : Nat) : Int) < (ySN (xOv h) (yEp (yC h)) (kL1).toNat) 37 2 := by rw [ySN_ne (b := 37) (by decide) (Or.inr (by decide))]; show _ < yC h 37 2; omega
            have KB := BT.1 (kL1).toNat KT
            have XB := yX_b BT EP3 KT
            have N79 : (ySN (xOv h) (yEp (yC h)) (kL1).toNat) 79 (kL1).toNat = yC h 79 (kL1).toNat := (ySN_ne (b := 79) (by decide) (Or.inl (by decide)) _).trans (xOv_na (a := 79) (by decide) (by decide) (by decide))
            have N85 : (ySN (xOv h) (yEp (yC h)) (kL1).toNat) 85 (kL1).toNat = yC h 85 (kL1).toNat := (ySN_ne (b := 85) (by decide) (Or.inl (by decide)) _).trans (xOv_na (a := 85) (by decide) (by decide) (by decide))
            have N371 : (ySN (xOv h) (yEp (yC h)) (kL1).toNat) 37 1 = yC h 37 1 := (ySN_ne (b := 37) (by decide) (Or.inr (by decide)) _).trans (xOv_na (a := 37) (by decide) (by decide) (by decide))
            have KC := (BT.2.1 ((ySN (xOv h) (yEp (yC h)) (kL1).toNat) 79 (kL1).toNat).toNat (by omega)).1
            have KI := (BT.2.1 ((ySN (xOv h) (yEp (yC h)) (kL1).toNat) 79 (kL1).toNat).toNat (by omega)).2 (yEp (yC h)) EP3
            have N39 : (ySN (xOv h) (yEp (yC h)) (kL1).toNat) 39 (4 * ((ySN (xOv h) (yEp (yC h)) (kL1).toNat) 79 (kL1).toNat).toNat + (yEp (yC h))) = yIdl (yC h) (yC h 79 (kL1).toNat).toNat a := by rw [N79]; exact ((ySN_ne (b := 39) (by decide) (Or.inl (by decide)) _).trans (xOv_na (a := 39) (by decide) (by decide) (by decide))).trans (by unfold yIdl; rw [EA])
            rw [N39] at KI
            have TB1 := TB ((kL1).toNat + 1) (by show _ ≤ yC h 37 2; omega)
            have YT : yTo (xOv h) (yEp (yC h)) ((kL1).toNat + 1) = yTo (xOv h) (yEp (yC h)) (kL1).toNat + yX (ySN (xOv h) (yEp (yC h)) (kL1).toNat) (yEp (yC h)) (kL1).toNat := rfl
            refine zwW_p [(1, 1, 2), (1, 6, 0)] (q := 33) (ls' := [(2, 27), (2, 3), (0, a), (0, b), (0, fL1), (0, nL1), (0, kL1), w7L1, w8L1, w9L1, w10L1]) (st' := [(0, kL1), (2, 3)]) (by decide +kernel) rfl ?_
            refine zwW_cm ChL1.1 (op := 60) (k' := 123) (n := 1) (kd := 0) (m := 3) (nx := 36) (r := 3) (tl := [(0, kL1)]) (st' := []) (by decide +kernel) rfl (by decide +kernel) rfl (x123_3 ChL1 (i := kL1) (by first | omega | exact ⟨by omega, by omega⟩)) ?_
            rintro v6 _ ⟨rfl, Gv6, ev6⟩
            have lv6 := Gv6.1
            have pv6 : v6 = zv hL1 3 kL1.toNat ∧ ((kL1.toNat : Nat) : Int) < fld hL1 3 2 := ⟨ev6, by omega⟩
            refine zwW_cast (a := 4) (kd := 4) (n := 19) (nx := 39) (by decide +kernel) rfl (Or.inr Gv6.2.1) ?_
            refine zwW_p [(2, 7, 2), (1, 7, 2)] (q := 43) (ls' := [(2, 27), (2, 3), (0, a), (0, b), (0, fL1), (0, nL1), (0, kL1), (2, v6), w8L1, w9L1, w10L1]) (st' := [(2, v6)]) (by decide +kernel) rfl ?_
            refine zwW_get (kd := 4) (bn := 1) (t := 2) (n := 19) (nx := 46) (by decide +kernel) Gv6.2.1 rfl ?_
            obtain ⟨v7, ev7⟩ : ∃ z, z = fld hL1 v6 1 := ⟨_, rfl⟩
            rw [← ev7]
            have Gv7 : gV hL1 v7 := by rw [ev7]; exact Gv6.2.2
            have lv7 := Gv7.1
            have qv7 : yC hL1 79 kL1.toNat = (yC h) 79 kL1.toNat := Eq.trans (congrFun (congrFun iL1_7 79) kL1.toNat) rfl
            have wv7 := iL1_8.r (a := 79) (A := 3) (j := 1) (B := 2) (i := kL1.toNat) rfl pv6.2
            rw [qv7] at wv7
            have pv7 : v7 = zv hL1 2 (((yC h) 79 kL1.toNat).toNat) ∧ ((((yC h) 79 kL1.toNat).toNat : Nat) : Int) < fld hL1 2 2 := ⟨by rw [ev7, pv6.1]; exact wv7.2.2, wv7.2.1⟩
            refine zwX_gi ChL1 (kd := 11) (bn := 0) (n := 17) (nx := 49) (by decide +kernel) Gv7.2.1 Gv7.1 rfl ?_
            intro v8 ev8 lv8 uv8
            have sv8 : v8 = ((((yC h) 79 kL1.toNat).toNat : Nat) : Int) := Eq.trans ev8 (Eq.trans (congrArg (fun q => fld hL1 q 0) pv7.1) (iL1_8.1 2 (by decide) _ pv7.2))
            have O49 : v8 = yC h 79 (kL1).toNat := by rw [sv8]; omega
            refine zwW_p [(2, 8, 0), (1, 8, 0)] (q := 53) (ls' := [(2, 27), (2, 3), (0, a), (0, b), (0, fL1), (0, nL1), (0, kL1), (2, v6), (0, v8), w9L1, w10L1]) (st' := [(0, v8)]) (by decide +kernel) rfl ?_
            refine zwif_lt (q := 150) (nx := 56) (by decide +kernel) (fun c9 => ?_) (fun c9 => ?_)
            · exfalso; omega
            · refine zwW_p [(1, 8, 0), (0, 8, 0)] (q := 60) (ls' := [(2, 27), (2, 3), (0, a), (0, b), (0, fL1), (0, nL1), (0, kL1), (2, v6), (0, v8), w9L1, w10L1]) (st' := [(0, 8), (0, v8)]) (by decide +kernel) rfl ?_
              refine zwic_ge (q := 150) (nx := 63) (by decide +kernel) (fun c10 => ?_) (fun c10 => ?_)
              · exfalso; omega
              · refine zwW_p [(1, 0, 2)] (q := 64) (ls' := [(2, 27), (2, 3), (0, a), (0, b), (0, fL1), (0, nL1), (0, kL1), (2, v6), (0, v8), w9L1, w10L1]) (st' := [(2, 27)]) (by decide +kernel) rfl ?_
                refine zwW_gc ChL1.1 (kd := 2) (bn := 7) (n := 10) (c := 31) (nx := 67) (by decide +kernel) ?_
                refine zwW_p [(1, 6, 0)] (q := 69) (ls' := [(2, 27), (2, 3), (0, a), (0, b), (0, fL1), (0, nL1), (0, kL1), (2, v6), (0, v8), w9L1, w10L1]) (st' := [(0, kL1), (2, 31)]) (by decide +kernel) rfl ?_
                have ib1 : 0 ≤ kL1 ∧ kL1 < ((20 : Nat) : Int) := (by first | omega | exact ⟨by omega, by omega⟩)
                refine zwW_al ChL1.1 (a1 := 31) (a2 := 31) (kd := 20) (n := 20) (t := 0) (lo := -2147483648) (hi := 2147483647) (nx := 70) (by decide +kernel) (by first | decide | exact ⟨by decide, by decide⟩) ib1 ?_
                intro v11 ev11 lv11 uv11
                have V70 : v11 = (ySN (xOv h) (yEp (yC h)) (kL1).toNat) 80 (kL1).toNat := by rw [ySN_ne (b := 80) (by decide) (Or.inl (by decide)), ev11]; exact congrFun (XhL1.fa (a := 31) (by decide +kernel) (by decide)) _
                refine zwW_p [(1, 7, 2)] (q := 72) (ls' := [(2, 27), (2, 3), (0, a), (0, b), (0, fL1), (0, nL1), (0, kL1), (2, v6), (0, v8), w9L1, w10L1]) (st' := [(2, v6), (0, v11)]) (by decide +kernel) rfl ?_
                refine zwW_get (kd := 4) (bn := 1) (t := 2) (n := 19) (nx := 75) (by decide +kernel) Gv6.2.1 rfl ?_
                rw [← ev7]
                refine zwW_p [(1, 2, 0)] (q := 76) (ls' := [(2, 27), (2, 3), (0, a), (0, b), (0, fL1), (0, nL1), (0, kL1), (2, v6), (0, v8), w9L1, w10L1]) (st' := [(0, a), (2, v7), (0, v11)]) (by decide +kernel) rfl ?_
                refine zwW_cv (op := 60) (k' := 222) (n := 1) (kd := 11) (m := 17) (nx := 79) (r := v7) (tl := [(0, a)]) (st' := [(0, v11)]) (by decide +kernel) rfl (by decide +kernel) Gv7.2.1 (x222_z hL1 ChL1 v7 a Gv7 (by omega) iL1_8 (((yC h) 79 kL1.toNat).toNat) pv7 (by first | omega | exact ⟨by omega, by omega⟩) (by rw [iL1_7]; exact KI)) rfl ?_
                rintro v13 _ ⟨rfl, f14, f15⟩
                have sv13 : v13 = yIdl (yC h) (((yC h) 79 kL1.toNat).toNat) a := by rw [f15, iL1_7]
                have V76 : v13 = (ySN (xOv h) (yEp (yC h)) (kL1).toNat) 39 (4 * ((ySN (xOv h) (yEp (yC h)) (kL1).toNat) 79 (kL1).toNat).toNat + (yEp (yC h))) := by rw [N39]; exact sv13
                refine zwW_mulp (A := 5) (B := 40) (nx := 80) (by decide +kernel) (by first | omega | exact ⟨by omega, by omega⟩) (by first | omega | exact ⟨by omega, by omega⟩) (by decide) ?_
                intro v16 ev16 lv16 uv16
                have Ev16 : v16 = v11 * (yIdl (yC h) (((yC h) 79 kL1.toNat).toNat) a) := by rw [ev16, sv13]
                refine zwW_p [(2, 9, 0), (1, 9, 0), (1, 0, 2)] (q := 85) (ls' := [(2, 27), (2, 3), (0, a), (0, b), (0, fL1), (0, nL1), (0, kL1), (2, v6), (0, v8), (0, v16), w10L1]) (st' := [(2, 27), (0, v16)]) (by decide +kernel) rfl ?_
                refine zwW_gc ChL1.1 (kd := 2) (bn := 8) (n := 10) (c := 32) (nx := 88) (by decide +kernel) ?_
                refine zwW_p [(1, 6, 0)] (q := 90) (ls' := [(2, 27), (2, 3), (0, a), (0, b), (0, fL1), (0, nL1), (0, kL1), (2, v6), (0, v8), (0, v16), w10L1]) (st' := [(0, kL1), (2, 32), (0, v16)]) (by decide +kernel) rfl ?_
                refine zwW_al ChL1.1 (a1 := 32) (a2 := 32) (kd := 20) (n := 20) (t := 0) (lo := -2147483648) (hi := 2147483647) (nx := 91) (by decide +kernel) (by first | decide | exact ⟨by decide, by decide⟩) ib1 ?_
                intro v17 ev17 lv17 uv17
                have V91 : v17 = (ySN (xOv h) (yEp (yC h)) (kL1).toNat) 81 (kL1).toNat := by rw [ySN_ne (b := 81) (by decide) (Or.inl (by decide)), ev17]; exact congrFun (XhL1.fa (a := 32) (by decide +kernel) (by decide)) _
                refine zwW_p [(1, 7, 2)] (q := 93) (ls' := [(2, 27), (2, 3), (0, a), (0, b), (0, fL1), (0, nL1), (0, kL1), (2, v6), (0, v8), (0, v16), w10L1]) (st' := [(2, v6), (0, v17), (0, v16)]) (by decide +kernel) rfl ?_
                refine zwX_gi ChL1 (kd := 4) (bn := 7) (n := 19) (nx := 96) (by decide +kernel) Gv6.2.1 Gv6.1 rfl ?_
                intro v18 ev18 lv18 uv18
                have sv18 : v18 = (yC h) 85 kL1.toNat := Eq.trans ev18 (Eq.trans (congrArg (fun q => fld hL1 q 7) pv6.1) (Eq.trans (Eq.symm (yC_f (h := hL1) (a := 85) (A := 3) (j := 7) (i := kL1.toNat) rfl pv6.2)) (Eq.trans (congrFun (congrFun iL1_7 85) kL1.toNat) rfl)))
                have V96 : v18 = (ySN (xOv h) (yEp (yC h)) (kL1).toNat) 85 (kL1).toNat := by rw [N85]; exact sv18
                refine zwW_p [(1, 0, 2)] (q := 97) (ls' := [(2, 27), (2, 3), (0, a), (0, b), (0, fL1), (0, nL1), (0, kL1), (2, v6), (0, v8), (0, v16), w10L1]) (st' := [(2, 27), (0, v18), (0, v17), (0, v16)]) (by decide +kernel) rfl ?_
                refine zwW_gc ChL1.1 (kd := 2) (bn := 9) (n := 10) (c := 33) (nx := 100) (by decide +kernel) ?_
                refine zwW_p [(1, 8, 0)] (q := 102) (ls' := [(2, 27), (2, 3), (0, a), (0, b), (0, fL1), (0, nL1), (0, kL1), (2, v6), (0, v8), (0, v16), w10L1]) (st' := [(0, v8), (2, 33), (0, v18), (0, v17), (0, v16)]) (by decide +kernel) rfl ?_
                have ib2 : 0 ≤ v8 ∧ v8 < ((8 : Nat) : Int) := (by first | omega | exact ⟨by omega, by omega⟩)
                refine zwW_al ChL1.1 (a1 := 33) (a2 := 33) (kd := 20) (n := 8) (t := 0) (lo := -2147483648) (hi := 2147483647) (nx := 103) (by decide +kernel) (by first | decide | exact ⟨by decide, by decide⟩) ib2 ?_
                intro v19 ev19 lv19 uv19
                have V103 : v19 = (ySN (xOv h) (yEp (yC h)) (kL1).toNat) 66 ((ySN (xOv h) (yEp (yC h)) (kL1).toNat) 79 (kL1).toNat).toNat := by rw [N79, ← O49]; exact ev19.trans (iL1_0 _)
                refine zwW_cs (k' := 223) (n := 4) (nx := 106) (as := [(0, v16), (0, v17), (0, v18), (0, v19)]) (st' := []) (by decide +kernel) rfl (x223_s hL1 ChL1 v16 v17 v18 v19 (by omega) (by omega) (by omega) (by omega) (by first | omega | exact ⟨by omega, by omega⟩) (by first | omega | exact ⟨by omega, by omega⟩) (by first | omega | exact ⟨by omega, by omega⟩) (by first | omega | exact ⟨by omega, by omega⟩)) rfl ?_
                rintro v20 _ ⟨rfl, f21, f22⟩
                have X103 : v20 = yX (ySN (xOv h) (yEp (yC h)) (kL1).toNat) (yEp (yC h)) (kL1).toNat := by
                  have z := f22
                  rw [z, ev16, V70, V76, V91, V96, V103]
                  unfold yX yHk
                  rw [if_neg (by omega)]
                refine zwW_p [(2, 10, 0), (1, 0, 2)] (q := 109) (ls' := [(2, 27), (2, 3), (0, a), (0, b), (0, fL1), (0, nL1), (0, kL1), (2, v6), (0, v8), (0, v16), (0, v20)]) (st' := [(2, 27)]) (by decide +kernel) rfl ?_
                refine zwW_gc ChL1.1 (kd := 2) (bn := 9) (n := 10) (c := 33) (nx := 112) (by decide +kernel) ?_
                refine zwW_p [(1, 8, 0), (14, 0, 0)] (q := 115) (ls' := [(2, 27), (2, 3), (0, a), (0, b), (0, fL1), (0, nL1), (0, kL1), (2, v6), (0, v8), (0, v16), (0, v20)]) (st' := [(0, v8), (2, 33), (0, v8), (2, 33)]) (by decide +kernel) rfl ?_
                refine zwW_al ChL1.1 (a1 := 33) (a2 := 33) (kd := 20) (n := 8) (t := 0) (lo := -2147483648) (hi := 2147483647) (nx := 116) (by decide +kernel) (by first | decide | exact ⟨by decide, by decide⟩) ib2 ?_
                intro v23 ev23 lv23 uv23
                have V116 : v23 = (ySN (xOv h) (yEp (yC h)) (kL1).toNat) 66 ((ySN (xOv h) (yEp (yC h)) (kL1).toNat) 79 (kL1).toNat).toNat := by rw [N79, ← O49]; exact ev23.trans (iL1_0 _)
                refine zwW_p [(1, 10, 0), (1, 7, 2)] (q := 120) (ls' := [(2, 27), (2, 3), (0, a), (0, b), (0, fL1), (0, nL1), (0, kL1), (2, v6), (0, v8), (0, v16), (0, v20)]) (st' := [(2, v6), (0, v20), (0, v23), (0, v8), (2, 33)]) (by decide +kernel) rfl ?_
                refine zwX_gi ChL1 (kd := 4) (bn := 7) (n := 19) (nx := 123) (by decide +kernel) Gv6.2.1 Gv6.1 rfl ?_
                intro v24 ev24 lv24 uv24
                have sv24 : v24 = (yC h) 85 kL1.toNat := Eq.trans ev24 (Eq.trans (congrArg (fun q => fld hL1 q 7) pv6.1) (Eq.trans (Eq.symm (yC_f (h := hL1) (a := 85) (A := 3) (j := 7) (i := kL1.toNat) rfl pv6.2)) (Eq.trans (congrFun (congrFun iL1_7 85) kL1.toNat) rfl)))
                have V123 : v24 = (ySN (xOv h) (yEp (yC h)) (kL1).toNat) 85 (kL1).toNat := by rw [N85]; exact sv24
                refine zwW_cs (k' := 151) (n := 2) (nx := 126) (as := [(0, v20), (0, v24)]) (st' := [(0, v23), (0, v8), (2, 33)]) (by decide +kernel) rfl (x151_s hL1 ChL1 v20 v24 (by omega) (by omega) (by first | omega | exact ⟨by omega, by omega⟩) (by first | omega | exact ⟨by omega, by omega⟩)) rfl ?_
                rintro v25 _ ⟨rfl, f26, f27⟩
                have Q123 : v25 = (yX (ySN (xOv h) (yEp (yC h)) (kL1).toNat) (yEp (yC h)) (kL1).toNat + (ySN (xOv h) (yEp (yC h)) (kL1).toNat) 85 (kL1).toNat - 1) / (ySN (xOv h) (yEp (yC h)) (kL1).toNat) 85 (kL1).toNat := by
                  have z := f27.1
                  rw [z, X103, V123]
                have R123 := zceil XB.1 (by omega) XB.2.2.1
                refine zwW_sub (nx := 127) (by decide +kernel) (by first | omega | exact ⟨by omega, by omega⟩) ?_
                refine zwW_as ChL1.1 (a1 := 33) (a2 := 33) (n := 8) (lo := -2147483648) (hi := 2147483647) (nx := 128) (by decide +kernel) (by first | decide | exact ⟨by decide, by decide⟩) ib2 (by first | omega | exact ⟨by omega, by omega⟩) ?_
                intro h28 eh28 Ih28
                have Ch28 : CI h28 := ChL1.wc eh28 Ih28 (by decide) (by decide)
                have Qh28 : zXR [(33, 33, 0, 8)] 0 0 hL1 h28 := zXR.wc eh28 rfl ⟨by decide, by decide, Or.inl (by decide)⟩ (by first | omega | exact ⟨by omega, by omega⟩)
                have K127 : ∀ v : Nat, fld h28 33 v = ySN (xOv h) (yEp (yC h)) ((kL1).toNat + 1) 66 v := by
                  intro v
                  rw [fwi eh28 (ChL1.1.s (a1 := 33) (a2 := 33) (k := 20) (n := 8) (by decide +kernel) (by decide) (by decide)) (i := (v8).toNat) (by omega) v, iL1_0 v, show ySN (xOv h) (yEp (yC h)) ((kL1).toNat + 1) 66 v = yS1 (ySN (xOv h) (yEp (yC h)) (kL1).toNat) (yEp (yC h)) (kL1).toNat 66 v from rfl, yS1_66 BT EP3 KT, N79, ← O49]
                  split
                  · rw [← Q123]; rw [N79, ← O49] at V116; omega
                  · rfl
                have Xh28 : zXR msx219_z (0) (0) h h28 := XhL1.tr (c2 := 0) (s2 := 0) Qh28 (by decide +kernel) (by decide) (by decide)
                have Gh28_0 : gH h28 v6 := Gv6.x Qh28
                have Zh28 : yC h28 = (yC h) := (yC_fr ChL1 Qh28 (by decide +kernel) (ChL1.1.b (a1 := 37) (a2 := 37) (j1 := 86) (j2 := 87) (lo := 0) (hi := 6) (by decide +kernel) (r := 37) (j := 86) (by decide) (by decide) (by decide) (by decide)).2).trans iL1_7
                have Jh28 : yR h28 := iL1_8.fr ChL1 Qh28 (by decide +kernel)
                have pv6_h28 : v6 = zv h28 3 kL1.toNat ∧ ((kL1.toNat : Nat) : Int) < fld h28 3 2 := zpv ChL1 Qh28 (A := 3) (by decide) (by decide +kernel) pv6
                refine zwW_p [(1, 5, 0), (1, 10, 0)] (q := 132) (ls' := [(2, 27), (2, 3), (0, a), (0, b), (0, fL1), (0, nL1), (0, kL1), (2, v6), (0, v8), (0, v16), (0, v20)]) (st' := [(0, v20), (0, nL1)]) (by decide +kernel) rfl ?_
                refine zwW_add (nx := 133) (by decide +kernel) (by first | omega | exact ⟨by omega, by omega⟩) ?_
                refine zwW_p [(2, 5, 0), (1, 4, 0), (1, 10, 0)] (q := 139) (ls' := [(2, 27), (2, 3), (0, a), (0, b), (0, fL1), (0, (nL1 + v20)), (0, kL1), (2, v6), (0, v8), (0, v16), (0, v20)]) (st' := [(0, v20), (0, fL1)]) (by decide +kernel) rfl ?_
                refine zwif_le (q := 146) (nx := 142) (by decide +kernel) (fun c29 => ?_) (fun c29 => ?_)
                · refine zwW_p [(0, 0, 0)] (q := 147) (ls' := [(2, 27), (2, 3), (0, a), (0, b), (0, fL1), (0, (nL1 + v20)), (0, kL1), (2, v6), (0, v8), (0, v16), (0, v20)]) (st' := [(0, 0), (0, fL1)]) (by decide +kernel) rfl ?_
                  refine zwW_sub (nx := 148) (by decide +kernel) (by first | omega | exact ⟨by omega, by omega⟩) ?_
                  refine zwW_p [(2, 4, 0)] (q := 150) (ls' := [(2, 27), (2, 3), (0, a), (0, b), (0, (fL1 - 0)), (0, (nL1 + v20)), (0, kL1), (2, v6), (0, v8), (0, v16), (0, v20)]) (st' := []) (by decide +kernel) rfl ?_
                  have Z150 : (∀ v : Nat, fld h28 33 v = ySN (xOv h) (yEp (yC h)) ((kL1).toNat + 1) 66 v) ∧ (fL1 - 0) = 300 - ySN (xOv h) (yEp (yC h)) ((kL1).toNat + 1) 37 64 ∧ (nL1 + v20) = yTo (xOv h) (yEp (yC h)) ((kL1).toNat + 1) := by
                    first
                    | (exfalso; omega)
                    | (have q64 : ySN (xOv h) (yEp (yC h)) ((kL1).toNat + 1) 37 64 = (ySN (xOv h) (yEp (yC h)) (kL1).toNat) 37 64 + (if 0 < yX (ySN (xOv h) (yEp (yC h)) (kL1).toNat) (yEp (yC h)) (kL1).toNat then 1 else 0) := yS1_64; refine ⟨K127, ?_, by omega⟩; rw [q64]; first | (rw [if_pos (by omega)]; omega) | (rw [if_neg (by omega)]; omega))
                  refine zwW_inc (i := 6) (c := 1) (x := kL1) (nx := 153) (by decide +kernel) rfl (by first | omega | exact ⟨by omega, by omega⟩) (ls' := [(2, 27), (2, 3), (0, a), (0, b), (0, (fL1 - 0)), (0, (nL1 + v20)), (0, (kL1 + 1)), (2, v6), (0, v8), (0, v16), (0, v20)]) rfl ?_
                  refine zwW_p [(24, 9, 0)] (q := 9) (ls' := [(2, 27), (2, 3), (0, a), (0, b), (0, (fL1 - 0)), (0, (nL1 + v20)), (0, (kL1 + 1)), (2, v6), (0, v8), (0, v16), (0, v20)]) (st' := []) (by decide +kernel) rfl ?_
                  exact IHL1 ((1000 - (kL1 + 1))).toNat (by omega) (fL1 - 0) (nL1 + v20) (kL1 + 1) (2, v6) (0, v8) (0, v16) (0, v20) h28 rfl (by rw [show (kL1 + 1).toNat = (kL1).toNat + 1 by omega]; exact Z150.1) (by rw [show (kL1 + 1).toNat = (kL1).toNat + 1 by omega]; exact Z150.2.1) (by rw [show (kL1 + 1).toNat = (kL1).toNat + 1 by omega]; exact Z150.2.2) (by omega) (by omega) (by omega) (by omega) (Zh28) (Jh28) Ch28 (Xh28.le (by decide) (by decide))
                · refine zwW_p [(0, 1, 0), (24, 147, 0)] (q := 147) (ls' := [(2, 27), (2, 3), (0, a), (0, b), (0, fL1), (0, (nL1 + v20)), (0, kL1), (2, v6), (0, v8), (0, v16), (0, v20)]) (st' := [(0, 1), (0, fL1)]) (by decide +kernel) rfl ?_
                  refine zwW_sub (nx := 148) (by decide +kernel) (by first | omega | exact ⟨by omega, by omega⟩) ?_
                  refine zwW_p [(2, 4, 0)] (q := 150) (ls' := [(2, 27), (2, 3), (0, a), (0, b), (0, (fL1 - 1)), (0, (nL1 + v20)), (0, kL1), (2, v6), (0, v8), (0, v16), (0, v20)]) (st' := []) (by decide +kernel) rfl ?_
                  have Z150 : (∀ v : Nat, fld h28 33 v = ySN (xOv h) (yEp (yC h)) ((kL1).toNat + 1) 66 v) ∧ (fL1 - 1) = 300 - ySN (xOv h) (yEp (yC h)) ((kL1).toNat + 1) 37 64 ∧ (nL1 + v20) = yTo (xOv h) (yEp (yC h)) ((kL1).toNat + 1) := by
                    first
                    | (exfalso; omega)
                    | (have q64 : ySN (xOv h) (yEp (yC h)) ((kL1).toNat + 1) 37 64 = (ySN (xOv h) (yEp (yC h)) (kL1).toNat) 37 64 + (if 0 < yX (ySN (xOv h) (yEp (yC h)) (kL1).toNat) (yEp (yC h)) (kL1).toNat then 1 else 0) := yS1_64; refine ⟨K127, ?_, by omega⟩; rw [q64]; first | (rw [if_pos (by omega)]; omega) | (rw [if_neg (by omega)]; omega))
                  refine zwW_inc (i := 6) (c := 1) (x := kL1) (nx := 153) (by decide +kernel) rfl (by first | omega | exact ⟨by omega, by omega⟩) (ls' := [(2, 27), (2, 3), (0, a), (0, b), (0, (fL1 - 1)), (0, (nL1 + v20)), (0, (kL1 + 1)), (2, v6), (0, v8), (0, v16), (0, v20)]) rfl ?_
                  refine zwW_p [(24, 9, 0)] (q := 9) (ls' := [(2, 27), (2, 3), (0, a), (0, b), (0, (fL1 - 1)), (0, (nL1 + v20)), (0, (kL1 + 1)), (2, v6), (0, v8), (0, v16), (0, v20)]) (st' := []) (by decide +kernel) rfl ?_
                  exact IHL1 ((1000 - (kL1 + 1))).toNat (by omega) (fL1 - 1) (nL1 + v20) (kL1 + 1) (2, v6) (0, v8) (0, v16) (0, v20) h28 rfl (by rw [show (kL1 + 1).toNat = (kL1).toNat + 1 by omega]; exact Z150.1) (by rw [show (kL1 + 1).toNat = (kL1).toNat + 1 by omega]; exact Z150.2.1) (by rw [show (kL1 + 1).toNat = (kL1).toNat + 1 by omega]; exact Z150.2.2) (by omega) (by omega) (by omega) (by omega) (Zh28) (Jh28) Ch28 (Xh28.le (by decide) (by decide))
  exact L1 _ b 0 0 (9, 0) (9, 0) (9, 0) (9, 0) h rfl (fun v => rfl) (by show _ = 300 - yC h 37 64; omega) (rfl) (by omega) (by omega) (by omega) (by omega) ((rfl : yC h = yC h)) (J) C (X.le (by decide) (by decide))
def msx163_z : Zms := [(27, 27, 1, 2), (27, 27, 2, 3), (27, 27, 3, 4), (31, 31, 0, 20), (32, 32, 0, 20), (33, 33, 0, 8)]
-- WheelLand$Gifts.choose(ILjava/util/ArrayList;Ljava/util/ArrayList;II)V
theorem x163_z {sc : List Int} (h : Hp) (C : CI h) (a b c : Int) (q_a : -2147483648 ≤ a ∧ a ≤ 2147483647) (q_b : -2147483648 ≤ b ∧ b ≤ 2147483647) (q_c : -2147483648 ≤ c ∧ c ≤ 2147483647) (J : yR h) (B : zBs (yC h)) (GF : yGf (yC h)) (p0 : 0 ≤ a) (pb : b = yC h 37 0 / 13 % 4) (pc : c = 300 - yC h 37 64) : zwC sc 6 163 [(2, 27), (0, a), (2, 2), (2, 3), (0, b), (0, c)] h (zwRv (fun g => CI g ∧ zXR msx163_z (0) (0) h g ∧ (fld g 27 1 = (yBst (yC h) a).1 ∧ fld g 27 2 = (yBst (yC h) a).2 ∧ fld g 27 3 = yCst (yC h) (yBst (yC h) a).1) ∧ (yR g))) := by
  refine zwC_of (D := 5) 9 (by decide +kernel) rfl (ls := [(2, 27), (0, a), (2, 2), (2, 3), (0, b), (0, c), (9, 0), (9, 0), (9, 0)]) rfl ?_
  have X : zXR msx163_z 0 0 h h := zXR.rf _ _
  have u0 : yC h 37 0 = fld h 1 0 := rfl
  have u1 : yC h 37 1 = fld h 2 2 := rfl
  have u2 : yC h 37 2 = fld h 3 2 := rfl
  have u64 : yC h 37 64 = fld h 4 2 := rfl
  have u96 : yC h 37 96 = fld h 27 0 := rfl
  have b33 := zLb_3 C
  have b22 := zLb_2 C
  have F96 := GF.1
  obtain ⟨SH, eSH⟩ : ∃ z, zEq z (i_shl 1 (yC h 37 96)) := ⟨_, rfl⟩
  have bSH : 1 ≤ SH ∧ SH ≤ 256 := by rw [show SH = _ from eSH]; exact zshl_le GF.1
  refine zwW_p [(1, 0, 2), (0, -1, 0)] (q := 2) (ls' := [(2, 27), (0, a), (2, 2), (2, 3), (0, b), (0, c), (9, 0), (9, 0), (9, 0)]) (st' := [(0, -1), (2, 27)]) (by decide +kernel) rfl ?_
  refine zwW_ps C.1 (kd := 2) (bn := 1) (n := 10) (lo := -2147483648) (hi := 2147483647) (nx := 5) (by decide +kernel) (by first | decide | exact ⟨by decide, by decide⟩) ?_
  intro h1 eh1 Ih1
  have Ch1 : CI h1 := C.wc eh1 Ih1 (by decide) (by decide)
  have Qh1 : zXR [(27, 27, 1, 2)] 0 0 h h1 := zXR.wc eh1 rfl ⟨by decide, by decide, Or.inl (by decide)⟩ (by first | decide | exact ⟨by decide, by decide⟩)
  have Xh1 : zXR msx163_z (0) (0) h h1 := X.tr (c2 := 0) (s2 := 0) Qh1 (by decide +kernel) (by decide) (by decide)
  have Zh1 : yC h1 = (yC h) := (yC_fr C Qh1 (by decide +kernel) (C.1.b (a1 := 37) (a2 := 37) (j1 := 86) (j2 := 87) (lo := 0) (hi := 6) (by decide +kernel) (r := 37) (j := 86) (by decide) (by decide) (by decide) (by decide)).2).trans (rfl : yC h = yC h)
  have Jh1 : yR h1 := J.fr C Qh1 (by decide +kernel)
  have th1_27_2 : fld h1 27 2 = fld h 27 2 := Qh1.f (a1 := 27) (a2 := 27) (j1 := 2) (j2 := 3) (by decide +kernel) (by first | decide | exact ⟨by decide, by decide⟩) (by first | decide | exact ⟨by decide, by decide⟩) (by first | decide | exact ⟨by decide, by decide⟩)
  have th1_27_3 : fld h1 27 3 = fld h 27 3 := Qh1.f (a1 := 27) (a2 := 27) (j1 := 3) (j2 := 4) (by decide +kernel) (by first | decide | exact ⟨by decide, by decide⟩) (by first | decide | exact ⟨by decide, by decide⟩) (by first | decide | exact ⟨by decide, by decide⟩)
  have th1_27_1 : fld h1 27 1 = -1 := by rw [eh1]; exact fld_wr_eq (C.1.s (a1 := 27) (a2 := 27) (k := 2) (n := 10) (by decide +kernel) (by decide) (by decide)) (by decide)
  refine zwW_p [(1, 0, 2), (0, 0, 0)] (q := 7) (ls' := [(2, 27), (0, a), (2, 2), (2, 3), (0, b), (0, c), (9, 0), (9, 0), (9, 0)]) (st' := [(0, 0), (2, 27)]) (by decide +kernel) rfl ?_
  refine zwW_ps Ch1.1 (kd := 2) (bn := 2) (n := 10) (lo := -2147483648) (hi := 2147483647) (nx := 10) (by decide +kernel) (by first | decide | exact ⟨by decide, by decide⟩) ?_
  intro h2 eh2 Ih2
  have Ch2 : CI h2 := Ch1.wc eh2 Ih2 (by decide) (by decide)
  have Qh2 : zXR [(27, 27, 2, 3)] 0 0 h1 h2 := zXR.wc eh2 rfl ⟨by decide, by decide, Or.inl (by decide)⟩ (by first | decide | exact ⟨by decide, by decide⟩)
  have Xh2 : zXR msx163_z (0) (0) h h2 := Xh1.tr (c2 := 0) (s2 := 0) Qh2 (by decide +kernel) (by decide) (by decide)
  have Zh2 : yC h2 = (yC h) := (yC_fr Ch1 Qh2 (by decide +kernel) (Ch1.1.b (a1 := 37) (a2 := 37) (j1 := 86) (j2 := 87) (lo := 0) (hi := 6) (by decide +kernel) (r := 37) (j := 86) (by decide) (by decide) (by decide) (by decide)).2).trans Zh1
  have Jh2 : yR h2 := Jh1.fr Ch1 Qh2 (by decide +kernel)
  have th2_27_1 : fld h2 27 1 = fld h1 27 1 := Qh2.f (a1 := 27) (a2 := 27) (j1 := 1) (j2 := 2) (by decide +kernel) (by first | decide | exact ⟨by decide, by decide⟩) (by first | decide | exact ⟨by decide, by decide⟩) (by first | decide | exact ⟨by decide, by decide⟩)
  have th2_27_3 : fld h2 27 3 = fld h1 27 3 := Qh2.f (a1 := 27) (a2 := 27) (j1 := 3) (j2 := 4) (by decide +kernel) (by first | decide | exact ⟨by decide, by decide⟩) (by first | decide | exact ⟨by decide, by decide⟩) (by first | decide | exact ⟨by decide, by decide⟩)
  have th2_27_2 : fld h2 27 2 = 0 := by rw [eh2]; exact fld_wr_eq (Ch1.1.s (a1 := 27) (a2 := 27) (k := 2) (n := 10) (by decide +kernel) (by decide) (by decide)) (by decide)
  refine zwW_p [(1, 0, 2), (0, 0, 0)] (q := 12) (ls' := [(2, 27), (0, a), (2, 2), (2, 3), (0, b), (0, c), (9, 0), (9, 0), (9, 0)]) (st' := [(0, 0), (2, 27)]) (by decide +kernel) rfl ?_
  refine zwW_ps Ch2.1 (kd := 2) (bn := 3) (n := 10) (lo := -2147483648) (hi := 2147483647) (nx := 15) (by decide +kernel) (by first | decide | exact ⟨by decide, by decide⟩) ?_
  intro h3 eh3 Ih3
  have Ch3 : CI h3 := Ch2.wc eh3 Ih3 (by decide) (by decide)
  have Qh3 : zXR [(27, 27, 3, 4)] 0 0 h2 h3 := zXR.wc eh3 rfl ⟨by decide, by decide, Or.inl (by decide)⟩ (by first | decide | exact ⟨by decide, by decide⟩)
  have Xh3 : zXR msx163_z (0) (0) h h3 := Xh2.tr (c2 := 0) (s2 := 0) Qh3 (by decide +kernel) (by decide) (by decide)
  have Zh3 : yC h3 = (yC h) := (yC_fr Ch2 Qh3 (by decide +kernel) (Ch2.1.b (a1 := 37) (a2 := 37) (j1 := 86) (j2 := 87) (lo := 0) (hi := 6) (by decide +kernel) (r := 37) (j := 86) (by decide) (by decide) (by decide) (by decide)).2).trans Zh2
  have Jh3 : yR h3 := Jh2.fr Ch2 Qh3 (by decide +kernel)
  have th3_27_1 : fld h3 27 1 = fld h2 27 1 := Qh3.f (a1 := 27) (a2 := 27) (j1 := 1) (j2 := 2) (by decide +kernel) (by first | decide | exact ⟨by decide, by decide⟩) (by first | decide | exact ⟨by decide, by decide⟩) (by first | decide | exact ⟨by decide, by decide⟩)
  have th3_27_2 : fld h3 27 2 = fld h2 27 2 := Qh3.f (a1 := 27) (a2 := 27) (j1 := 2) (j2 := 3) (by decide +kernel) (by first | decide | exact ⟨by decide, by decide⟩) (by first | decide | exact ⟨by decide, by decide⟩) (by first | decide | exact ⟨by decide, by decide⟩)
  have th3_27_3 : fld h3 27 3 = 0 := by rw [eh3]; exact fld_wr_eq (Ch2.1.s (a1 := 27) (a2 := 27) (k := 2) (n := 10) (by decide +kernel) (by decide) (by decide)) (by decide)
  refine zwW_p [(0, 0, 0), (2, 6, 0)] (q := 18) (ls' := [(2, 27), (0, a), (2, 2), (2, 3), (0, b), (0, c), (0, 0), (9, 0), (9, 0)]) (st' := []) (by decide +kernel) rfl ?_
  have L4 : ∀ (n0 : Nat) (tL4 : Int) (w7L4 w8L4 : Vl) (hL4 : Hp), n0 = ((1000 - tL4)).toNat → (yBst0 (yC h) a tL4 (fld hL4 27 1) (fld hL4 27 2) (fld hL4 27 3)) → (tL4 ≤ SH) → (0 ≤ tL4 ∧ tL4 ≤ 256) → (yC hL4 = (yC h)) → (yR hL4) → CI hL4 → zXR msx163_z (0) (0) h hL4 → zwW sc (5) 163 18 [(2, 27), (0, a), (2, 2), (2, 3), (0, b), (0, c), (0, tL4), w7L4, w8L4] [] hL4 (zwRv (fun g => CI g ∧ zXR msx163_z (0) (0) h g ∧ (fld g 27 1 = (yBst (yC h) a).1 ∧ fld g 27 2 = (yBst (yC h) a).2 ∧ fld g 27 3 = yCst (yC h) (yBst (yC h) a).1) ∧ (yR g))) := by
    intro n0
    induction n0 using Nat.strongRecOn with
    | ind n0 IHL4 =>
      intro tL4 w7L4 w8L4 hL4 hnL4 iL4_0 iL4_1 iL4_2 iL4_3 iL4_4 ChL4 XhL4
      refine zwW_p [(1, 6, 0), (0, 1, 0), (1, 0, 2)] (q := 22) (ls' := [(2, 27), (0, a), (2, 2), (2, 3), (0, b), (0, c), (0, tL4), w7L4, w8L4]) (st' := [(2, 27), (0, 1), (0, tL4)]) (by decide +kernel) rfl ?_
      refine zwW_gs ChL4.1 (kd := 2) (bn := 0) (n := 10) (t := 0) (lo := 0) (hi := 8) (nx := 25) (by decide +kernel) ?_
      intro v5 ev5 lv5 uv5
      have sv5 : v5 = (yC h) 37 96 := Eq.trans ev5 (Eq.trans (Eq.symm (yC_s (h := hL4) (i := 96) rfl)) (Eq.trans (congrFun (congrFun iL4_3 37) 96) rfl))
      refine zwW_ib (a := 8) (nx := 26) (by decide +kernel) rfl ?_
      generalize gw26 : (i_shl 1 v5) = w26
      have S26 : w26 = SH := by rw [← gw26, show SH = _ from eSH, ← sv5]
      clear gw26
      refine zwic_ge (q := 126) (nx := 29) (by decide +kernel) (fun c6 => ?_) (fun c6 => ?_)
      · refine zwW_retv (nx := 127) (a := 0) (b := 0) (by decide +kernel) ?_
        exact ⟨ChL4, XhL4.le (by decide) (by decide), by exact iL4_0.end ((show tL4 = SH by omega).trans eSH) (by omega), by exact iL4_4⟩
      · refine zwW_p [(1, 0, 2), (1, 6, 0)] (q := 32) (ls' := [(2, 27), (0, a), (2, 2), (2, 3), (0, b), (0, c), (0, tL4), w7L4, w8L4]) (st' := [(0, tL4), (2, 27)]) (by decide +kernel) rfl ?_
        refine zwW_cm ChL4.1 (op := 60) (k' := 216) (n := 1) (kd := 2) (m := 10) (nx := 35) (r := 27) (tl := [(0, tL4)]) (st' := []) (by decide +kernel) rfl (by decide +kernel) rfl (x216_z hL4 ChL4 tL4 (by omega) iL4_4 (by rw [iL4_3]; exact GF)) ?_
        rintro v7 _ ⟨rfl, f8, f9⟩
        have sv7 : v7 = yCst (yC h) tL4 := by rw [f9, iL4_3]
        refine zwW_p [(2, 7, 0)] (q := 37) (ls' := [(2, 27), (0, a), (2, 2), (2, 3), (0, b), (0, c), (0, tL4), (0, v7), w8L4]) (st' := []) (by decide +kernel) rfl ?_
        have P35 : zEq v7 (yCst (yC h) tL4) := sv7
        clear sv7 f9
        refine zwW_p [(1, 7, 0), (1, 1, 0)] (q := 40) (ls' := [(2, 27), (0, a), (2, 2), (2, 3), (0, b), (0, c), (0, tL4), (0, v7), w8L4]) (st' := [(0, a), (0, v7)]) (by decide +kernel) rfl ?_
        refine zwic_gt (q := 120) (nx := 43) (by decide +kernel) (fun c10 => ?_) (fun c10 => ?_)
        · have K120 : yBst0 (yC h) a (tL4 + 1) (fld hL4 27 1) (fld hL4 27 2) (fld hL4 27 3) := by
            first
            | (rw [show fld hL4 27 1 = tL4 by omega, show fld hL4 27 2 = a by omega, show fld hL4 27 3 = v7 by omega]; exact iL4_0.yes GF (by omega) p0 P35 A62 (by omega) (by omega) B)
            | (rw [show fld hL4 27 1 = fld hL4 27 1 by omega, show fld hL4 27 2 = fld hL4 27 2 by omega, show fld hL4 27 3 = fld hL4 27 3 by omega]; first | exact iL4_0.no GF (by omega) p0 P35 (Or.inr A62) (by omega) | exact iL4_0.no (s := 0) GF (by omega) p0 P35 (Or.inl (by omega)) (Or.inl (by omega)))
          refine zwW_inc (i := 6) (c := 1) (x := tL4) (nx := 123) (by decide +kernel) rfl (by first | omega | exact ⟨by omega, by omega⟩) (ls' := [(2, 27), (0, a), (2, 2), (2, 3), (0, b), (0, c), (0, (tL4 + 1)), (0, v7), w8L4]) rfl ?_
          refine zwW_p [(24, 18, 0)] (q := 18) (ls' := [(2, 27), (0, a), (2, 2), (2, 3), (0, b), (0, c), (0, (tL4 + 1)), (0, v7), w8L4]) (st' := []) (by decide +kernel) rfl ?_
          exact IHL4 ((1000 - (tL4 + 1))).toNat (by omega) (tL4 + 1) (0, v7) w8L4 hL4 rfl (K120) (by omega) (by omega) (iL4_3) (iL4_4) ChL4 (XhL4.le (by decide) (by decide))
        · refine zwW_p [(1, 0, 2), (1, 2, 2), (1, 3, 2)] (q := 46) (ls' := [(2, 27), (0, a), (2, 2), (2, 3), (0, b), (0, c), (0, tL4), (0, v7), w8L4]) (st' := [(2, 3), (2, 2), (2, 27)]) (by decide +kernel) rfl ?_
          have Z46 := iL4_3
          refine zwW_cmv ChL4.1 (op := 60) (k' := 217) (n := 2) (kd := 2) (m := 10) (nx := 49) (r := 27) (tl := [(2, 2), (2, 3)]) (st' := []) (by decide +kernel) rfl (by decide +kernel) rfl (x217_z hL4 ChL4 iL4_4) ?_
          rintro h13 ⟨Ch13, Qh13, f11, f12⟩
          have Zh13 : yC h13 = (yC h) := (yC_fr ChL4 Qh13 (by decide +kernel) (ChL4.1.b (a1 := 37) (a2 := 37) (j1 := 86) (j2 := 87) (lo := 0) (hi := 6) (by decide +kernel) (r := 37) (j := 86) (by decide) (by decide) (by decide) (by decide)).2).trans iL4_3
          have Xh13 : zXR msx163_z (0) (0) h h13 := XhL4.tr (c2 := 0) (s2 := 0) Qh13 (by decide +kernel) (by decide) (by decide)
          have th13_27_1 : fld h13 27 1 = fld hL4 27 1 := Qh13.f (a1 := 27) (a2 := 27) (j1 := 1) (j2 := 2) (by decide +kernel) (by first | decide | exact ⟨by decide, by decide⟩) (by first | decide | exact ⟨by decide, by decide⟩) (by first | decide | exact ⟨by decide, by decide⟩)
          have th13_27_2 : fld h13 27 2 = fld hL4 27 2 := Qh13.f (a1 := 27) (a2 := 27) (j1 := 2) (j2 := 3) (by decide +kernel) (by first | decide | exact ⟨by decide, by decide⟩) (by first | decide | exact ⟨by decide, by decide⟩) (by first | decide | exact ⟨by decide, by decide⟩)
          have th13_27_3 : fld h13 27 3 = fld hL4 27 3 := Qh13.f (a1 := 27) (a2 := 27) (j1 := 3) (j2 := 4) (by decide +kernel) (by first | decide | exact ⟨by decide, by decide⟩) (by first | decide | exact ⟨by decide, by decide⟩) (by first | decide | exact ⟨by decide, by decide⟩)
          have A46 : zAg (xOv h13) (yC h) := by
            have z := f11
            rw [Z46] at z
            exact z
          have B46 := zBs.cg A46.sy B
          refine zwW_p [(1, 0, 2), (1, 6, 0), (1, 3, 2)] (q := 53) (ls' := [(2, 27), (0, a), (2, 2), (2, 3), (0, b), (0, c), (0, tL4), (0, v7), w8L4]) (st' := [(2, 3), (0, tL4), (2, 27)]) (by decide +kernel) rfl ?_
          have Z53 := Zh13
          have GX53 : yGf (xOv h13) := yGf.ox (by rw [Zh13]; exact GF)
          refine zwW_cmv Ch13.1 (op := 60) (k' := 218) (n := 2) (kd := 2) (m := 10) (nx := 56) (r := 27) (tl := [(0, tL4), (2, 3)]) (st' := []) (by decide +kernel) rfl (by decide +kernel) rfl (x218_z h13 Ch13 tL4 (by omega) f12 B46 (by rw [Z53]; exact GF)) ?_
          rintro h16 ⟨Ch16, Qh16, f14, f15⟩
          have Zh16 : yC h16 = (yC h) := (yC_fr Ch13 Qh16 (by decide +kernel) (Ch13.1.b (a1 := 37) (a2 := 37) (j1 := 86) (j2 := 87) (lo := 0) (hi := 6) (by decide +kernel) (r := 37) (j := 86) (by decide) (by decide) (by decide) (by decide)).2).trans Zh13
          have Xh16 : zXR msx163_z (0) (0) h h16 := Xh13.tr (c2 := 0) (s2 := 0) Qh16 (by decide +kernel) (by decide) (by decide)
          have th16_27_1 : fld h16 27 1 = fld h13 27 1 := Qh16.f (a1 := 27) (a2 := 27) (j1 := 1) (j2 := 2) (by decide +kernel) (by first | decide | exact ⟨by decide, by decide⟩) (by first | decide | exact ⟨by decide, by decide⟩) (by first | decide | exact ⟨by decide, by decide⟩)
          have th16_27_2 : fld h16 27 2 = fld h13 27 2 := Qh16.f (a1 := 27) (a2 := 27) (j1 := 2) (j2 := 3) (by decide +kernel) (by first | decide | exact ⟨by decide, by decide⟩) (by first | decide | exact ⟨by decide, by decide⟩) (by first | decide | exact ⟨by decide, by decide⟩)
          have th16_27_3 : fld h16 27 3 = fld h13 27 3 := Qh16.f (a1 := 27) (a2 := 27) (j1 := 3) (j2 := 4) (by decide +kernel) (by first | decide | exact ⟨by decide, by decide⟩) (by first | decide | exact ⟨by decide, by decide⟩) (by first | decide | exact ⟨by decide, by decide⟩)
          have G53 : xOv h16 = yGN (xOv h13) tL4 (yC h 37 96).toNat := by
            have z := f14
            rw [Z53] at z
            exact z
          refine zwW_p [(1, 0, 2), (1, 3, 2), (1, 4, 0), (1, 5, 0)] (q := 62) (ls' := [(2, 27), (0, a), (2, 2), (2, 3), (0, b), (0, c), (0, tL4), (0, v7), w8L4]) (st' := [(0, c), (0, b), (2, 3), (2, 27)]) (by decide +kernel) rfl ?_
          have Z62 := Zh16
          refine zwW_cm Ch16.1 (op := 60) (k' := 219) (n := 3) (kd := 2) (m := 10) (nx := 65) (r := 27) (tl := [(2, 3), (0, b), (0, c)]) (st' := []) (by decide +kernel) rfl (by decide +kernel) rfl (x219_z h16 Ch16 b c (by omega) (by omega) f15 (by rw [G53]; exact B46.gn GX53 _ (by rw [xOv_na (a := 37) (by decide) (by decide) (by decide), Z53]; omega)) (by rw [Z62]; exact pb) (by rw [Z62]; exact pc)) ?_
          rintro v20 h21 ⟨Ch21, Qh21, f17, f18, f19⟩
          have Zh21 : yC h21 = (yC h) := (yC_fr Ch16 Qh21 (by decide +kernel) (Ch16.1.b (a1 := 37) (a2 := 37) (j1 := 86) (j2 := 87) (lo := 0) (hi := 6) (by decide +kernel) (r := 37) (j := 86) (by decide) (by decide) (by decide) (by decide)).2).trans Zh16
          have Xh21 : zXR msx163_z (0) (0) h h21 := Xh16.tr (c2 := 0) (s2 := 0) Qh21 (by decide +kernel) (by decide) (by decide)
          have th21_27_1 : fld h21 27 1 = fld h16 27 1 := Qh21.f (a1 := 27) (a2 := 27) (j1 := 1) (j2 := 2) (by decide +kernel) (by first | decide | exact ⟨by decide, by decide⟩) (by first | decide | exact ⟨by decide, by decide⟩) (by first | decide | exact ⟨by decide, by decide⟩)
          have th21_27_2 : fld h21 27 2 = fld h16 27 2 := Qh21.f (a1 := 27) (a2 := 27) (j1 := 2) (j2 := 3) (by decide +kernel) (by first | decide | exact ⟨by decide, by decide⟩) (by first | decide | exact ⟨by decide, by decide⟩) (by first | decide | exact ⟨by decide, by decide⟩)
          have th21_27_3 : fld h21 27 3 = fld h16 27 3 := Qh21.f (a1 := 27) (a2 := 27) (j1 := 3) (j2 := 4) (by decide +kernel) (by first | decide | exact ⟨by decide, by decide⟩) (by first | decide | exact ⟨by decide, by decide⟩) (by first | decide | exact ⟨by decide, by decide⟩)
          have A62 : zEq v20 (ySpn (yC h) tL4) := by
            have z := f18
            rw [Z62, G53] at z
            exact z.trans (ySpn_ag A46 B GF (fun k _ => by rw [xOv_na (a := 364) (by decide) (by decide) (by decide), xOv_na (a := 365) (by decide) (by decide) (by decide), Z53]; exact ⟨rfl, rfl⟩))
          refine zwW_p [(2, 8, 0)] (q := 67) (ls' := [(2, 27), (0, a), (2, 2), (2, 3), (0, b), (0, c), (0, tL4), (0, v7), (0, v20)]) (st' := []) (by decide +kernel) rfl ?_
          clear f18
          refine zwW_p [(1, 0, 2)] (q := 68) (ls' := [(2, 27), (0, a), (2, 2), (2, 3), (0, b), (0, c), (0, tL4), (0, v7), (0, v20)]) (st' := [(2, 27)]) (by decide +kernel) rfl ?_
          refine zwW_gs Ch21.1 (kd := 2) (bn := 1) (n := 10) (t := 0) (lo := -2147483648) (hi := 2147483647) (nx := 71) (by decide +kernel) ?_
          intro v22 ev22 lv22 uv22
          refine zwW_p [(0, -1, 0)] (q := 72) (ls' := [(2, 27), (0, a), (2, 2), (2, 3), (0, b), (0, c), (0, tL4), (0, v7), (0, v20)]) (st' := [(0, -1), (0, v22)]) (by decide +kernel) rfl ?_
          refine zwic_eq (q := 102) (nx := 75) (by decide +kernel) (fun c23 => ?_) (fun c23 => ?_)
          · refine zwW_p [(1, 0, 2), (1, 6, 0)] (q := 105) (ls' := [(2, 27), (0, a), (2, 2), (2, 3), (0, b), (0, c), (0, tL4), (0, v7), (0, v20)]) (st' := [(0, tL4), (2, 27)]) (by decide +kernel) rfl ?_
            refine zwW_ps Ch21.1 (kd := 2) (bn := 1) (n := 10) (lo := -2147483648) (hi := 2147483647) (nx := 108) (by decide +kernel) (by first | omega | exact ⟨by omega, by omega⟩) ?_
            intro h24 eh24 Ih24
            have Ch24 : CI h24 := Ch21.wc eh24 Ih24 (by decide) (by decide)
            have Qh24 : zXR [(27, 27, 1, 2)] 0 0 h21 h24 := zXR.wc eh24 rfl ⟨by decide, by decide, Or.inl (by decide)⟩ (by first | decide | exact ⟨by decide, by decide⟩)
            have Xh24 : zXR msx163_z (0) (0) h h24 := Xh21.tr (c2 := 0) (s2 := 0) Qh24 (by decide +kernel) (by decide) (by decide)
            have Zh24 : yC h24 = (yC h) := (yC_fr Ch21 Qh24 (by decide +kernel) (Ch21.1.b (a1 := 37) (a2 := 37) (j1 := 86) (j2 := 87) (lo := 0) (hi := 6) (by decide +kernel) (r := 37) (j := 86) (by decide) (by decide) (by decide) (by decide)).2).trans Zh21
            have Jh24 : yR h24 := f19.fr Ch21 Qh24 (by decide +kernel)
            have th24_27_2 : fld h24 27 2 = fld h21 27 2 := Qh24.f (a1 := 27) (a2 := 27) (j1 := 2) (j2 := 3) (by decide +kernel) (by first | decide | exact ⟨by decide, by decide⟩) (by first | decide | exact ⟨by decide, by decide⟩) (by first | decide | exact ⟨by decide, by decide⟩)
            have th24_27_3 : fld h24 27 3 = fld h21 27 3 := Qh24.f (a1 := 27) (a2 := 27) (j1 := 3) (j2 := 4) (by decide +kernel) (by first | decide | exact ⟨by decide, by decide⟩) (by first | decide | exact ⟨by decide, by decide⟩) (by first | decide | exact ⟨by decide, by decide⟩)
            have th24_27_1 : fld h24 27 1 = tL4 := by rw [eh24]; exact fld_wr_eq (Ch21.1.s (a1 := 27) (a2 := 27) (k := 2) (n := 10) (by decide +kernel) (by decide) (by decide)) (by decide)
            refine zwW_p [(1, 0, 2), (1, 8, 0)] (q := 111) (ls' := [(2, 27), (0, a), (2, 2), (2, 3), (0, b), (0, c), (0, tL4), (0, v7), (0, v20)]) (st' := [(0, v20), (2, 27)]) (by decide +kernel) rfl ?_
            refine zwW_ps Ch24.1 (kd := 2) (bn := 2) (n := 10) (lo := -2147483648) (hi := 2147483647) (nx := 114) (by decide +kernel) (by first | omega | exact ⟨by omega, by omega⟩) ?_
            intro h25 eh25 Ih25
            have Ch25 : CI h25 := Ch24.wc eh25 Ih25 (by decide) (by decide)
            have Qh25 : zXR [(27, 27, 2, 3)] 0 0 h24 h25 := zXR.wc eh25 rfl ⟨by decide, by decide, Or.inl (by decide)⟩ (by first | decide | exact ⟨by decide, by decide⟩)
            have Xh25 : zXR msx163_z (0) (0) h h25 := Xh24.tr (c2 := 0) (s2 := 0) Qh25 (by decide +kernel) (by decide) (by decide)
            have Zh25 : yC h25 = (yC h) := (yC_fr Ch24 Qh25 (by decide +kernel) (Ch24.1.b (a1 := 37) (a2 := 37) (j1 := 86) (j2 := 87) (lo := 0) (hi := 6) (by decide +kernel) (r := 37) (j := 86) (by decide) (by decide) (by decide) (by decide)).2).trans Zh24
            have Jh25 : yR h25 := Jh24.fr Ch24 Qh25 (by decide +kernel)
            have th25_27_1 : fld h25 27 1 = fld h24 27 1 := Qh25.f (a1 := 27) (a2 := 27) (j1 := 1) (j2 := 2) (by decide +kernel) (by first | decide | exact ⟨by decide, by decide⟩) (by first | decide | exact ⟨by decide, by decide⟩) (by first | decide | exact ⟨by decide, by decide⟩)
            have th25_27_3 : fld h25 27 3 = fld h24 27 3 := Qh25.f (a1 := 27) (a2 := 27) (j1 := 3) (j2 := 4) (by decide +kernel) (by first | decide | exact ⟨by decide, by decide⟩) (by first | decide | exact ⟨by decide, by decide⟩) (by first | decide | exact ⟨by decide, by decide⟩)
            have th25_27_2 : fld h25 27 2 = v20 := by rw [eh25]; exact fld_wr_eq (Ch24.1.s (a1 := 27) (a2 := 27) (k := 2) (n := 10) (by decide +kernel) (by decide) (by decide)) (by decide)
            refine zwW_p [(1, 0, 2), (1, 7, 0)] (q := 117) (ls' := [(2, 27), (0, a), (2, 2), (2, 3), (0, b), (0, c), (0, tL4), (0, v7), (0, v20)]) (st' := [(0, v7), (2, 27)]) (by decide +kernel) rfl ?_
            refine zwW_ps Ch25.1 (kd := 2) (bn := 3) (n := 10) (lo := -2147483648) (hi := 2147483647) (nx := 120) (by decide +kernel) (by first | omega | exact ⟨by omega, by omega⟩) ?_
            intro h26 eh26 Ih26
            have Ch26 : CI h26 := Ch25.wc eh26 Ih26 (by decide) (by decide)
            have Qh26 : zXR [(27, 27, 3, 4)] 0 0 h25 h26 := zXR.wc eh26 rfl ⟨by decide, by decide, Or.inl (by decide)⟩ (by first | decide | exact ⟨by decide, by decide⟩)
            have Xh26 : zXR msx163_z (0) (0) h h26 := Xh25.tr (c2 := 0) (s2 := 0) Qh26 (by decide +kernel) (by decide) (by decide)
            have Zh26 : yC h26 = (yC h) := (yC_fr Ch25 Qh26 (by decide +kernel) (Ch25.1.b (a1 := 37) (a2 := 37) (j1 := 86) (j2 := 87) (lo := 0) (hi := 6) (by decide +kernel) (r := 37) (j := 86) (by decide) (by decide) (by decide) (by decide)).2).trans Zh25
            have Jh26 : yR h26 := Jh25.fr Ch25 Qh26 (by decide +kernel)
            have th26_27_1 : fld h26 27 1 = fld h25 27 1 := Qh26.f (a1 := 27) (a2 := 27) (j1 := 1) (j2 := 2) (by decide +kernel) (by first | decide | exact ⟨by decide, by decide⟩) (by first | decide | exact ⟨by decide, by decide⟩) (by first | decide | exact ⟨by decide, by decide⟩)
            have th26_27_2 : fld h26 27 2 = fld h25 27 2 := Qh26.f (a1 := 27) (a2 := 27) (j1 := 2) (j2 := 3) (by decide +kernel) (by first | decide | exact ⟨by decide, by decide⟩) (by first | decide | exact ⟨by decide, by decide⟩) (by first | decide | exact ⟨by decide, by decide⟩)
            have th26_27_3 : fld h26 27 3 = v7 := by rw [eh26]; exact fld_wr_eq (Ch25.1.s (a1 := 27) (a2 := 27) (k := 2) (n := 10) (by decide +kernel) (by decide) (by decide)) (by decide)
            have K120 : yBst0 (yC h) a (tL4 + 1) (fld h26 27 1) (fld h26 27 2) (fld h26 27 3) := by
              first
              | (rw [show fld h26 27 1 = tL4 by omega, show fld h26 27 2 = v20 by omega, show fld h26 27 3 = v7 by omega]; exact iL4_0.yes GF (by omega) p0 P35 A62 (by omega) (by omega) B)
              | (rw [show fld h26 27 1 = fld hL4 27 1 by omega, show fld h26 27 2 = fld hL4 27 2 by omega, show fld h26 27 3 = fld hL4 27 3 by omega]; first | exact iL4_0.no GF (by omega) p0 P35 (Or.inr A62) (by omega) | exact iL4_0.no (s := 0) GF (by omega) p0 P35 (Or.inl (by omega)) (Or.inl (by omega)))
            refine zwW_inc (i := 6) (c := 1) (x := tL4) (nx := 123) (by decide +kernel) rfl (by first | omega | exact ⟨by omega, by omega⟩) (ls' := [(2, 27), (0, a), (2, 2), (2, 3), (0, b), (0, c), (0, (tL4 + 1)), (0, v7), (0, v20)]) rfl ?_
            refine zwW_p [(24, 18, 0)] (q := 18) (ls' := [(2, 27), (0, a), (2, 2), (2, 3), (0, b), (0, c), (0, (tL4 + 1)), (0, v7), (0, v20)]) (st' := []) (by decide +kernel) rfl ?_
            exact IHL4 ((1000 - (tL4 + 1))).toNat (by omega) (tL4 + 1) (0, v7) (0, v20) h26 rfl (K120) (by omega) (by omega) (Zh26) (Jh26) Ch26 (Xh26.le (by decide) (by decide))
          · refine zwW_p [(1, 8, 0), (1, 0, 2)] (q := 78) (ls' := [(2, 27), (0, a), (2, 2), (2, 3), (0, b), (0, c), (0, tL4), (0, v7), (0, v20)]) (st' := [(2, 27), (0, v20)]) (by decide +kernel) rfl ?_
            refine zwW_gs Ch21.1 (kd := 2) (bn := 2) (n := 10) (t := 0) (lo := -2147483648) (hi := 2147483647) (nx := 81) (by decide +kernel) ?_
            intro v27 ev27 lv27 uv27
            refine zwic_gt (q := 102) (nx := 84) (by decide +kernel) (fun c28 => ?_) (fun c28 => ?_)
            · refine zwW_p [(1, 0, 2), (1, 6, 0)] (q := 105) (ls' := [(2, 27), (0, a), (2, 2), (2, 3), (0, b), (0, c), (0, tL4), (0, v7), (0, v20)]) (st' := [(0, tL4), (2, 27)]) (by decide +kernel) rfl ?_
              refine zwW_ps Ch21.1 (kd := 2) (bn := 1) (n := 10) (lo := -2147483648) (hi := 2147483647) (nx := 108) (by decide +kernel) (by first | omega | exact ⟨by omega, by omega⟩) ?_
              intro h29 eh29 Ih29
              have Ch29 : CI h29 := Ch21.wc eh29 Ih29 (by decide) (by decide)
              have Qh29 : zXR [(27, 27, 1, 2)] 0 0 h21 h29 := zXR.wc eh29 rfl ⟨by decide, by decide, Or.inl (by decide)⟩ (by first | decide | exact ⟨by decide, by decide⟩)
              have Xh29 : zXR msx163_z (0) (0) h h29 := Xh21.tr (c2 := 0) (s2 := 0) Qh29 (by decide +kernel) (by decide) (by decide)
              have Zh29 : yC h29 = (yC h) := (yC_fr Ch21 Qh29 (by decide +kernel) (Ch21.1.b (a1 := 37) (a2 := 37) (j1 := 86) (j2 := 87) (lo := 0) (hi := 6) (by decide +kernel) (r := 37) (j := 86) (by decide) (by decide) (by decide) (by decide)).2).trans Zh21
              have Jh29 : yR h29 := f19.fr Ch21 Qh29 (by decide +kernel)
              have th29_27_2 : fld h29 27 2 = fld h21 27 2 := Qh29.f (a1 := 27) (a2 := 27) (j1 := 2) (j2 := 3) (by decide +kernel) (by first | decide | exact ⟨by decide, by decide⟩) (by first | decide | exact ⟨by decide, by decide⟩) (by first | decide | exact ⟨by decide, by decide⟩)
              have th29_27_3 : fld h29 27 3 = fld h21 27 3 := Qh29.f (a1 := 27) (a2 := 27) (j1 := 3) (j2 := 4) (by decide +kernel) (by first | decide | exact ⟨by decide, by decide⟩) (by first | decide | exact ⟨by decide, by decide⟩) (by first | decide | exact ⟨by decide, by decide⟩)
              have th29_27_1 : fld h29 27 1 = tL4 := by rw [eh29]; exact fld_wr_eq (Ch21.1.s (a1 := 27) (a2 := 27) (k := 2) (n := 10) (by decide +kernel) (by decide) (by decide)) (by decide)
              refine zwW_p [(1, 0, 2), (1, 8, 0)] (q := 111) (ls' := [(2, 27), (0, a), (2, 2), (2, 3), (0, b), (0, c), (0, tL4), (0, v7), (0, v20)]) (st' := [(0, v20), (2, 27)]) (by decide +kernel) rfl ?_
              refine zwW_ps Ch29.1 (kd := 2) (bn := 2) (n := 10) (lo := -2147483648) (hi := 2147483647) (nx := 114) (by decide +kernel) (by first | omega | exact ⟨by omega, by omega⟩) ?_
              intro h30 eh30 Ih30
              have Ch30 : CI h30 := Ch29.wc eh30 Ih30 (by decide) (by decide)
              have Qh30 : zXR [(27, 27, 2, 3)] 0 0 h29 h30 := zXR.wc eh30 rfl ⟨by decide, by decide, Or.inl (by decide)⟩ (by first | decide | exact ⟨by decide, by decide⟩)
              have Xh30 : zXR msx163_z (0) (0) h h30 := Xh29.tr (c2 := 0) (s2 := 0) Qh30 (by decide +kernel) (by decide) (by decide)
              have Zh30 : yC h30 = (yC h) := (yC_fr Ch29 Qh30 (by decide +kernel) (Ch29.1.b (a1 := 37) (a2 := 37) (j1 := 86) (j2 := 87) (lo := 0) (hi := 6) (by decide +kernel) (r := 37) (j := 86) (by decide) (by decide) (by decide) (by decide)).2).trans Zh29
              have Jh30 : yR h30 := Jh29.fr Ch29 Qh30 (by decide +kernel)
              have th30_27_1 : fld h30 27 1 = fld h29 27 1 := Qh30.f (a1 := 27) (a2 := 27) (j1 := 1) (j2 := 2) (by decide +kernel) (by first | decide | exact ⟨by decide, by decide⟩) (by first | decide | exact ⟨by decide, by decide⟩) (by first | decide | exact ⟨by decide, by decide⟩)
              have th30_27_3 : fld h30 27 3 = fld h29 27 3 := Qh30.f (a1 := 27) (a2 := 27) (j1 := 3) (j2 := 4) (by decide +kernel) (by first | decide | exact ⟨by decide, by decide⟩) (by first | decide | exact ⟨by decide, by decide⟩) (by first | decide | exact ⟨by decide, by decide⟩)
              have th30_27_2 : fld h30 27 2 = v20 := by rw [eh30]; exact fld_wr_eq (Ch29.1.s (a1 := 27) (a2 := 27) (k := 2) (n := 10) (by decide +kernel) (by decide) (by decide)) (by decide)
              refine zwW_p [(1, 0, 2), (1, 7, 0)] (q := 117) (ls' := [(2, 27), (0, a), (2, 2), (2, 3), (0, b), (0, c), (0, tL4), (0, v7), (0, v20)]) (st' := [(0, v7), (2, 27)]) (by decide +kernel) rfl ?_
              refine zwW_ps Ch30.1 (kd := 2) (bn := 3) (n := 10) (lo := -2147483648) (hi := 2147483647) (nx := 120) (by decide +kernel) (by first | omega | exact ⟨by omega, by omega⟩) ?_
              intro h31 eh31 Ih31
              have Ch31 : CI h31 := Ch30.wc eh31 Ih31 (by decide) (by decide)
              have Qh31 : zXR [(27, 27, 3, 4)] 0 0 h30 h31 := zXR.wc eh31 rfl ⟨by decide, by decide, Or.inl (by decide)⟩ (by first | decide | exact ⟨by decide, by decide⟩)
              have Xh31 : zXR msx163_z (0) (0) h h31 := Xh30.tr (c2 := 0) (s2 := 0) Qh31 (by decide +kernel) (by decide) (by decide)
              have Zh31 : yC h31 = (yC h) := (yC_fr Ch30 Qh31 (by decide +kernel) (Ch30.1.b (a1 := 37) (a2 := 37) (j1 := 86) (j2 := 87) (lo := 0) (hi := 6) (by decide +kernel) (r := 37) (j := 86) (by decide) (by decide) (by decide) (by decide)).2).trans Zh30
              have Jh31 : yR h31 := Jh30.fr Ch30 Qh31 (by decide +kernel)
              have th31_27_1 : fld h31 27 1 = fld h30 27 1 := Qh31.f (a1 := 27) (a2 := 27) (j1 := 1) (j2 := 2) (by decide +kernel) (by first | decide | exact ⟨by decide, by decide⟩) (by first | decide | exact ⟨by decide, by decide⟩) (by first | decide | exact ⟨by decide, by decide⟩)
              have th31_27_2 : fld h31 27 2 = fld h30 27 2 := Qh31.f (a1 := 27) (a2 := 27) (j1 := 2) (j2 := 3) (by decide +kernel) (by first | decide | exact ⟨by decide, by decide⟩) (by first | decide | exact ⟨by decide, by decide⟩) (by first | decide | exact ⟨by decide, by decide⟩)
              have th31_27_3 : fld h31 27 3 = v7 := by rw [eh31]; exact fld_wr_eq (Ch30.1.s (a1 := 27) (a2 := 27) (k := 2) (n := 10) (by decide +kernel) (by decide) (by decide)) (by decide)
              have K120 : yBst0 (yC h) a (tL4 + 1) (fld h31 27 1) (fld h31 27 2) (fld h31 27 3) := by
                first
                | (rw [show fld h31 27 1 = tL4 by omega, show fld h31 27 2 = v20 by omega, show fld h31 27 3 = v7 by omega]; exact iL4_0.yes GF (by omega) p0 P35 A62 (by omega) (by omega) B)
                | (rw [show fld h31 27 1 = fld hL4 27 1 by omega, show fld h31 27 2 = fld hL4 27 2 by omega, show fld h31 27 3 = fld hL4 27 3 by omega]; first | exact iL4_0.no GF (by omega) p0 P35 (Or.inr A62) (by omega) | exact iL4_0.no (s := 0) GF (by omega) p0 P35 (Or.inl (by omega)) (Or.inl (by omega)))
              refine zwW_inc (i := 6) (c := 1) (x := tL4) (nx := 123) (by decide +kernel) rfl (by first | omega | exact ⟨by omega, by omega⟩) (ls' := [(2, 27), (0, a), (2, 2), (2, 3), (0, b), (0, c), (0, (tL4 + 1)), (0, v7), (0, v20)]) rfl ?_
              refine zwW_p [(24, 18, 0)] (q := 18) (ls' := [(2, 27), (0, a), (2, 2), (2, 3), (0, b), (0, c), (0, (tL4 + 1)), (0, v7), (0, v20)]) (st' := []) (by decide +kernel) rfl ?_
              exact IHL4 ((1000 - (tL4 + 1))).toNat (by omega) (tL4 + 1) (0, v7) (0, v20) h31 rfl (K120) (by omega) (by omega) (Zh31) (Jh31) Ch31 (Xh31.le (by decide) (by decide))
            · refine zwW_p [(1, 8, 0), (1, 0, 2)] (q := 87) (ls' := [(2, 27), (0, a), (2, 2), (2, 3), (0, b), (0, c), (0, tL4), (0, v7), (0, v20)]) (st' := [(2, 27), (0, v20)]) (by decide +kernel) rfl ?_
              refine zwW_gs Ch21.1 (kd := 2) (bn := 2) (n := 10) (t := 0) (lo := -2147483648) (hi := 2147483647) (nx := 90) (by decide +kernel) ?_
              intro v32 ev32 lv32 uv32
              refine zwic_ne (q := 120) (nx := 93) (by decide +kernel) (fun c33 => ?_) (fun c33 => ?_)
              · have K120 : yBst0 (yC h) a (tL4 + 1) (fld h21 27 1) (fld h21 27 2) (fld h21 27 3) := by
                  first
                  | (rw [show fld h21 27 1 = tL4 by omega, show fld h21 27 2 = v20 by omega, show fld h21 27 3 = v7 by omega]; exact iL4_0.yes GF (by omega) p0 P35 A62 (by omega) (by omega) B)
                  | (rw [show fld h21 27 1 = fld hL4 27 1 by omega, show fld h21 27 2 = fld hL4 27 2 by omega, show fld h21 27 3 = fld hL4 27 3 by omega]; first | exact iL4_0.no GF (by omega) p0 P35 (Or.inr A62) (by omega) | exact iL4_0.no (s := 0) GF (by omega) p0 P35 (Or.inl (by omega)) (Or.inl (by omega)))
                refine zwW_inc (i := 6) (c := 1) (x := tL4) (nx := 123) (by decide +kernel) rfl (by first | omega | exact ⟨by omega, by omega⟩) (ls' := [(2, 27), (0, a), (2, 2), (2, 3), (0, b), (0, c), (0, (tL4 + 1)), (0, v7), (0, v20)]) rfl ?_
                refine zwW_p [(24, 18, 0)] (q := 18) (ls' := [(2, 27), (0, a), (2, 2), (2, 3), (0, b), (0, c), (0, (tL4 + 1)), (0, v7), (0, v20)]) (st' := []) (by decide +kernel) rfl ?_
                exact IHL4 ((1000 - (tL4 + 1))).toNat (by omega) (tL4 + 1) (0, v7) (0, v20) h21 rfl (K120) (by omega) (by omega) (Zh21) (f19) Ch21 (Xh21.le (by decide) (by decide))
              · refine zwW_p [(1, 7, 0), (1, 0, 2)] (q := 96) (ls' := [(2, 27), (0, a), (2, 2), (2, 3), (0, b), (0, c), (0, tL4), (0, v7), (0, v20)]) (st' := [(2, 27), (0, v7)]) (by decide +kernel) rfl ?_
                refine zwW_gs Ch21.1 (kd := 2) (bn := 3) (n := 10) (t := 0) (lo := -2147483648) (hi := 2147483647) (nx := 99) (by decide +kernel) ?_
                intro v34 ev34 lv34 uv34
                refine zwic_ge (q := 120) (nx := 102) (by decide +kernel) (fun c35 => ?_) (fun c35 => ?_)
                · have K120 : yBst0 (yC h) a (tL4 + 1) (fld h21 27 1) (fld h21 27 2) (fld h21 27 3) := by
                    first
                    | (rw [show fld h21 27 1 = tL4 by omega, show fld h21 27 2 = v20 by omega, show fld h21 27 3 = v7 by omega]; exact iL4_0.yes GF (by omega) p0 P35 A62 (by omega) (by omega) B)
                    | (rw [show fld h21 27 1 = fld hL4 27 1 by omega, show fld h21 27 2 = fld hL4 27 2 by omega, show fld h21 27 3 = fld hL4 27 3 by omega]; first | exact iL4_0.no GF (by omega) p0 P35 (Or.inr A62) (by omega) | exact iL4_0.no (s := 0) GF (by omega) p0 P35 (Or.inl (by omega)) (Or.inl (by omega)))
                  refine zwW_inc (i := 6) (c := 1) (x := tL4) (nx := 123) (by decide +kernel) rfl (by first | omega | exact ⟨by omega, by omega⟩) (ls' := [(2, 27), (0, a), (2, 2), (2, 3), (0, b), (0, c), (0, (tL4 + 1)), (0, v7), (0, v20)]) rfl ?_
                  refine zwW_p [(24, 18, 0)] (q := 18) (ls' := [(2, 27), (0, a), (2, 2), (2, 3), (0, b), (0, c), (0, (tL4 + 1)), (0, v7), (0, v20)]) (st' := []) (by decide +kernel) rfl ?_
                  exact IHL4 ((1000 - (tL4 + 1))).toNat (by omega) (tL4 + 1) (0, v7) (0, v20) h21 rfl (K120) (by omega) (by omega) (Zh21) (f19) Ch21 (Xh21.le (by decide) (by decide))
                · refine zwW_p [(1, 0, 2), (1, 6, 0)] (q := 105) (ls' := [(2, 27), (0, a), (2, 2), (2, 3), (0, b), (0, c), (0, tL4), (0, v7), (0, v20)]) (st' := [(0, tL4), (2, 27)]) (by decide +kernel) rfl ?_
                  refine zwW_ps Ch21.1 (kd := 2) (bn := 1) (n := 10) (lo := -2147483648) (hi := 2147483647) (nx := 108) (by decide +kernel) (by first | omega | exact ⟨by omega, by omega⟩) ?_
                  intro h36 eh36 Ih36
                  have Ch36 : CI h36 := Ch21.wc eh36 Ih36 (by decide) (by decide)
                  have Qh36 : zXR [(27, 27, 1, 2)] 0 0 h21 h36 := zXR.wc eh36 rfl ⟨by decide, by decide, Or.inl (by decide)⟩ (by first | decide | exact ⟨by decide, by decide⟩)
                  have Xh36 : zXR msx163_z (0) (0) h h36 := Xh21.tr (c2 := 0) (s2 := 0) Qh36 (by decide +kernel) (by decide) (by decide)
                  have Zh36 : yC h36 = (yC h) := (yC_fr Ch21 Qh36 (by decide +kernel) (Ch21.1.b (a1 := 37) (a2 := 37) (j1 := 86) (j2 := 87) (lo := 0) (hi := 6) (by decide +kernel) (r := 37) (j := 86) (by decide) (by decide) (by decide) (by decide)).2).trans Zh21
                  have Jh36 : yR h36 := f19.fr Ch21 Qh36 (by decide +kernel)
                  have th36_27_2 : fld h36 27 2 = fld h21 27 2 := Qh36.f (a1 := 27) (a2 := 27) (j1 := 2) (j2 := 3) (by decide +kernel) (by first | decide | exact ⟨by decide, by decide⟩) (by first | decide | exact ⟨by decide, by decide⟩) (by first | decide | exact ⟨by decide, by decide⟩)
                  have th36_27_3 : fld h36 27 3 = fld h21 27 3 := Qh36.f (a1 := 27) (a2 := 27) (j1 := 3) (j2 := 4) (by decide +kernel) (by first | decide | exact ⟨by decide, by decide⟩) (by first | decide | exact ⟨by decide, by decide⟩) (by first | decide | exact ⟨by decide, by decide⟩)
                  have th36_27_1 : fld h36 27 1 = tL4 := by rw [eh36]; exact fld_wr_eq (Ch21.1.s (a1 := 27) (a2 := 27) (k := 2) (n := 10) (by decide +kernel) (by decide) (by decide)) (by decide)
                  refine zwW_p [(1, 0, 2), (1, 8, 0)] (q := 111) (ls' := [(2, 27), (0, a), (2, 2), (2, 3), (0, b), (0, c), (0, tL4), (0, v7), (0, v20)]) (st' := [(0, v20), (2, 27)]) (by decide +kernel) rfl ?_
                  refine zwW_ps Ch36.1 (kd := 2) (bn := 2) (n := 10) (lo := -2147483648) (hi := 2147483647) (nx := 114) (by decide +kernel) (by first | omega | exact ⟨by omega, by omega⟩) ?_
                  intro h37 eh37 Ih37
                  have Ch37 : CI h37 := Ch36.wc eh37 Ih37 (by decide) (by decide)
                  have Qh37 : zXR [(27, 27, 2, 3)] 0 0 h36 h37 := zXR.wc eh37 rfl ⟨by decide, by decide, Or.inl (by decide)⟩ (by first | decide | exact ⟨by decide, by decide⟩)
                  have Xh37 : zXR msx163_z (0) (0) h h37 := Xh36.tr (c2 := 0) (s2 := 0) Qh37 (by decide +kernel) (by decide) (by decide)
                  have Zh37 : yC h37 = (yC h) := (yC_fr Ch36 Qh37 (by decide +kernel) (Ch36.1.b (a1 := 37) (a2 := 37) (j1 := 86) (j2 := 87) (lo := 0) (hi := 6) (by decide +kernel) (r := 37) (j := 86) (by decide) (by decide) (by decide) (by decide)).2).trans Zh36
                  have Jh37 : yR h37 := Jh36.fr Ch36 Qh37 (by decide +kernel)
                  have th37_27_1 : fld h37 27 1 = fld h36 27 1 := Qh37.f (a1 := 27) (a2 := 27) (j1 := 1) (j2 := 2) (by decide +kernel) (by first | decide | exact ⟨by decide, by decide⟩) (by first | decide | exact ⟨by decide, by decide⟩) (by first | decide | exact ⟨by decide, by decide⟩)
                  have th37_27_3 : fld h37 27 3 = fld h36 27 3 := Qh37.f (a1 := 27) (a2 := 27) (j1 := 3) (j2 := 4) (by decide +kernel) (by first | decide | exact ⟨by decide, by decide⟩) (by first | decide | exact ⟨by decide, by decide⟩) (by first | decide | exact ⟨by decide, by decide⟩)
                  have th37_27_2 : fld h37 27 2 = v20 := by rw [eh37]; exact fld_wr_eq (Ch36.1.s (a1 := 27) (a2 := 27) (k := 2) (n := 10) (by decide +kernel) (by decide) (by decide)) (by decide)
                  refine zwW_p [(1, 0, 2), (1, 7, 0)] (q := 117) (ls' := [(2, 27), (0, a), (2, 2), (2, 3), (0, b), (0, c), (0, tL4), (0, v7), (0, v20)]) (st' := [(0, v7), (2, 27)]) (by decide +kernel) rfl ?_
                  refine zwW_ps Ch37.1 (kd := 2) (bn := 3) (n := 10) (lo := -2147483648) (hi := 2147483647) (nx := 120) (by decide +kernel) (by first | omega | exact ⟨by omega, by omega⟩) ?_
                  intro h38 eh38 Ih38
                  have Ch38 : CI h38 := Ch37.wc eh38 Ih38 (by decide) (by decide)
                  have Qh38 : zXR [(27, 27, 3, 4)] 0 0 h37 h38 := zXR.wc eh38 rfl ⟨by decide, by decide, Or.inl (by decide)⟩ (by first | decide | exact ⟨by decide, by decide⟩)
                  have Xh38 : zXR msx163_z (0) (0) h h38 := Xh37.tr (c2 := 0) (s2 := 0) Qh38 (by decide +kernel) (by decide) (by decide)
                  have Zh38 : yC h38 = (yC h) := (yC_fr Ch37 Qh38 (by decide +kernel) (Ch37.1.b (a1 := 37) (a2 := 37) (j1 := 86) (j2 := 87) (lo := 0) (hi := 6) (by decide +kernel) (r := 37) (j := 86) (by decide) (by decide) (by decide) (by decide)).2).trans Zh37
                  have Jh38 : yR h38 := Jh37.fr Ch37 Qh38 (by decide +kernel)
                  have th38_27_1 : fld h38 27 1 = fld h37 27 1 := Qh38.f (a1 := 27) (a2 := 27) (j1 := 1) (j2 := 2) (by decide +kernel) (by first | decide | exact ⟨by decide, by decide⟩) (by first | decide | exact ⟨by decide, by decide⟩) (by first | decide | exact ⟨by decide, by decide⟩)
                  have th38_27_2 : fld h38 27 2 = fld h37 27 2 := Qh38.f (a1 := 27) (a2 := 27) (j1 := 2) (j2 := 3) (by decide +kernel) (by first | decide | exact ⟨by decide, by decide⟩) (by first | decide | exact ⟨by decide, by decide⟩) (by first | decide | exact ⟨by decide, by decide⟩)
                  have th38_27_3 : fld h38 27 3 = v7 := by rw [eh38]; exact fld_wr_eq (Ch37.1.s (a1 := 27) (a2 := 27) (k := 2) (n := 10) (by decide +kernel) (by decide) (by decide)) (by decide)
                  have K120 : yBst0 (yC h) a (tL4 + 1) (fld h38 27 1) (fld h38 27 2) (fld h38 27 3) := by
                    first
                    | (rw [show fld h38 27 1 = tL4 by omega, show fld h38 27 2 = v20 by omega, show fld h38 27 3 = v7 by omega]; exact iL4_0.yes GF (by omega) p0 P35 A62 (by omega) (by omega) B)
                    | (rw [show fld h38 27 1 = fld hL4 27 1 by omega, show fld h38 27 2 = fld hL4 27 2 by omega, show fld h38 27 3 = fld hL4 27 3 by omega]; first | exact iL4_0.no GF (by omega) p0 P35 (Or.inr A62) (by omega) | exact iL4_0.no (s := 0) GF (by omega) p0 P35 (Or.inl (by omega)) (Or.inl (by omega)))
                  refine zwW_inc (i := 6) (c := 1) (x := tL4) (nx := 123) (by decide +kernel) rfl (by first | omega | exact ⟨by omega, by omega⟩) (ls' := [(2, 27), (0, a), (2, 2), (2, 3), (0, b), (0, c), (0, (tL4 + 1)), (0, v7), (0, v20)]) rfl ?_
                  refine zwW_p [(24, 18, 0)] (q := 18) (ls' := [(2, 27), (0, a), (2, 2), (2, 3), (0, b), (0, c), (0, (tL4 + 1)), (0, v7), (0, v20)]) (st' := []) (by decide +kernel) rfl ?_
                  exact IHL4 ((1000 - (tL4 + 1))).toNat (by omega) (tL4 + 1) (0, v7) (0, v20) h38 rfl (K120) (by omega) (by omega) (Zh38) (Jh38) Ch38 (Xh38.le (by decide) (by decide))
  exact L4 _ 0 (9, 0) (9, 0) h3 rfl (by rw [show fld h3 27 1 = -1 by omega, show fld h3 27 2 = 0 by omega, show fld h3 27 3 = 0 by omega]; exact yBst0_i) (by omega) (by omega) (Zh3) (Jh3) Ch3 (Xh3.le (by decide) (by decide))
def msx73_z : Zms := [(27, 27, 1, 2), (27, 27, 2, 3), (27, 27, 3, 4), (31, 31, 0, 20), (32, 32, 0, 20), (33, 33, 0, 8)]
-- WheelLand.best(II)I
theorem x73_z {sc : List Int} (h : Hp) (C : CI h) (a b : Int) (q_a : -2147483648 ≤ a ∧ a ≤ 2147483647) (q_b : -2147483648 ≤ b ∧ b ≤ 2147483647) (J : yR h) (BZ : zBs (yC h)) (GF : yGf (yC h)) : zwC sc 7 73 [(2, 1), (0, a), (0, b)] h (zwRt 0 (fun x g => CI g ∧ zXR msx73_z (0) (0) h g ∧ (-2147483648 ≤ x ∧ x ≤ 2147483647) ∧ (x = yBstA (yC h) a b) ∧ (yR g))) := by
  refine zwC_of (D := 6) 3 (by decide +kernel) rfl (ls := [(2, 1), (0, a), (0, b)]) rfl ?_
  have X : zXR msx73_z 0 0 h h := zXR.rf _ _
  have u0 : yC h 37 0 = fld h 1 0 := rfl
  have u1 : yC h 37 1 = fld h 2 2 := rfl
  have u2 : yC h 37 2 = fld h 3 2 := rfl
  have u64 : yC h 37 64 = fld h 4 2 := rfl
  have u96 : yC h 37 96 = fld h 27 0 := rfl
  refine zwW_p [(1, 1, 0)] (q := 1) (ls' := [(2, 1), (0, a), (0, b)]) (st' := [(0, a)]) (by decide +kernel) rfl ?_
  refine zwif_lt (q := 23) (nx := 4) (by decide +kernel) (fun c1 => ?_) (fun c1 => ?_)
  · refine zwW_p [(0, -1, 0)] (q := 24) (ls' := [(2, 1), (0, a), (0, b)]) (st' := [(0, -1)]) (by decide +kernel) rfl ?_
    refine zwW_ret (nx := 25) (a := 0) (b := 0) (by decide +kernel) rfl (Or.inl rfl) ?_
    exact ⟨C, X.le (by decide) (by decide), by omega, by unfold yBstA; (repeat' (first | rw [if_neg (by omega)] | rw [if_pos (by omega)])); all_goals (first | exact ea.trans a.1 | exact ea.trans a.2.1 | exact ea.trans a.2.2), by exact J⟩
  · refine zwW_p [(1, 2, 0), (0, 0, 0), (0, 2, 0)] (q := 7) (ls' := [(2, 1), (0, a), (0, b)]) (st' := [(0, 2), (0, 0), (0, b)]) (by decide +kernel) rfl ?_
    refine zwW_cs (k' := 98) (n := 3) (nx := 10) (as := [(0, b), (0, 0), (0, 2)]) (st' := []) (by decide +kernel) rfl (x98 h C b 0 2 (by omega) (by omega) (by omega)) rfl ?_
    rintro x _ ⟨rfl, ⟨rfl, c2⟩ | ⟨rfl, c2⟩⟩
    · refine zwif_ne (q := 23) (nx := 13) (by decide +kernel) (fun c3 => ?_) (fun c3 => ?_)
      · refine zwW_p [(0, -1, 0)] (q := 24) (ls' := [(2, 1), (0, a), (0, b)]) (st' := [(0, -1)]) (by decide +kernel) rfl ?_
        refine zwW_ret (nx := 25) (a := 0) (b := 0) (by decide +kernel) rfl (Or.inl rfl) ?_
        exact ⟨C, X.le (by decide) (by decide), by omega, by unfold yBstA; (repeat' (first | rw [if_neg (by omega)] | rw [if_pos (by omega)])); all_goals (first | exact ea.trans a.1 | exact ea.trans a.2.1 | exact ea.trans a.2.2), by exact J⟩
      · exfalso; omega
    · refine zwif_ne (q := 23) (nx := 13) (by decide +kernel) (fun c4 => ?_) (fun c4 => ?_)
      · exfalso; omega
      · refine zwW_p [(1, 0, 2)] (q := 14) (ls' := [(2, 1), (0, a), (0, b)]) (st' := [(2, 1)]) (by decide +kernel) rfl ?_
        refine zwW_gs C.1 (kd := 12) (bn := 0) (n := 13) (t := 0) (lo := 0) (hi := 156) (nx := 17) (by decide +kernel) ?_
        intro v5 ev5 lv5 uv5
        have sv5 : v5 = (yC h) 37 0 := Eq.trans ev5 (Eq.trans (Eq.symm (yC_s (h := h) (i := 0) rfl)) (Eq.trans (congrFun (congrFun (rfl : yC h = yC h) 37) 0) rfl))
        refine zwW_p [(0, 156, 0)] (q := 20) (ls' := [(2, 1), (0, a), (0, b)]) (st' := [(0, 156), (0, v5)]) (by decide +kernel) rfl ?_
        refine zwic_lt (q := 25) (nx := 23) (by decide +kernel) (fun c6 => ?_) (fun c6 => ?_)
        · refine zwW_p [(1, 0, 2)] (q := 26) (ls' := [(2, 1), (0, a), (0, b)]) (st' := [(2, 1)]) (by decide +kernel) rfl ?_
          refine zwW_gc C.1 (kd := 12) (bn := 10) (n := 13) (c := 27) (nx := 29) (by decide +kernel) ?_
          refine zwW_p [(1, 1, 0), (1, 0, 2)] (q := 31) (ls' := [(2, 1), (0, a), (0, b)]) (st' := [(2, 1), (0, a), (2, 27)]) (by decide +kernel) rfl ?_
          refine zwW_gc C.1 (kd := 12) (bn := 2) (n := 13) (c := 2) (nx := 34) (by decide +kernel) ?_
          refine zwW_p [(1, 0, 2)] (q := 35) (ls' := [(2, 1), (0, a), (0, b)]) (st' := [(2, 1), (2, 2), (0, a), (2, 27)]) (by decide +kernel) rfl ?_
          refine zwW_gc C.1 (kd := 12) (bn := 3) (n := 13) (c := 3) (nx := 38) (by decide +kernel) ?_
          refine zwW_p [(1, 0, 2)] (q := 39) (ls' := [(2, 1), (0, a), (0, b)]) (st' := [(2, 1), (2, 3), (2, 2), (0, a), (2, 27)]) (by decide +kernel) rfl ?_
          refine zwW_gs C.1 (kd := 12) (bn := 0) (n := 13) (t := 0) (lo := 0) (hi := 156) (nx := 42) (by decide +kernel) ?_
          intro v7 ev7 lv7 uv7
          have sv7 : v7 = (yC h) 37 0 := Eq.trans ev7 (Eq.trans (Eq.symm (yC_s (h := h) (i := 0) rfl)) (Eq.trans (congrFun (congrFun (rfl : yC h = yC h) 37) 0) rfl))
          refine zwW_cs (k' := 162) (n := 1) (nx := 45) (as := [(0, v7)]) (st' := [(2, 3), (2, 2), (0, a), (2, 27)]) (by decide +kernel) rfl (x162 h C v7 (by omega) (by omega)) rfl ?_
          rintro v8 _ ⟨rfl, f9, f10, f11⟩
          refine zwW_p [(0, 300, 0), (1, 0, 2)] (q := 49) (ls' := [(2, 1), (0, a), (0, b)]) (st' := [(2, 1), (0, 300), (0, v8), (2, 3), (2, 2), (0, a), (2, 27)]) (by decide +kernel) rfl ?_
          refine zwW_gc C.1 (kd := 12) (bn := 4) (n := 13) (c := 4) (nx := 52) (by decide +kernel) ?_
          refine zwW_cm C.1 (op := 60) (k' := 96) (n := 0) (kd := 0) (m := 3) (nx := 55) (r := 4) (tl := []) (st' := [(0, 300), (0, v8), (2, 3), (2, 2), (0, a), (2, 27)]) (by decide +kernel) rfl (by decide +kernel) rfl (x96_4 C) ?_
          rintro v12 _ ⟨rfl, ev12⟩
          have bv12 := zLb_4 C
          have sv12 : v12 = (yC h) 37 64 := Eq.trans ev12 (Eq.trans (Eq.symm (yC_s (h := h) (i := 64) rfl)) (Eq.trans (congrFun (congrFun (rfl : yC h = yC h) 37) 64) rfl))
          refine zwW_sub (nx := 56) (by decide +kernel) (by first | omega | exact ⟨by omega, by omega⟩) ?_
          refine zwW_cmv C.1 (op := 60) (k' := 163) (n := 5) (kd := 2) (m := 10) (nx := 59) (r := 27) (tl := [(0, a), (2, 2), (2, 3), (0, v8), (0, (300 - v12))]) (st' := []) (by decide +kernel) rfl (by decide +kernel) rfl (x163_z h C a v8 (300 - v12) (by omega) (by omega) (by omega) J BZ GF (by omega) (by omega) (by omega)) ?_
          rintro h15 ⟨Ch15, Qh15, f13, f14⟩
          have Zh15 : yC h15 = (yC h) := (yC_fr C Qh15 (by decide +kernel) (C.1.b (a1 := 37) (a2 := 37) (j1 := 86) (j2 := 87) (lo := 0) (hi := 6) (by decide +kernel) (r := 37) (j := 86) (by decide) (by decide) (by decide) (by decide)).2).trans (rfl : yC h = yC h)
          have Xh15 : zXR msx73_z (0) (0) h h15 := X.tr (c2 := 0) (s2 := 0) Qh15 (by decide +kernel) (by decide) (by decide)
          refine zwW_p [(1, 2, 0)] (q := 60) (ls' := [(2, 1), (0, a), (0, b)]) (st' := [(0, b)]) (by decide +kernel) rfl ?_
          refine zwif_ne (q := 71) (nx := 63) (by decide +kernel) (fun c16 => ?_) (fun c16 => ?_)
          · refine zwW_p [(1, 2, 0), (0, 1, 0)] (q := 73) (ls' := [(2, 1), (0, a), (0, b)]) (st' := [(0, 1), (0, b)]) (by decide +kernel) rfl ?_
            refine zwic_ne (q := 86) (nx := 76) (by decide +kernel) (fun c17 => ?_) (fun c17 => ?_)
            · refine zwW_p [(1, 0, 2)] (q := 87) (ls' := [(2, 1), (0, a), (0, b)]) (st' := [(2, 1)]) (by decide +kernel) rfl ?_
              refine zwW_gc Ch15.1 (kd := 12) (bn := 10) (n := 13) (c := 27) (nx := 90) (by decide +kernel) ?_
              refine zwW_gs Ch15.1 (kd := 2) (bn := 3) (n := 10) (t := 0) (lo := -2147483648) (hi := 2147483647) (nx := 93) (by decide +kernel) ?_
              intro v18 ev18 lv18 uv18
              refine zwW_ret (nx := 94) (a := 0) (b := 0) (by decide +kernel) rfl (Or.inl rfl) ?_
              exact ⟨Ch15, Xh15.le (by decide) (by decide), by omega, by unfold yBstA; (repeat' (first | rw [if_pos (by omega)] | rw [if_neg (by omega)])); all_goals (first | exact ev18.trans f13.1 | exact ev18.trans f13.2.1 | exact ev18.trans f13.2.2), by exact f14⟩
            · refine zwW_p [(1, 0, 2)] (q := 77) (ls' := [(2, 1), (0, a), (0, b)]) (st' := [(2, 1)]) (by decide +kernel) rfl ?_
              refine zwW_gc Ch15.1 (kd := 12) (bn := 10) (n := 13) (c := 27) (nx := 80) (by decide +kernel) ?_
              refine zwW_gs Ch15.1 (kd := 2) (bn := 2) (n := 10) (t := 0) (lo := -2147483648) (hi := 2147483647) (nx := 83) (by decide +kernel) ?_
              intro v19 ev19 lv19 uv19
              refine zwW_p [(24, 93, 0)] (q := 93) (ls' := [(2, 1), (0, a), (0, b)]) (st' := [(0, v19)]) (by decide +kernel) rfl ?_
              refine zwW_ret (nx := 94) (a := 0) (b := 0) (by decide +kernel) rfl (Or.inl rfl) ?_
              exact ⟨Ch15, Xh15.le (by decide) (by decide), by omega, by unfold yBstA; (repeat' (first | rw [if_pos (by omega)] | rw [if_neg (by omega)])); all_goals (first | exact ev19.trans f13.1 | exact ev19.trans f13.2.1 | exact ev19.trans f13.2.2), by exact f14⟩
          · refine zwW_p [(1, 0, 2)] (q := 64) (ls' := [(2, 1), (0, a), (0, b)]) (st' := [(2, 1)]) (by decide +kernel) rfl ?_
            refine zwW_gc Ch15.1 (kd := 12) (bn := 10) (n := 13) (c := 27) (nx := 67) (by decide +kernel) ?_
            refine zwW_gs Ch15.1 (kd := 2) (bn := 1) (n := 10) (t := 0) (lo := -2147483648) (hi := 2147483647) (nx := 70) (by decide +kernel) ?_
            intro v20 ev20 lv20 uv20
            refine zwW_ret (nx := 71) (a := 0) (b := 0) (by decide +kernel) rfl (Or.inl rfl) ?_
            exact ⟨Ch15, Xh15.le (by decide) (by decide), by omega, by unfold yBstA; (repeat' (first | rw [if_pos (by omega)] | rw [if_neg (by omega)])); all_goals (first | exact ev20.trans f13.1 | exact ev20.trans f13.2.1 | exact ev20.trans f13.2.2), by exact f14⟩
        · refine zwW_p [(0, -1, 0)] (q := 24) (ls' := [(2, 1), (0, a), (0, b)]) (st' := [(0, -1)]) (by decide +kernel) rfl ?_
          refine zwW_ret (nx := 25) (a := 0) (b := 0) (by decide +kernel) rfl (Or.inl rfl) ?_
          exact ⟨C, X.le (by decide) (by decide), by omega, by unfold yBstA; (repeat' (first | rw [if_neg (by omega)] | rw [if_pos (by omega)])); all_goals (first | exact ea.trans a.1 | exact ea.trans a.2.1 | exact ea.trans a.2.2), by exact J⟩
end
section
/-! contracts of methods -/
-- WheelLandModel.costOf(I)I
theorem m165_z {sc : List Int} (h : Hp) (I : zI h) (a : Int) (q_a : -2147483648 ≤ a ∧ a ≤ 2147483647) (GF : yGf (yM h)) : zwC sc 1 165 [(2, 37), (0, a)] h (zwRt 0 (fun x g => h = g ∧ (-2147483648 ≤ x ∧ x ≤ 2147483647) ∧ (x = yCst (yM h) a))) := by
  refine zwC_of (D := 0) 4 (by decide +kernel) rfl (ls := [(2, 37), (0, a), (9, 0), (9, 0)]) rfl ?_
  have u96 : yM h 37 96 = fld h 37 96 := rfl
  have F96 : 0 ≤ fld h 37 96 ∧ fld h 37 96 ≤ 8 := GF.1
  have QB : ∀ x : Int, 0 ≤ yBt a x ∧ yBt a x ≤ 1 := fun x => yBt_b
  refine zwW_p [(0, 0, 0), (2, 2, 0), (0, 0, 0), (2, 3, 0)] (q := 4) (ls' := [(2, 37), (0, a), (0, 0), (0, 0)]) (st' := []) (by decide +kernel) rfl ?_
  have L1 : ∀ (n0 : Nat) (nL1 kL1 : Int), n0 = ((100 - kL1)).toNat → (nL1 = yCo (yM h) a (kL1).toNat) → (kL1 ≤ fld h 37 96) → ((0 ≤ kL1 ∧ kL1 ≤ 8) ∧ 0 ≤ nL1 ∧ nL1 ≤ 99 * kL1) → zwW sc (0) 165 4 [(2, 37), (0, a), (0, nL1), (0, kL1)] [] h (zwRt 0 (fun x g => h = g ∧ (-2147483648 ≤ x ∧ x ≤ 2147483647) ∧ (x = yCst (yM h) a))) := by
    intro n0
    induction n0 using Nat.strongRecOn with
    | ind n0 IHL1 =>
      intro nL1 kL1 hnL1 iL1_0 iL1_1 iL1_2
      refine zwW_p [(1, 3, 0), (1, 0, 2)] (q := 6) (ls' := [(2, 37), (0, a), (0, nL1), (0, kL1)]) (st' := [(2, 37), (0, kL1)]) (by decide +kernel) rfl ?_
      refine zwW_gs I (kd := 13) (bn := 96) (n := 97) (t := 0) (lo := 0) (hi := 8) (nx := 9) (by decide +kernel) ?_
      intro v2 ev2 lv2 uv2
      have sv2 : v2 = (yM h) 37 96 := Eq.trans ev2 (Eq.trans (Eq.symm (yM_s (h := h) (i := 96) rfl)) (Eq.trans (congrFun (congrFun (rfl : yM h = yM h) 37) 96) rfl))
      refine zwic_ge (q := 40) (nx := 12) (by decide +kernel) (fun c3 => ?_) (fun c3 => ?_)
      · refine zwW_p [(1, 2, 0)] (q := 41) (ls' := [(2, 37), (0, a), (0, nL1), (0, kL1)]) (st' := [(0, nL1)]) (by decide +kernel) rfl ?_
        refine zwW_ret (nx := 42) (a := 0) (b := 0) (by decide +kernel) rfl (Or.inl rfl) ?_
        exact ⟨rfl, by omega, by unfold yCst; rw [show (yM h 37 96).toNat = (kL1).toNat by show (fld h 37 96).toNat = _; omega]; exact iL1_0⟩
      · refine zwW_p [(1, 2, 0), (1, 1, 0), (1, 3, 0)] (q := 15) (ls' := [(2, 37), (0, a), (0, nL1), (0, kL1)]) (st' := [(0, kL1), (0, a), (0, nL1)]) (by decide +kernel) rfl ?_
        refine zwW_ib (a := 9) (nx := 16) (by decide +kernel) rfl ?_
        refine zwW_p [(0, 1, 0)] (q := 17) (ls' := [(2, 37), (0, a), (0, nL1), (0, kL1)]) (st' := [(0, 1), (0, (i_shr a kL1)), (0, nL1)]) (by decide +kernel) rfl ?_
        refine zwW_ib (a := 5) (nx := 18) (by decide +kernel) rfl ?_
        refine zwW_p [(0, 1, 0)] (q := 19) (ls' := [(2, 37), (0, a), (0, nL1), (0, kL1)]) (st' := [(0, 1), (0, (i_and (i_shr a kL1) 1)), (0, nL1)]) (by decide +kernel) rfl ?_
        refine zwic_ne (q := 31) (nx := 22) (by decide +kernel) (fun c4 => ?_) (fun c4 => ?_)
        · refine zwW_p [(0, 0, 0)] (q := 32) (ls' := [(2, 37), (0, a), (0, nL1), (0, kL1)]) (st' := [(0, 0), (0, nL1)]) (by decide +kernel) rfl ?_
          have N32 : nL1 + 0 = yCo (yM h) a ((kL1).toNat + 1) := by
            have qb := QB kL1
            rw [yCo_s, show (((kL1).toNat : Nat) : Int) = kL1 by omega]
            first
            | (rw [if_pos (by unfold yBt at *; omega)]; omega)
            | (rw [if_neg (by unfold yBt at *; omega), ← sa]; omega)
          have B32 := yCo_b (b := a) GF ((kL1).toNat + 1) (by show _ ≤ fld h 37 96; omega)
          refine zwW_add (nx := 33) (by decide +kernel) (by first | omega | exact ⟨by omega, by omega⟩) ?_
          refine zwW_p [(2, 2, 0)] (q := 34) (ls' := [(2, 37), (0, a), (0, (nL1 + 0)), (0, kL1)]) (st' := []) (by decide +kernel) rfl ?_
          refine zwW_inc (i := 3) (c := 1) (x := kL1) (nx := 37) (by decide +kernel) rfl (by first | omega | exact ⟨by omega, by omega⟩) (ls' := [(2, 37), (0, a), (0, (nL1 + 0)), (0, (kL1 + 1))]) rfl ?_
          refine zwW_p [(24, 4, 0)] (q := 4) (ls' := [(2, 37), (0, a), (0, (nL1 + 0)), (0, (kL1 + 1))]) (st' := []) (by decide +kernel) rfl ?_
          exact IHL1 ((100 - (kL1 + 1))).toNat (by omega) (nL1 + 0) (kL1 + 1) rfl (by rw [show (kL1 + 1).toNat = (kL1).toNat + 1 by omega]; exact N32) (by omega) (by omega)
        · refine zwW_p [(1, 0, 2)] (q := 23) (ls' := [(2, 37), (0, a), (0, nL1), (0, kL1)]) (st' := [(2, 37), (0, nL1)]) (by decide +kernel) rfl ?_
          refine zwW_gc I (kd := 13) (bn := 93) (n := 97) (c := 363) (nx := 26) (by decide +kernel) ?_
          refine zwW_p [(1, 3, 0)] (q := 27) (ls' := [(2, 37), (0, a), (0, nL1), (0, kL1)]) (st' := [(0, kL1), (2, 363), (0, nL1)]) (by decide +kernel) rfl ?_
          have ib1 : 0 ≤ kL1 ∧ kL1 < ((8 : Nat) : Int) := (by first | omega | exact ⟨by omega, by omega⟩)
          refine zwW_al I (a1 := 363) (a2 := 363) (kd := 20) (n := 8) (t := 0) (lo := 0) (hi := 99) (nx := 28) (by decide +kernel) (by first | decide | exact ⟨by decide, by decide⟩) ib1 ?_
          intro v5 ev5 lv5 uv5
          have sv5 : v5 = (yM h) 363 kL1.toNat := Eq.trans ev5 (Eq.trans (Eq.symm (yM_p (h := h) (a := 363) (n := 8) (i := kL1.toNat) rfl (zit ib1))) (Eq.trans (congrFun (congrFun (rfl : yM h = yM h) 363) kL1.toNat) rfl))
          have P28 := (GF.2 (kL1).toNat (by show _ < fld h 37 96; omega)).2.2
          refine zwW_p [(24, 32, 0)] (q := 32) (ls' := [(2, 37), (0, a), (0, nL1), (0, kL1)]) (st' := [(0, v5), (0, nL1)]) (by decide +kernel) rfl ?_
          have N32 : nL1 + v5 = yCo (yM h) a ((kL1).toNat + 1) := by
            have qb := QB kL1
            rw [yCo_s, show (((kL1).toNat : Nat) : Int) = kL1 by omega]
            first
            | (rw [if_pos (by unfold yBt at *; omega)]; omega)
            | (rw [if_neg (by unfold yBt at *; omega), ← sv5]; omega)
          have B32 := yCo_b (b := a) GF ((kL1).toNat + 1) (by show _ ≤ fld h 37 96; omega)
          refine zwW_add (nx := 33) (by decide +kernel) (by first | omega | exact ⟨by omega, by omega⟩) ?_
          refine zwW_p [(2, 2, 0)] (q := 34) (ls' := [(2, 37), (0, a), (0, (nL1 + v5)), (0, kL1)]) (st' := []) (by decide +kernel) rfl ?_
          refine zwW_inc (i := 3) (c := 1) (x := kL1) (nx := 37) (by decide +kernel) rfl (by first | omega | exact ⟨by omega, by omega⟩) (ls' := [(2, 37), (0, a), (0, (nL1 + v5)), (0, (kL1 + 1))]) rfl ?_
          refine zwW_p [(24, 4, 0)] (q := 4) (ls' := [(2, 37), (0, a), (0, (nL1 + v5)), (0, (kL1 + 1))]) (st' := []) (by decide +kernel) rfl ?_
          exact IHL1 ((100 - (kL1 + 1))).toNat (by omega) (nL1 + v5) (kL1 + 1) rfl (by rw [show (kL1 + 1).toNat = (kL1).toNat + 1 by omega]; exact N32) (by omega) (by omega)
  exact L1 _ 0 0 rfl (rfl) (by omega) (by omega)
-- WheelLandModel.spunWith(I)I
theorem m164_z {sc : List Int} (h : Hp) (I : zI h) (a : Int) (q_a : -2147483648 ≤ a ∧ a ≤ 2147483647) (hA : zAM h) (BZ : zBs (yM h)) (GF : yGf (yM h)) : zwC sc 3 164 [(2, 37), (0, a)] h (zwRt 0 (fun x g => zI g ∧ zMR ms164 h g ∧ (-2147483648 ≤ x ∧ x ≤ 2147483647) ∧ (x = ySpn (yM h) a))) := by
  refine zwC_of (D := 2) 5 (by decide +kernel) rfl (ls := [(2, 37), (0, a), (9, 0), (9, 0), (9, 0)]) rfl ?_
  have R : zMR ms164 h h := zMR.rf _ _
  have u1 : yM h 37 1 = fld h 37 1 := rfl
  have u2 : yM h 37 2 = fld h 37 2 := rfl
  have u96 : yM h 37 96 = fld h 37 96 := rfl
  have B0 := I.b (a1 := 37) (a2 := 37) (j1 := 2) (j2 := 3) (lo := 0) (hi := 20) (by decide +kernel) (r := 37) (j := 2) (by decide) (by decide) (by decide) (by decide)
  have N1 := I.b (a1 := 37) (a2 := 37) (j1 := 1) (j2 := 2) (lo := 0) (hi := 8) (by decide +kernel) (r := 37) (j := 1) (by decide) (by decide) (by decide) (by decide)
  have F96 : 0 ≤ fld h 37 96 ∧ fld h 37 96 ≤ 8 := GF.1
  refine zwW_p [(1, 0, 2)] (q := 1) (ls' := [(2, 37), (0, a), (9, 0), (9, 0), (9, 0)]) (st' := [(2, 37)]) (by decide +kernel) rfl ?_
  refine zwW_cmv I (op := 60) (k' := 220) (n := 0) (kd := 13) (m := 97) (nx := 4) (r := 37) (tl := []) (st' := []) (by decide +kernel) rfl (by decide +kernel) rfl (m220_s h I) ?_
  rintro h2 ⟨Ih2, Qh2, f1⟩
  have Rh2 : zMR ms164 h h2 := R.tr Qh2 (by decide +kernel)
  have th2_37_0 : fld h2 37 0 = fld h 37 0 := Qh2.f (a1 := 37) (a2 := 37) (j1 := 0) (j2 := 1) (by decide +kernel) (by first | decide | exact ⟨by decide, by decide⟩) (by first | decide | exact ⟨by decide, by decide⟩)
  have th2_37_1 : fld h2 37 1 = fld h 37 1 := Qh2.f (a1 := 37) (a2 := 37) (j1 := 1) (j2 := 2) (by decide +kernel) (by first | decide | exact ⟨by decide, by decide⟩) (by first | decide | exact ⟨by decide, by decide⟩)
  have th2_37_2 : fld h2 37 2 = fld h 37 2 := Qh2.f (a1 := 37) (a2 := 37) (j1 := 2) (j2 := 3) (by decide +kernel) (by first | decide | exact ⟨by decide, by decide⟩) (by first | decide | exact ⟨by decide, by decide⟩)
  have th2_37_96 : fld h2 37 96 = fld h 37 96 := Qh2.f (a1 := 37) (a2 := 37) (j1 := 96) (j2 := 97) (by decide +kernel) (by first | decide | exact ⟨by decide, by decide⟩) (by first | decide | exact ⟨by decide, by decide⟩)
  have Zh2 : yM h2 = (yM h) := (yM_fr Qh2 (by decide +kernel) (I.b (a1 := 37) (a2 := 37) (j1 := 86) (j2 := 87) (lo := 0) (hi := 6) (by decide +kernel) (r := 37) (j := 86) (by decide) (by decide) (by decide) (by decide)).2).trans (rfl : yM h = yM h)
  have Z4 := Zh2
  have A4 : zAg (yOv h2) (yM h) := yOv_ag Zh2 (fun k hk => by have hk : (k : Int) < fld h 37 2 := hk; rw [yM_p (a := 80) (n := 20) rfl (by omega), yM_p (a := 81) (n := 20) rfl (by omega)]; exact f1.2 k hk) (fun v hv => by have hv : (v : Int) < fld h 37 1 := hv; rw [yM_p (a := 66) (n := 8) rfl (by omega)]; exact f1.1 v hv)
  have B4 := zBs.cg A4.sy BZ
  have GY : yGf (yOv h2) := yGf.oy (by rw [Z4]; exact GF)
  refine zwW_p [(0, 0, 0), (2, 2, 0)] (q := 6) (ls' := [(2, 37), (0, a), (0, 0), (9, 0), (9, 0)]) (st' := []) (by decide +kernel) rfl ?_
  have L3 : ∀ (n0 : Nat) (kL3 : Int) (w3L3 w4L3 : Vl) (hL3 : Hp), n0 = ((100 - kL3)).toNat → (yOv hL3 = yGN (yOv h2) a (kL3).toNat) → (kL3 ≤ fld h 37 96) → (0 ≤ kL3 ∧ kL3 ≤ 8) → (fld hL3 37 0 = fld h 37 0 ∧ fld hL3 37 1 = fld h 37 1 ∧ fld hL3 37 2 = fld h 37 2 ∧ fld hL3 37 96 = fld h 37 96) → (yM hL3 = (yM h)) → zI hL3 → zMR ms164 h hL3 → zwW sc (2) 164 6 [(2, 37), (0, a), (0, kL3), w3L3, w4L3] [] hL3 (zwRt 0 (fun x g => zI g ∧ zMR ms164 h g ∧ (-2147483648 ≤ x ∧ x ≤ 2147483647) ∧ (x = ySpn (yM h) a))) := by
    intro n0
    induction n0 using Nat.strongRecOn with
    | ind n0 IHL3 =>
      intro kL3 w3L3 w4L3 hL3 hnL3 iL3_0 iL3_1 iL3_2 iL3_3 iL3_4 IhL3 RhL3
      refine zwW_p [(1, 2, 0), (1, 0, 2)] (q := 8) (ls' := [(2, 37), (0, a), (0, kL3), w3L3, w4L3]) (st' := [(2, 37), (0, kL3)]) (by decide +kernel) rfl ?_
      refine zwW_gs IhL3 (kd := 13) (bn := 96) (n := 97) (t := 0) (lo := 0) (hi := 8) (nx := 11) (by decide +kernel) ?_
      intro v4 ev4 lv4 uv4
      have sv4 : v4 = (yM h) 37 96 := Eq.trans ev4 (Eq.trans (Eq.symm (yM_s (h := hL3) (i := 96) rfl)) (Eq.trans (congrFun (congrFun iL3_4 37) 96) rfl))
      refine zwic_ge (q := 153) (nx := 14) (by decide +kernel) (fun c5 => ?_) (fun c5 => ?_)
      · refine zwW_p [(1, 0, 2)] (q := 154) (ls' := [(2, 37), (0, a), (0, kL3), w3L3, w4L3]) (st' := [(2, 37)]) (by decide +kernel) rfl ?_
        have K154 : yOv hL3 = yGN (yOv h2) a (yM h 37 96).toNat := by rw [show (yM h 37 96).toNat = (kL3).toNat by show (fld h 37 96).toNat = _; omega]; exact iL3_0
        have B154 : zBs (yOv hL3) := by rw [K154]; exact B4.gn GY _ (by rw [yOv_na (a := 37) (by decide) (by decide) (by decide), Z4]; show _ ≤ fld h 37 96; have : (yM h 37 96).toNat = (fld h 37 96).toNat := rfl; omega)
        have Q154 := zOv_y (h := hL3) (by omega) (by omega)
        have O154 := zBs.cg Q154.sy B154
        refine zwW_cm IhL3 (op := 60) (k' := 221) (n := 0) (kd := 13) (m := 97) (nx := 157) (r := 37) (tl := []) (st' := []) (by decide +kernel) rfl (by decide +kernel) rfl (m221_s hL3 IhL3 (hA.mr RhL3 (by decide +kernel) (by omega)) O154) ?_
        rintro v6 h10 ⟨Ih10, Qh10, f7, f8, f9⟩
        have Rh10 : zMR ms164 h h10 := RhL3.tr Qh10 (by decide +kernel)
        have th10_37_0 : fld h10 37 0 = fld hL3 37 0 := Qh10.f (a1 := 37) (a2 := 37) (j1 := 0) (j2 := 1) (by decide +kernel) (by first | decide | exact ⟨by decide, by decide⟩) (by first | decide | exact ⟨by decide, by decide⟩)
        have th10_37_1 : fld h10 37 1 = fld hL3 37 1 := Qh10.f (a1 := 37) (a2 := 37) (j1 := 1) (j2 := 2) (by decide +kernel) (by first | decide | exact ⟨by decide, by decide⟩) (by first | decide | exact ⟨by decide, by decide⟩)
        have th10_37_2 : fld h10 37 2 = fld hL3 37 2 := Qh10.f (a1 := 37) (a2 := 37) (j1 := 2) (j2 := 3) (by decide +kernel) (by first | decide | exact ⟨by decide, by decide⟩) (by first | decide | exact ⟨by decide, by decide⟩)
        have th10_37_96 : fld h10 37 96 = fld hL3 37 96 := Qh10.f (a1 := 37) (a2 := 37) (j1 := 96) (j2 := 97) (by decide +kernel) (by first | decide | exact ⟨by decide, by decide⟩) (by first | decide | exact ⟨by decide, by decide⟩)
        have Zh10 : yM h10 = (yM h) := (yM_fr Qh10 (by decide +kernel) (IhL3.b (a1 := 37) (a2 := 37) (j1 := 86) (j2 := 87) (lo := 0) (hi := 6) (by decide +kernel) (r := 37) (j := 86) (by decide) (by decide) (by decide) (by decide)).2).trans iL3_4
        refine zwW_ret (nx := 158) (a := 0) (b := 0) (by decide +kernel) rfl (Or.inl rfl) ?_
        exact ⟨Ih10, Rh10, by omega, by have z := f9.1; rw [Q154.to O154 (yEp_4 (S := zOv hL3)) _ (show _ ≤ fld hL3 37 2 by omega), yEp_ag Q154, K154, show yEp (yGN (yOv h2) a (yM h 37 96).toNat) = yEp (yM h) from (by unfold yEp; rw [yGN_na (a := 37) (by decide) (by decide) (by decide), yOv_na (a := 37) (by decide) (by decide) (by decide), Z4]), show fld hL3 37 2 = yM h 37 2 from (by show _ = fld h 37 2; omega)] at z; exact z.trans (ySpn_ag A4 BZ GF (fun k _ => by rw [yOv_na (a := 364) (by decide) (by decide) (by decide), yOv_na (a := 365) (by decide) (by decide) (by decide), Z4]; exact ⟨rfl, rfl⟩))⟩
      · refine zwW_p [(1, 1, 0), (1, 2, 0)] (q := 16) (ls' := [(2, 37), (0, a), (0, kL3), w3L3, w4L3]) (st' := [(0, kL3), (0, a)]) (by decide +kernel) rfl ?_
        refine zwW_ib (a := 9) (nx := 17) (by decide +kernel) rfl ?_
        refine zwW_p [(0, 1, 0)] (q := 18) (ls' := [(2, 37), (0, a), (0, kL3), w3L3, w4L3]) (st' := [(0, 1), (0, (i_shr a kL3))]) (by decide +kernel) rfl ?_
        refine zwW_ib (a := 5) (nx := 19) (by decide +kernel) rfl ?_
        refine zwif_ne (q := 25) (nx := 22) (by decide +kernel) (fun c11 => ?_) (fun c11 => ?_)
        · have Z25 := iL3_4
          have BL : zBs (yOv hL3) := by rw [iL3_0]; exact B4.gn GY _ (by rw [yOv_na (a := 37) (by decide) (by decide) (by decide), Z4]; show _ ≤ fld h 37 96; omega)
          refine zwW_p [(1, 0, 2)] (q := 26) (ls' := [(2, 37), (0, a), (0, kL3), w3L3, w4L3]) (st' := [(2, 37)]) (by decide +kernel) rfl ?_
          refine zwW_gc IhL3 (kd := 13) (bn := 94) (n := 97) (c := 364) (nx := 29) (by decide +kernel) ?_
          refine zwW_p [(1, 2, 0)] (q := 30) (ls' := [(2, 37), (0, a), (0, kL3), w3L3, w4L3]) (st' := [(0, kL3), (2, 364)]) (by decide +kernel) rfl ?_
          have ib1 : 0 ≤ kL3 ∧ kL3 < ((8 : Nat) : Int) := (by first | omega | exact ⟨by omega, by omega⟩)
          refine zwW_al IhL3 (a1 := 364) (a2 := 364) (kd := 20) (n := 8) (t := 0) (lo := 0) (hi := 19) (nx := 31) (by decide +kernel) (by first | decide | exact ⟨by decide, by decide⟩) ib1 ?_
          intro v12 ev12 lv12 uv12
          have sv12 : v12 = (yM h) 364 kL3.toNat := Eq.trans ev12 (Eq.trans (Eq.symm (yM_p (h := hL3) (a := 364) (n := 8) (i := kL3.toNat) rfl (zit ib1))) (Eq.trans (congrFun (congrFun iL3_4 364) kL3.toNat) rfl))
          have KG := GF.2 (kL3).toNat (by show _ < fld h 37 96; omega)
          have KH : 0 ≤ yM h 79 (v12).toNat ∧ yM h 79 (v12).toNat < fld h 37 1 := (BZ.1 (v12).toNat (by show _ < fld h 37 2; have : yM h 37 2 = fld h 37 2 := rfl; omega)).2.2.2
          have KB := BL.1 (v12).toNat (by rw [yOv_na (a := 37) (by decide) (by decide) (by decide), Z25]; omega)
          refine zwW_p [(2, 3, 0), (1, 0, 2)] (q := 33) (ls' := [(2, 37), (0, a), (0, kL3), (0, v12), w4L3]) (st' := [(2, 37)]) (by decide +kernel) rfl ?_
          refine zwW_gc IhL3 (kd := 13) (bn := 20) (n := 97) (c := 79) (nx := 36) (by decide +kernel) ?_
          refine zwW_p [(1, 3, 0)] (q := 37) (ls' := [(2, 37), (0, a), (0, kL3), (0, v12), w4L3]) (st' := [(0, v12), (2, 79)]) (by decide +kernel) rfl ?_
          have ib2 : 0 ≤ v12 ∧ v12 < ((20 : Nat) : Int) := (by first | omega | exact ⟨by omega, by omega⟩)
          refine zwW_al IhL3 (a1 := 79) (a2 := 79) (kd := 20) (n := 20) (t := 0) (lo := 0) (hi := 7) (nx := 38) (by decide +kernel) (by first | decide | exact ⟨by decide, by decide⟩) ib2 ?_
          intro v13 ev13 lv13 uv13
          have sv13 : v13 = (yM h) 79 (((yM h) 364 kL3.toNat).toNat) := Eq.trans ev13 (Eq.trans (Eq.symm (yM_p (h := hL3) (a := 79) (n := 20) (i := v12.toNat) rfl (zit ib2))) (Eq.trans (congrArg (yM hL3 79) (show v12.toNat = ((yM h) 364 kL3.toNat).toNat by rw [sv12])) (Eq.trans (congrFun (congrFun iL3_4 79) (((yM h) 364 kL3.toNat).toNat)) rfl)))
          have T38 : v13 = yM h 79 (v12).toNat := by rw [sv13, sv12]
          refine zwW_p [(2, 4, 0), (1, 0, 2)] (q := 41) (ls' := [(2, 37), (0, a), (0, kL3), (0, v12), (0, v13)]) (st' := [(2, 37)]) (by decide +kernel) rfl ?_
          refine zwW_gc IhL3 (kd := 13) (bn := 95) (n := 97) (c := 365) (nx := 44) (by decide +kernel) ?_
          refine zwW_p [(1, 2, 0)] (q := 45) (ls' := [(2, 37), (0, a), (0, kL3), (0, v12), (0, v13)]) (st' := [(0, kL3), (2, 365)]) (by decide +kernel) rfl ?_
          refine zwW_al IhL3 (a1 := 365) (a2 := 365) (kd := 20) (n := 8) (t := 0) (lo := 0) (hi := 2) (nx := 46) (by decide +kernel) (by first | decide | exact ⟨by decide, by decide⟩) ib1 ?_
          intro v14 ev14 lv14 uv14
          have sv14 : v14 = (yM h) 365 kL3.toNat := Eq.trans ev14 (Eq.trans (Eq.symm (yM_p (h := hL3) (a := 365) (n := 8) (i := kL3.toNat) rfl (zit ib1))) (Eq.trans (congrFun (congrFun iL3_4 365) kL3.toNat) rfl))
          refine zwif_ne (q := 69) (nx := 49) (by decide +kernel) (fun c15 => ?_) (fun c15 => ?_)
          · refine zwW_p [(1, 0, 2)] (q := 70) (ls' := [(2, 37), (0, a), (0, kL3), (0, v12), (0, v13)]) (st' := [(2, 37)]) (by decide +kernel) rfl ?_
            refine zwW_gc IhL3 (kd := 13) (bn := 95) (n := 97) (c := 365) (nx := 73) (by decide +kernel) ?_
            refine zwW_p [(1, 2, 0)] (q := 74) (ls' := [(2, 37), (0, a), (0, kL3), (0, v12), (0, v13)]) (st' := [(0, kL3), (2, 365)]) (by decide +kernel) rfl ?_
            refine zwW_al IhL3 (a1 := 365) (a2 := 365) (kd := 20) (n := 8) (t := 0) (lo := 0) (hi := 2) (nx := 75) (by decide +kernel) (by first | decide | exact ⟨by decide, by decide⟩) ib1 ?_
            intro v16 ev16 lv16 uv16
            have sv16 : v16 = (yM h) 365 kL3.toNat := Eq.trans ev16 (Eq.trans (Eq.symm (yM_p (h := hL3) (a := 365) (n := 8) (i := kL3.toNat) rfl (zit ib1))) (Eq.trans (congrFun (congrFun iL3_4 365) kL3.toNat) rfl))
            refine zwW_p [(0, 1, 0)] (q := 76) (ls' := [(2, 37), (0, a), (0, kL3), (0, v12), (0, v13)]) (st' := [(0, 1), (0, v16)]) (by decide +kernel) rfl ?_
            refine zwic_ne (q := 100) (nx := 79) (by decide +kernel) (fun c17 => ?_) (fun c17 => ?_)
            · refine zwW_p [(1, 0, 2)] (q := 101) (ls' := [(2, 37), (0, a), (0, kL3), (0, v12), (0, v13)]) (st' := [(2, 37)]) (by decide +kernel) rfl ?_
              refine zwW_gc IhL3 (kd := 13) (bn := 95) (n := 97) (c := 365) (nx := 104) (by decide +kernel) ?_
              refine zwW_p [(1, 2, 0)] (q := 105) (ls' := [(2, 37), (0, a), (0, kL3), (0, v12), (0, v13)]) (st' := [(0, kL3), (2, 365)]) (by decide +kernel) rfl ?_
              refine zwW_al IhL3 (a1 := 365) (a2 := 365) (kd := 20) (n := 8) (t := 0) (lo := 0) (hi := 2) (nx := 106) (by decide +kernel) (by first | decide | exact ⟨by decide, by decide⟩) ib1 ?_
              intro v18 ev18 lv18 uv18
              have sv18 : v18 = (yM h) 365 kL3.toNat := Eq.trans ev18 (Eq.trans (Eq.symm (yM_p (h := hL3) (a := 365) (n := 8) (i := kL3.toNat) rfl (zit ib1))) (Eq.trans (congrFun (congrFun iL3_4 365) kL3.toNat) rfl))
              refine zwW_p [(0, 2, 0)] (q := 107) (ls' := [(2, 37), (0, a), (0, kL3), (0, v12), (0, v13)]) (st' := [(0, 2), (0, v18)]) (by decide +kernel) rfl ?_
              refine zwic_ne (q := 147) (nx := 110) (by decide +kernel) (fun c19 => ?_) (fun c19 => ?_)
              · have K147 : yOv hL3 = yGN (yOv h2) a ((kL3).toNat + 1) := by
                  rw [yGN_s, show (((kL3).toNat : Nat) : Int) = kL3 by omega]
                  first
                  | (rw [if_pos (by unfold yBt; omega)]; exact iL3_0)
                  | (rw [if_neg (by unfold yBt; omega)]; unfold yG1 yGv; rw [yGN_na (a := 364) (by decide) (by decide) (by decide), yGN_na (a := 365) (by decide) (by decide) (by decide), yGN_na (a := 79) (by decide) (by decide) (by decide), yOv_na (a := 364) (by decide) (by decide) (by decide), yOv_na (a := 365) (by decide) (by decide) (by decide), yOv_na (a := 79) (by decide) (by decide) (by decide), Z4, ← sv12, ← T38, ← sv14]; first | (rw [if_pos (show v14 = 0 by omega), ← iL3_0, ← V68]; exact yOv_w178 iL3_4 Z25 E68 S68 (by omega)) | (rw [if_pos (show v14 = 0 by omega), ← iL3_0, show min (yOv hL3 80 (v12).toNat + 1) 5 = yOv hL3 80 (v12).toNat from (by have q : yOv hL3 80 (v12).toNat = a := ea.symm; omega), zs_same]; done) | (rw [if_neg (show ¬ v14 = 0 by omega), if_pos (show v14 = 1 by omega), ← iL3_0, ← V99]; exact yOv_w179 iL3_4 Z25 E99 S99 (by omega)) | (rw [if_neg (show ¬ v14 = 0 by omega), if_pos (show v14 = 1 by omega), ← iL3_0, show min (yOv hL3 81 (v12).toNat + 1) 9 = yOv hL3 81 (v12).toNat from (by have q : yOv hL3 81 (v12).toNat = a := ea.symm; omega), zs_same]; done) | (rw [if_neg (show ¬ v14 = 0 by omega), if_neg (show ¬ v14 = 1 by omega), ← iL3_0, ← V146]; exact yOv_w177 iL3_4 Z25 E146 S146 (by omega)))
                  | (exfalso; omega)
                refine zwW_inc (i := 2) (c := 1) (x := kL3) (nx := 150) (by decide +kernel) rfl (by first | omega | exact ⟨by omega, by omega⟩) (ls' := [(2, 37), (0, a), (0, (kL3 + 1)), (0, v12), (0, v13)]) rfl ?_
                refine zwW_p [(24, 6, 0)] (q := 6) (ls' := [(2, 37), (0, a), (0, (kL3 + 1)), (0, v12), (0, v13)]) (st' := []) (by decide +kernel) rfl ?_
                exact IHL3 ((100 - (kL3 + 1))).toNat (by omega) (kL3 + 1) (0, v12) (0, v13) hL3 rfl (by rw [show (kL3 + 1).toNat = (kL3).toNat + 1 by omega]; exact K147) (by omega) (by omega) (by omega) (iL3_4) IhL3 RhL3
              · refine zwW_p [(1, 0, 2)] (q := 111) (ls' := [(2, 37), (0, a), (0, kL3), (0, v12), (0, v13)]) (st' := [(2, 37)]) (by decide +kernel) rfl ?_
                refine zwW_gc IhL3 (kd := 13) (bn := 66) (n := 97) (c := 177) (nx := 114) (by decide +kernel) ?_
                refine zwW_p [(1, 4, 0), (1, 0, 2)] (q := 117) (ls' := [(2, 37), (0, a), (0, kL3), (0, v12), (0, v13)]) (st' := [(2, 37), (0, v13), (2, 177)]) (by decide +kernel) rfl ?_
                refine zwW_gc IhL3 (kd := 13) (bn := 66) (n := 97) (c := 177) (nx := 120) (by decide +kernel) ?_
                refine zwW_p [(1, 4, 0)] (q := 122) (ls' := [(2, 37), (0, a), (0, kL3), (0, v12), (0, v13)]) (st' := [(0, v13), (2, 177), (0, v13), (2, 177)]) (by decide +kernel) rfl ?_
                have ib3 : 0 ≤ v13 ∧ v13 < ((8 : Nat) : Int) := (by first | omega | exact ⟨by omega, by omega⟩)
                refine zwW_al IhL3 (a1 := 177) (a2 := 177) (kd := 20) (n := 8) (t := 0) (lo := -2147483648) (hi := 2147483647) (nx := 123) (by decide +kernel) (by first | decide | exact ⟨by decide, by decide⟩) ib3 ?_
                intro v20 ev20 lv20 uv20
                have P123 : v20 = yOv hL3 66 (v13).toNat := by first | exact ev20 | (exfalso; omega)
                have KC := (BL.2.1 (v13).toNat (by rw [yOv_na (a := 37) (by decide) (by decide) (by decide), Z25]; show _ < fld h 37 1; omega)).1
                refine zwW_p [(0, 5, 0)] (q := 124) (ls' := [(2, 37), (0, a), (0, kL3), (0, v12), (0, v13)]) (st' := [(0, 5), (0, v20), (0, v13), (2, 177)]) (by decide +kernel) rfl ?_
                refine zwW_add (nx := 125) (by decide +kernel) (by first | omega | exact ⟨by omega, by omega⟩) ?_
                refine zwW_p [(0, 9999, 0)] (q := 128) (ls' := [(2, 37), (0, a), (0, kL3), (0, v12), (0, v13)]) (st' := [(0, 9999), (0, (v20 + 5)), (0, v13), (2, 177)]) (by decide +kernel) rfl ?_
                refine zwic_le (q := 137) (nx := 131) (by decide +kernel) (fun c21 => ?_) (fun c21 => ?_)
                · refine zwW_p [(1, 0, 2)] (q := 138) (ls' := [(2, 37), (0, a), (0, kL3), (0, v12), (0, v13)]) (st' := [(2, 37), (0, v13), (2, 177)]) (by decide +kernel) rfl ?_
                  refine zwW_gc IhL3 (kd := 13) (bn := 66) (n := 97) (c := 177) (nx := 141) (by decide +kernel) ?_
                  refine zwW_p [(1, 4, 0)] (q := 143) (ls' := [(2, 37), (0, a), (0, kL3), (0, v12), (0, v13)]) (st' := [(0, v13), (2, 177), (0, v13), (2, 177)]) (by decide +kernel) rfl ?_
                  refine zwW_al IhL3 (a1 := 177) (a2 := 177) (kd := 20) (n := 8) (t := 0) (lo := -2147483648) (hi := 2147483647) (nx := 144) (by decide +kernel) (by first | decide | exact ⟨by decide, by decide⟩) ib3 ?_
                  intro v22 ev22 lv22 uv22
                  have P144 : v22 = yOv hL3 66 (v13).toNat := by first | exact ev22 | (exfalso; omega)
                  refine zwW_p [(0, 5, 0)] (q := 145) (ls' := [(2, 37), (0, a), (0, kL3), (0, v12), (0, v13)]) (st' := [(0, 5), (0, v22), (0, v13), (2, 177)]) (by decide +kernel) rfl ?_
                  refine zwW_add (nx := 146) (by decide +kernel) (by first | omega | exact ⟨by omega, by omega⟩) ?_
                  refine zwW_as IhL3 (a1 := 177) (a2 := 177) (n := 8) (lo := -2147483648) (hi := 2147483647) (nx := 147) (by decide +kernel) (by first | decide | exact ⟨by decide, by decide⟩) ib3 (by first | omega | exact ⟨by omega, by omega⟩) ?_
                  intro h23 eh23 Ih23
                  have jbh23 : 0 ≤ v13.toNat ∧ v13.toNat < 8 := ⟨Nat.zero_le _, zit ib3⟩
                  have th23_37_0 : fld h23 37 0 = fld hL3 37 0 := by rw [eh23]; exact fld_wr (Or.inl (by decide))
                  have th23_37_1 : fld h23 37 1 = fld hL3 37 1 := by rw [eh23]; exact fld_wr (Or.inl (by decide))
                  have th23_37_2 : fld h23 37 2 = fld hL3 37 2 := by rw [eh23]; exact fld_wr (Or.inl (by decide))
                  have th23_37_96 : fld h23 37 96 = fld hL3 37 96 := by rw [eh23]; exact fld_wr (Or.inl (by decide))
                  have E146 := eh23
                  have S146 := (IhL3.s (r := 177) (a1 := 177) (a2 := 177) (k := 20) (n := 8) (by decide +kernel) (by decide) (by decide))
                  have V146 : (v22 + 5) = min (yOv hL3 66 (v13).toNat + 5) 9999 := by
                    have q : yOv hL3 66 (v13).toNat = v22 := ev22.symm
                    omega
                  have Zh23 : yM h23 = (yM h) := (yM_fr (ms := [(177, 177, 0, 8)]) (zMR.one (a1 := 177) (a2 := 177) (j1 := 0) (j2 := 8) (by first | decide | exact ⟨by decide, by decide⟩) jbh23 eh23) (by decide +kernel) (IhL3.b (a1 := 37) (a2 := 37) (j1 := 86) (j2 := 87) (lo := 0) (hi := 6) (by decide +kernel) (r := 37) (j := 86) (by decide) (by decide) (by decide) (by decide)).2).trans iL3_4
                  have Rh23 : zMR ms164 h h23 := RhL3.w (a1 := 177) (a2 := 177) (j1 := 0) (j2 := 8) (by decide +kernel) (by first | decide | exact ⟨by decide, by decide⟩) jbh23 eh23
                  have K147 : yOv h23 = yGN (yOv h2) a ((kL3).toNat + 1) := by
                    rw [yGN_s, show (((kL3).toNat : Nat) : Int) = kL3 by omega]
                    first
                    | (rw [if_pos (by unfold yBt; omega)]; exact iL3_0)
                    | (rw [if_neg (by unfold yBt; omega)]; unfold yG1 yGv; rw [yGN_na (a := 364) (by decide) (by decide) (by decide), yGN_na (a := 365) (by decide) (by decide) (by decide), yGN_na (a := 79) (by decide) (by decide) (by decide), yOv_na (a := 364) (by decide) (by decide) (by decide), yOv_na (a := 365) (by decide) (by decide) (by decide), yOv_na (a := 79) (by decide) (by decide) (by decide), Z4, ← sv12, ← T38, ← sv14]; first | (rw [if_pos (show v14 = 0 by omega), ← iL3_0, ← V68]; exact yOv_w178 Zh23 Z25 E68 S68 (by omega)) | (rw [if_pos (show v14 = 0 by omega), ← iL3_0, show min (yOv hL3 80 (v12).toNat + 1) 5 = yOv hL3 80 (v12).toNat from (by have q : yOv hL3 80 (v12).toNat = a := ea.symm; omega), zs_same]; done) | (rw [if_neg (show ¬ v14 = 0 by omega), if_pos (show v14 = 1 by omega), ← iL3_0, ← V99]; exact yOv_w179 Zh23 Z25 E99 S99 (by omega)) | (rw [if_neg (show ¬ v14 = 0 by omega), if_pos (show v14 = 1 by omega), ← iL3_0, show min (yOv hL3 81 (v12).toNat + 1) 9 = yOv hL3 81 (v12).toNat from (by have q : yOv hL3 81 (v12).toNat = a := ea.symm; omega), zs_same]; done) | (rw [if_neg (show ¬ v14 = 0 by omega), if_neg (show ¬ v14 = 1 by omega), ← iL3_0, ← V146]; exact yOv_w177 Zh23 Z25 E146 S146 (by omega)))
                    | (exfalso; omega)
                  refine zwW_inc (i := 2) (c := 1) (x := kL3) (nx := 150) (by decide +kernel) rfl (by first | omega | exact ⟨by omega, by omega⟩) (ls' := [(2, 37), (0, a), (0, (kL3 + 1)), (0, v12), (0, v13)]) rfl ?_
                  refine zwW_p [(24, 6, 0)] (q := 6) (ls' := [(2, 37), (0, a), (0, (kL3 + 1)), (0, v12), (0, v13)]) (st' := []) (by decide +kernel) rfl ?_
                  exact IHL3 ((100 - (kL3 + 1))).toNat (by omega) (kL3 + 1) (0, v12) (0, v13) h23 rfl (by rw [show (kL3 + 1).toNat = (kL3).toNat + 1 by omega]; exact K147) (by omega) (by omega) (by omega) (Zh23) Ih23 Rh23
                · refine zwW_p [(0, 9999, 0), (24, 146, 0)] (q := 146) (ls' := [(2, 37), (0, a), (0, kL3), (0, v12), (0, v13)]) (st' := [(0, 9999), (0, v13), (2, 177)]) (by decide +kernel) rfl ?_
                  refine zwW_as IhL3 (a1 := 177) (a2 := 177) (n := 8) (lo := -2147483648) (hi := 2147483647) (nx := 147) (by decide +kernel) (by first | decide | exact ⟨by decide, by decide⟩) ib3 (by first | decide | exact ⟨by decide, by decide⟩) ?_
                  intro h24 eh24 Ih24
                  have jbh24 : 0 ≤ v13.toNat ∧ v13.toNat < 8 := ⟨Nat.zero_le _, zit ib3⟩
                  have th24_37_0 : fld h24 37 0 = fld hL3 37 0 := by rw [eh24]; exact fld_wr (Or.inl (by decide))
                  have th24_37_1 : fld h24 37 1 = fld hL3 37 1 := by rw [eh24]; exact fld_wr (Or.inl (by decide))
                  have th24_37_2 : fld h24 37 2 = fld hL3 37 2 := by rw [eh24]; exact fld_wr (Or.inl (by decide))
                  have th24_37_96 : fld h24 37 96 = fld hL3 37 96 := by rw [eh24]; exact fld_wr (Or.inl (by decide))
                  have E146 := eh24
                  have S146 := (IhL3.s (r := 177) (a1 := 177) (a2 := 177) (k := 20) (n := 8) (by decide +kernel) (by decide) (by decide))
                  have V146 : 9999 = min (yOv hL3 66 (v13).toNat + 5) 9999 := by
                    have q : yOv hL3 66 (v13).toNat = v20 := ev20.symm
                    omega
                  have Zh24 : yM h24 = (yM h) := (yM_fr (ms := [(177, 177, 0, 8)]) (zMR.one (a1 := 177) (a2 := 177) (j1 := 0) (j2 := 8) (by first | decide | exact ⟨by decide, by decide⟩) jbh24 eh24) (by decide +kernel) (IhL3.b (a1 := 37) (a2 := 37) (j1 := 86) (j2 := 87) (lo := 0) (hi := 6) (by decide +kernel) (r := 37) (j := 86) (by decide) (by decide) (by decide) (by decide)).2).trans iL3_4
                  have Rh24 : zMR ms164 h h24 := RhL3.w (a1 := 177) (a2 := 177) (j1 := 0) (j2 := 8) (by decide +kernel) (by first | decide | exact ⟨by decide, by decide⟩) jbh24 eh24
                  have K147 : yOv h24 = yGN (yOv h2) a ((kL3).toNat + 1) := by
                    rw [yGN_s, show (((kL3).toNat : Nat) : Int) = kL3 by omega]
                    first
                    | (rw [if_pos (by unfold yBt; omega)]; exact iL3_0)
                    | (rw [if_neg (by unfold yBt; omega)]; unfold yG1 yGv; rw [yGN_na (a := 364) (by decide) (by decide) (by decide), yGN_na (a := 365) (by decide) (by decide) (by decide), yGN_na (a := 79) (by decide) (by decide) (by decide), yOv_na (a := 364) (by decide) (by decide) (by decide), yOv_na (a := 365) (by decide) (by decide) (by decide), yOv_na (a := 79) (by decide) (by decide) (by decide), Z4, ← sv12, ← T38, ← sv14]; first | (rw [if_pos (show v14 = 0 by omega), ← iL3_0, ← V68]; exact yOv_w178 Zh24 Z25 E68 S68 (by omega)) | (rw [if_pos (show v14 = 0 by omega), ← iL3_0, show min (yOv hL3 80 (v12).toNat + 1) 5 = yOv hL3 80 (v12).toNat from (by have q : yOv hL3 80 (v12).toNat = a := ea.symm; omega), zs_same]; done) | (rw [if_neg (show ¬ v14 = 0 by omega), if_pos (show v14 = 1 by omega), ← iL3_0, ← V99]; exact yOv_w179 Zh24 Z25 E99 S99 (by omega)) | (rw [if_neg (show ¬ v14 = 0 by omega), if_pos (show v14 = 1 by omega), ← iL3_0, show min (yOv hL3 81 (v12).toNat + 1) 9 = yOv hL3 81 (v12).toNat from (by have q : yOv hL3 81 (v12).toNat = a := ea.symm; omega), zs_same]; done) | (rw [if_neg (show ¬ v14 = 0 by omega), if_neg (show ¬ v14 = 1 by omega), ← iL3_0, ← V146]; exact yOv_w177 Zh24 Z25 E146 S146 (by omega)))
                    | (exfalso; omega)
                  refine zwW_inc (i := 2) (c := 1) (x := kL3) (nx := 150) (by decide +kernel) rfl (by first | omega | exact ⟨by omega, by omega⟩) (ls' := [(2, 37), (0, a), (0, (kL3 + 1)), (0, v12), (0, v13)]) rfl ?_
                  refine zwW_p [(24, 6, 0)] (q := 6) (ls' := [(2, 37), (0, a), (0, (kL3 + 1)), (0, v12), (0, v13)]) (st' := []) (by decide +kernel) rfl ?_
                  exact IHL3 ((100 - (kL3 + 1))).toNat (by omega) (kL3 + 1) (0, v12) (0, v13) h24 rfl (by rw [show (kL3 + 1).toNat = (kL3).toNat + 1 by omega]; exact K147) (by omega) (by omega) (by omega) (Zh24) Ih24 Rh24
            · refine zwW_p [(1, 0, 2)] (q := 80) (ls' := [(2, 37), (0, a), (0, kL3), (0, v12), (0, v13)]) (st' := [(2, 37)]) (by decide +kernel) rfl ?_
              refine zwW_gc IhL3 (kd := 13) (bn := 68) (n := 97) (c := 179) (nx := 83) (by decide +kernel) ?_
              refine zwW_p [(1, 3, 0)] (q := 84) (ls' := [(2, 37), (0, a), (0, kL3), (0, v12), (0, v13)]) (st' := [(0, v12), (2, 179)]) (by decide +kernel) rfl ?_
              refine zwW_al IhL3 (a1 := 179) (a2 := 179) (kd := 20) (n := 20) (t := 0) (lo := 0) (hi := 9) (nx := 85) (by decide +kernel) (by first | decide | exact ⟨by decide, by decide⟩) ib2 ?_
              intro v25 ev25 lv25 uv25
              have P85 : v25 = yOv hL3 81 (v12).toNat := by first | exact ev25 | (exfalso; omega)
              refine zwW_p [(0, 9, 0)] (q := 87) (ls' := [(2, 37), (0, a), (0, kL3), (0, v12), (0, v13)]) (st' := [(0, 9), (0, v25)]) (by decide +kernel) rfl ?_
              refine zwic_ge (q := 100) (nx := 90) (by decide +kernel) (fun c26 => ?_) (fun c26 => ?_)
              · refine zwW_p [(1, 0, 2)] (q := 101) (ls' := [(2, 37), (0, a), (0, kL3), (0, v12), (0, v13)]) (st' := [(2, 37)]) (by decide +kernel) rfl ?_
                refine zwW_gc IhL3 (kd := 13) (bn := 95) (n := 97) (c := 365) (nx := 104) (by decide +kernel) ?_
                refine zwW_p [(1, 2, 0)] (q := 105) (ls' := [(2, 37), (0, a), (0, kL3), (0, v12), (0, v13)]) (st' := [(0, kL3), (2, 365)]) (by decide +kernel) rfl ?_
                refine zwW_al IhL3 (a1 := 365) (a2 := 365) (kd := 20) (n := 8) (t := 0) (lo := 0) (hi := 2) (nx := 106) (by decide +kernel) (by first | decide | exact ⟨by decide, by decide⟩) ib1 ?_
                intro v27 ev27 lv27 uv27
                have sv27 : v27 = (yM h) 365 kL3.toNat := Eq.trans ev27 (Eq.trans (Eq.symm (yM_p (h := hL3) (a := 365) (n := 8) (i := kL3.toNat) rfl (zit ib1))) (Eq.trans (congrFun (congrFun iL3_4 365) kL3.toNat) rfl))
                refine zwW_p [(0, 2, 0)] (q := 107) (ls' := [(2, 37), (0, a), (0, kL3), (0, v12), (0, v13)]) (st' := [(0, 2), (0, v27)]) (by decide +kernel) rfl ?_
                refine zwic_ne (q := 147) (nx := 110) (by decide +kernel) (fun c28 => ?_) (fun c28 => ?_)
                · have K147 : yOv hL3 = yGN (yOv h2) a ((kL3).toNat + 1) := by
                    rw [yGN_s, show (((kL3).toNat : Nat) : Int) = kL3 by omega]
                    first
                    | (rw [if_pos (by unfold yBt; omega)]; exact iL3_0)
                    | (rw [if_neg (by unfold yBt; omega)]; unfold yG1 yGv; rw [yGN_na (a := 364) (by decide) (by decide) (by decide), yGN_na (a := 365) (by decide) (by decide) (by decide), yGN_na (a := 79) (by decide) (by decide) (by decide), yOv_na (a := 364) (by decide) (by decide) (by decide), yOv_na (a := 365) (by decide) (by decide) (by decide), yOv_na (a := 79) (by decide) (by decide) (by decide), Z4, ← sv12, ← T38, ← sv14]; first | (rw [if_pos (show v14 = 0 by omega), ← iL3_0, ← V68]; exact yOv_w178 iL3_4 Z25 E68 S68 (by omega)) | (rw [if_pos (show v14 = 0 by omega), ← iL3_0, show min (yOv hL3 80 (v12).toNat + 1) 5 = yOv hL3 80 (v12).toNat from (by have q : yOv hL3 80 (v12).toNat = a := ea.symm; omega), zs_same]; done) | (rw [if_neg (show ¬ v14 = 0 by omega), if_pos (show v14 = 1 by omega), ← iL3_0, ← V99]; exact yOv_w179 iL3_4 Z25 E99 S99 (by omega)) | (rw [if_neg (show ¬ v14 = 0 by omega), if_pos (show v14 = 1 by omega), ← iL3_0, show min (yOv hL3 81 (v12).toNat + 1) 9 = yOv hL3 81 (v12).toNat from (by have q : yOv hL3 81 (v12).toNat = v25 := ev25.symm; omega), zs_same]; done) | (rw [if_neg (show ¬ v14 = 0 by omega), if_neg (show ¬ v14 = 1 by omega), ← iL3_0, ← V146]; exact yOv_w177 iL3_4 Z25 E146 S146 (by omega)))
                    | (exfalso; omega)
                  refine zwW_inc (i := 2) (c := 1) (x := kL3) (nx := 150) (by decide +kernel) rfl (by first | omega | exact ⟨by omega, by omega⟩) (ls' := [(2, 37), (0, a), (0, (kL3 + 1)), (0, v12), (0, v13)]) rfl ?_
                  refine zwW_p [(24, 6, 0)] (q := 6) (ls' := [(2, 37), (0, a), (0, (kL3 + 1)), (0, v12), (0, v13)]) (st' := []) (by decide +kernel) rfl ?_
                  exact IHL3 ((100 - (kL3 + 1))).toNat (by omega) (kL3 + 1) (0, v12) (0, v13) hL3 rfl (by rw [show (kL3 + 1).toNat = (kL3).toNat + 1 by omega]; exact K147) (by omega) (by omega) (by omega) (iL3_4) IhL3 RhL3
                · refine zwW_p [(1, 0, 2)] (q := 111) (ls' := [(2, 37), (0, a), (0, kL3), (0, v12), (0, v13)]) (st' := [(2, 37)]) (by decide +kernel) rfl ?_
                  refine zwW_gc IhL3 (kd := 13) (bn := 66) (n := 97) (c := 177) (nx := 114) (by decide +kernel) ?_
                  refine zwW_p [(1, 4, 0), (1, 0, 2)] (q := 117) (ls' := [(2, 37), (0, a), (0, kL3), (0, v12), (0, v13)]) (st' := [(2, 37), (0, v13), (2, 177)]) (by decide +kernel) rfl ?_
                  refine zwW_gc IhL3 (kd := 13) (bn := 66) (n := 97) (c := 177) (nx := 120) (by decide +kernel) ?_
                  refine zwW_p [(1, 4, 0)] (q := 122) (ls' := [(2, 37), (0, a), (0, kL3), (0, v12), (0, v13)]) (st' := [(0, v13), (2, 177), (0, v13), (2, 177)]) (by decide +kernel) rfl ?_
                  have ib4 : 0 ≤ v13 ∧ v13 < ((8 : Nat) : Int) := (by first | omega | exact ⟨by omega, by omega⟩)
                  refine zwW_al IhL3 (a1 := 177) (a2 := 177) (kd := 20) (n := 8) (t := 0) (lo := -2147483648) (hi := 2147483647) (nx := 123) (by decide +kernel) (by first | decide | exact ⟨by decide, by decide⟩) ib4 ?_
                  intro v29 ev29 lv29 uv29
                  have P123 : v29 = yOv hL3 66 (v13).toNat := by first | exact ev29 | (exfalso; omega)
                  have KC := (BL.2.1 (v13).toNat (by rw [yOv_na (a := 37) (by decide) (by decide) (by decide), Z25]; show _ < fld h 37 1; omega)).1
                  refine zwW_p [(0, 5, 0)] (q := 124) (ls' := [(2, 37), (0, a), (0, kL3), (0, v12), (0, v13)]) (st' := [(0, 5), (0, v29), (0, v13), (2, 177)]) (by decide +kernel) rfl ?_
                  refine zwW_add (nx := 125) (by decide +kernel) (by first | omega | exact ⟨by omega, by omega⟩) ?_
                  refine zwW_p [(0, 9999, 0)] (q := 128) (ls' := [(2, 37), (0, a), (0, kL3), (0, v12), (0, v13)]) (st' := [(0, 9999), (0, (v29 + 5)), (0, v13), (2, 177)]) (by decide +kernel) rfl ?_
                  refine zwic_le (q := 137) (nx := 131) (by decide +kernel) (fun c30 => ?_) (fun c30 => ?_)
                  · refine zwW_p [(1, 0, 2)] (q := 138) (ls' := [(2, 37), (0, a), (0, kL3), (0, v12), (0, v13)]) (st' := [(2, 37), (0, v13), (2, 177)]) (by decide +kernel) rfl ?_
                    refine zwW_gc IhL3 (kd := 13) (bn := 66) (n := 97) (c := 177) (nx := 141) (by decide +kernel) ?_
                    refine zwW_p [(1, 4, 0)] (q := 143) (ls' := [(2, 37), (0, a), (0, kL3), (0, v12), (0, v13)]) (st' := [(0, v13), (2, 177), (0, v13), (2, 177)]) (by decide +kernel) rfl ?_
                    refine zwW_al IhL3 (a1 := 177) (a2 := 177) (kd := 20) (n := 8) (t := 0) (lo := -2147483648) (hi := 2147483647) (nx := 144) (by decide +kernel) (by first | decide | exact ⟨by decide, by decide⟩) ib4 ?_
                    intro v31 ev31 lv31 uv31
                    have P144 : v31 = yOv hL3 66 (v13).toNat := by first | exact ev31 | (exfalso; omega)
                    refine zwW_p [(0, 5, 0)] (q := 145) (ls' := [(2, 37), (0, a), (0, kL3), (0, v12), (0, v13)]) (st' := [(0, 5), (0, v31), (0, v13), (2, 177)]) (by decide +kernel) rfl ?_
                    refine zwW_add (nx := 146) (by decide +kernel) (by first | omega | exact ⟨by omega, by omega⟩) ?_
                    refine zwW_as IhL3 (a1 := 177) (a2 := 177) (n := 8) (lo := -2147483648) (hi := 2147483647) (nx := 147) (by decide +kernel) (by first | decide | exact ⟨by decide, by decide⟩) ib4 (by first | omega | exact ⟨by omega, by omega⟩) ?_
                    intro h32 eh32 Ih32
                    have jbh32 : 0 ≤ v13.toNat ∧ v13.toNat < 8 := ⟨Nat.zero_le _, zit ib4⟩
                    have th32_37_0 : fld h32 37 0 = fld hL3 37 0 := by rw [eh32]; exact fld_wr (Or.inl (by decide))
                    have th32_37_1 : fld h32 37 1 = fld hL3 37 1 := by rw [eh32]; exact fld_wr (Or.inl (by decide))
                    have th32_37_2 : fld h32 37 2 = fld hL3 37 2 := by rw [eh32]; exact fld_wr (Or.inl (by decide))
                    have th32_37_96 : fld h32 37 96 = fld hL3 37 96 := by rw [eh32]; exact fld_wr (Or.inl (by decide))
                    have E146 := eh32
                    have S146 := (IhL3.s (r := 177) (a1 := 177) (a2 := 177) (k := 20) (n := 8) (by decide +kernel) (by decide) (by decide))
                    have V146 : (v31 + 5) = min (yOv hL3 66 (v13).toNat + 5) 9999 := by
                      have q : yOv hL3 66 (v13).toNat = v31 := ev31.symm
                      omega
                    have Zh32 : yM h32 = (yM h) := (yM_fr (ms := [(177, 177, 0, 8)]) (zMR.one (a1 := 177) (a2 := 177) (j1 := 0) (j2 := 8) (by first | decide | exact ⟨by decide, by decide⟩) jbh32 eh32) (by decide +kernel) (IhL3.b (a1 := 37) (a2 := 37) (j1 := 86) (j2 := 87) (lo := 0) (hi := 6) (by decide +kernel) (r := 37) (j := 86) (by decide) (by decide) (by decide) (by decide)).2).trans iL3_4
                    have Rh32 : zMR ms164 h h32 := RhL3.w (a1 := 177) (a2 := 177) (j1 := 0) (j2 := 8) (by decide +kernel) (by first | decide | exact ⟨by decide, by decide⟩) jbh32 eh32
                    have K147 : yOv h32 = yGN (yOv h2) a ((kL3).toNat + 1) := by
                      rw [yGN_s, show (((kL3).toNat : Nat) : Int) = kL3 by omega]
                      first
                      | (rw [if_pos (by unfold yBt; omega)]; exact iL3_0)
                      | (rw [if_neg (by unfold yBt; omega)]; unfold yG1 yGv; rw [yGN_na (a := 364) (by decide) (by decide) (by decide), yGN_na (a := 365) (by decide) (by decide) (by decide), yGN_na (a := 79) (by decide) (by decide) (by decide), yOv_na (a := 364) (by decide) (by decide) (by decide), yOv_na (a := 365) (by decide) (by decide) (by decide), yOv_na (a := 79) (by decide) (by decide) (by decide), Z4, ← sv12, ← T38, ← sv14]; first | (rw [if_pos (show v14 = 0 by omega), ← iL3_0, ← V68]; exact yOv_w178 Zh32 Z25 E68 S68 (by omega)) | (rw [if_pos (show v14 = 0 by omega), ← iL3_0, show min (yOv hL3 80 (v12).toNat + 1) 5 = yOv hL3 80 (v12).toNat from (by have q : yOv hL3 80 (v12).toNat = a := ea.symm; omega), zs_same]; done) | (rw [if_neg (show ¬ v14 = 0 by omega), if_pos (show v14 = 1 by omega), ← iL3_0, ← V99]; exact yOv_w179 Zh32 Z25 E99 S99 (by omega)) | (rw [if_neg (show ¬ v14 = 0 by omega), if_pos (show v14 = 1 by omega), ← iL3_0, show min (yOv hL3 81 (v12).toNat + 1) 9 = yOv hL3 81 (v12).toNat from (by have q : yOv hL3 81 (v12).toNat = v25 := ev25.symm; omega), zs_same]; done) | (rw [if_neg (show ¬ v14 = 0 by omega), if_neg (show ¬ v14 = 1 by omega), ← iL3_0, ← V146]; exact yOv_w177 Zh32 Z25 E146 S146 (by omega)))
                      | (exfalso; omega)
                    refine zwW_inc (i := 2) (c := 1) (x := kL3) (nx := 150) (by decide +kernel) rfl (by first | omega | exact ⟨by omega, by omega⟩) (ls' := [(2, 37), (0, a), (0, (kL3 + 1)), (0, v12), (0, v13)]) rfl ?_
                    refine zwW_p [(24, 6, 0)] (q := 6) (ls' := [(2, 37), (0, a), (0, (kL3 + 1)), (0, v12), (0, v13)]) (st' := []) (by decide +kernel) rfl ?_
                    exact IHL3 ((100 - (kL3 + 1))).toNat (by omega) (kL3 + 1) (0, v12) (0, v13) h32 rfl (by rw [show (kL3 + 1).toNat = (kL3).toNat + 1 by omega]; exact K147) (by omega) (by omega) (by omega) (Zh32) Ih32 Rh32
                  · refine zwW_p [(0, 9999, 0), (24, 146, 0)] (q := 146) (ls' := [(2, 37), (0, a), (0, kL3), (0, v12), (0, v13)]) (st' := [(0, 9999), (0, v13), (2, 177)]) (by decide +kernel) rfl ?_
                    refine zwW_as IhL3 (a1 := 177) (a2 := 177) (n := 8) (lo := -2147483648) (hi := 2147483647) (nx := 147) (by decide +kernel) (by first | decide | exact ⟨by decide, by decide⟩) ib4 (by first | decide | exact ⟨by decide, by decide⟩) ?_
                    intro h33 eh33 Ih33
                    have jbh33 : 0 ≤ v13.toNat ∧ v13.toNat < 8 := ⟨Nat.zero_le _, zit ib4⟩
                    have th33_37_0 : fld h33 37 0 = fld hL3 37 0 := by rw [eh33]; exact fld_wr (Or.inl (by decide))
                    have th33_37_1 : fld h33 37 1 = fld hL3 37 1 := by rw [eh33]; exact fld_wr (Or.inl (by decide))
                    have th33_37_2 : fld h33 37 2 = fld hL3 37 2 := by rw [eh33]; exact fld_wr (Or.inl (by decide))
                    have th33_37_96 : fld h33 37 96 = fld hL3 37 96 := by rw [eh33]; exact fld_wr (Or.inl (by decide))
                    have E146 := eh33
                    have S146 := (IhL3.s (r := 177) (a1 := 177) (a2 := 177) (k := 20) (n := 8) (by decide +kernel) (by decide) (by decide))
                    have V146 : 9999 = min (yOv hL3 66 (v13).toNat + 5) 9999 := by
                      have q : yOv hL3 66 (v13).toNat = v29 := ev29.symm
                      omega
                    have Zh33 : yM h33 = (yM h) := (yM_fr (ms := [(177, 177, 0, 8)]) (zMR.one (a1 := 177) (a2 := 177) (j1 := 0) (j2 := 8) (by first | decide | exact ⟨by decide, by decide⟩) jbh33 eh33) (by decide +kernel) (IhL3.b (a1 := 37) (a2 := 37) (j1 := 86) (j2 := 87) (lo := 0) (hi := 6) (by decide +kernel) (r := 37) (j := 86) (by decide) (by decide) (by decide) (by decide)).2).trans iL3_4
                    have Rh33 : zMR ms164 h h33 := RhL3.w (a1 := 177) (a2 := 177) (j1 := 0) (j2 := 8) (by decide +kernel) (by first | decide | exact ⟨by decide, by decide⟩) jbh33 eh33
                    have K147 : yOv h33 = yGN (yOv h2) a ((kL3).toNat + 1) := by
                      rw [yGN_s, show (((kL3).toNat : Nat) : Int) = kL3 by omega]
                      first
                      | (rw [if_pos (by unfold yBt; omega)]; exact iL3_0)
                      | (rw [if_neg (by unfold yBt; omega)]; unfold yG1 yGv; rw [yGN_na (a := 364) (by decide) (by decide) (by decide), yGN_na (a := 365) (by decide) (by decide) (by decide), yGN_na (a := 79) (by decide) (by decide) (by decide), yOv_na (a := 364) (by decide) (by decide) (by decide), yOv_na (a := 365) (by decide) (by decide) (by decide), yOv_na (a := 79) (by decide) (by decide) (by decide), Z4, ← sv12, ← T38, ← sv14]; first | (rw [if_pos (show v14 = 0 by omega), ← iL3_0, ← V68]; exact yOv_w178 Zh33 Z25 E68 S68 (by omega)) | (rw [if_pos (show v14 = 0 by omega), ← iL3_0, show min (yOv hL3 80 (v12).toNat + 1) 5 = yOv hL3 80 (v12).toNat from (by have q : yOv hL3 80 (v12).toNat = a := ea.symm; omega), zs_same]; done) | (rw [if_neg (show ¬ v14 = 0 by omega), if_pos (show v14 = 1 by omega), ← iL3_0, ← V99]; exact yOv_w179 Zh33 Z25 E99 S99 (by omega)) | (rw [if_neg (show ¬ v14 = 0 by omega), if_pos (show v14 = 1 by omega), ← iL3_0, show min (yOv hL3 81 (v12).toNat + 1) 9 = yOv hL3 81 (v12).toNat from (by have q : yOv hL3 81 (v12).toNat = v25 := ev25.symm; omega), zs_same]; done) | (rw [if_neg (show ¬ v14 = 0 by omega), if_neg (show ¬ v14 = 1 by omega), ← iL3_0, ← V146]; exact yOv_w177 Zh33 Z25 E146 S146 (by omega)))
                      | (exfalso; omega)
                    refine zwW_inc (i := 2) (c := 1) (x := kL3) (nx := 150) (by decide +kernel) rfl (by first | omega | exact ⟨by omega, by omega⟩) (ls' := [(2, 37), (0, a), (0, (kL3 + 1)), (0, v12), (0, v13)]) rfl ?_
                    refine zwW_p [(24, 6, 0)] (q := 6) (ls' := [(2, 37), (0, a), (0, (kL3 + 1)), (0, v12), (0, v13)]) (st' := []) (by decide +kernel) rfl ?_
                    exact IHL3 ((100 - (kL3 + 1))).toNat (by omega) (kL3 + 1) (0, v12) (0, v13) h33 rfl (by rw [show (kL3 + 1).toNat = (kL3).toNat + 1 by omega]; exact K147) (by omega) (by omega) (by omega) (Zh33) Ih33 Rh33
              · refine zwW_p [(1, 0, 2)] (q := 91) (ls' := [(2, 37), (0, a), (0, kL3), (0, v12), (0, v13)]) (st' := [(2, 37)]) (by decide +kernel) rfl ?_
                refine zwW_gc IhL3 (kd := 13) (bn := 68) (n := 97) (c := 179) (nx := 94) (by decide +kernel) ?_
                refine zwW_p [(1, 3, 0), (14, 0, 0)] (q := 96) (ls' := [(2, 37), (0, a), (0, kL3), (0, v12), (0, v13)]) (st' := [(0, v12), (2, 179), (0, v12), (2, 179)]) (by decide +kernel) rfl ?_
                refine zwW_al IhL3 (a1 := 179) (a2 := 179) (kd := 20) (n := 20) (t := 0) (lo := 0) (hi := 9) (nx := 97) (by decide +kernel) (by first | decide | exact ⟨by decide, by decide⟩) ib2 ?_
                intro v34 ev34 lv34 uv34
                refine zwW_p [(0, 1, 0)] (q := 98) (ls' := [(2, 37), (0, a), (0, kL3), (0, v12), (0, v13)]) (st' := [(0, 1), (0, v34), (0, v12), (2, 179)]) (by decide +kernel) rfl ?_
                refine zwW_add (nx := 99) (by decide +kernel) (by first | omega | exact ⟨by omega, by omega⟩) ?_
                refine zwW_as IhL3 (a1 := 179) (a2 := 179) (n := 20) (lo := 0) (hi := 9) (nx := 100) (by decide +kernel) (by first | decide | exact ⟨by decide, by decide⟩) ib2 (by first | omega | exact ⟨by omega, by omega⟩) ?_
                intro h35 eh35 Ih35
                have jbh35 : 0 ≤ v12.toNat ∧ v12.toNat < 20 := ⟨Nat.zero_le _, zit ib2⟩
                have th35_37_0 : fld h35 37 0 = fld hL3 37 0 := by rw [eh35]; exact fld_wr (Or.inl (by decide))
                have th35_37_1 : fld h35 37 1 = fld hL3 37 1 := by rw [eh35]; exact fld_wr (Or.inl (by decide))
                have th35_37_2 : fld h35 37 2 = fld hL3 37 2 := by rw [eh35]; exact fld_wr (Or.inl (by decide))
                have th35_37_96 : fld h35 37 96 = fld hL3 37 96 := by rw [eh35]; exact fld_wr (Or.inl (by decide))
                have E99 := eh35
                have S99 := (IhL3.s (r := 179) (a1 := 179) (a2 := 179) (k := 20) (n := 20) (by decide +kernel) (by decide) (by decide))
                have V99 : (v34 + 1) = min (yOv hL3 81 (v12).toNat + 1) 9 := by
                  have q : yOv hL3 81 (v12).toNat = v34 := ev34.symm
                  omega
                have Zh35 : yM h35 = (yM h) := (yM_fr (ms := [(179, 179, 0, 20)]) (zMR.one (a1 := 179) (a2 := 179) (j1 := 0) (j2 := 20) (by first | decide | exact ⟨by decide, by decide⟩) jbh35 eh35) (by decide +kernel) (IhL3.b (a1 := 37) (a2 := 37) (j1 := 86) (j2 := 87) (lo := 0) (hi := 6) (by decide +kernel) (r := 37) (j := 86) (by decide) (by decide) (by decide) (by decide)).2).trans iL3_4
                have Rh35 : zMR ms164 h h35 := RhL3.w (a1 := 179) (a2 := 179) (j1 := 0) (j2 := 20) (by decide +kernel) (by first | decide | exact ⟨by decide, by decide⟩) jbh35 eh35
                refine zwW_p [(1, 0, 2)] (q := 101) (ls' := [(2, 37), (0, a), (0, kL3), (0, v12), (0, v13)]) (st' := [(2, 37)]) (by decide +kernel) rfl ?_
                refine zwW_gc Ih35 (kd := 13) (bn := 95) (n := 97) (c := 365) (nx := 104) (by decide +kernel) ?_
                refine zwW_p [(1, 2, 0)] (q := 105) (ls' := [(2, 37), (0, a), (0, kL3), (0, v12), (0, v13)]) (st' := [(0, kL3), (2, 365)]) (by decide +kernel) rfl ?_
                refine zwW_al Ih35 (a1 := 365) (a2 := 365) (kd := 20) (n := 8) (t := 0) (lo := 0) (hi := 2) (nx := 106) (by decide +kernel) (by first | decide | exact ⟨by decide, by decide⟩) ib1 ?_
                intro v36 ev36 lv36 uv36
                have sv36 : v36 = (yM h) 365 kL3.toNat := Eq.trans ev36 (Eq.trans (Eq.symm (yM_p (h := h35) (a := 365) (n := 8) (i := kL3.toNat) rfl (zit ib1))) (Eq.trans (congrFun (congrFun Zh35 365) kL3.toNat) rfl))
                refine zwW_p [(0, 2, 0)] (q := 107) (ls' := [(2, 37), (0, a), (0, kL3), (0, v12), (0, v13)]) (st' := [(0, 2), (0, v36)]) (by decide +kernel) rfl ?_
                refine zwic_ne (q := 147) (nx := 110) (by decide +kernel) (fun c37 => ?_) (fun c37 => ?_)
                · have K147 : yOv h35 = yGN (yOv h2) a ((kL3).toNat + 1) := by
                    rw [yGN_s, show (((kL3).toNat : Nat) : Int) = kL3 by omega]
                    first
                    | (rw [if_pos (by unfold yBt; omega)]; exact iL3_0)
                    | (rw [if_neg (by unfold yBt; omega)]; unfold yG1 yGv; rw [yGN_na (a := 364) (by decide) (by decide) (by decide), yGN_na (a := 365) (by decide) (by decide) (by decide), yGN_na (a := 79) (by decide) (by decide) (by decide), yOv_na (a := 364) (by decide) (by decide) (by decide), yOv_na (a := 365) (by decide) (by decide) (by decide), yOv_na (a := 79) (by decide) (by decide) (by decide), Z4, ← sv12, ← T38, ← sv14]; first | (rw [if_pos (show v14 = 0 by omega), ← iL3_0, ← V68]; exact yOv_w178 Zh35 Z25 E68 S68 (by omega)) | (rw [if_pos (show v14 = 0 by omega), ← iL3_0, show min (yOv hL3 80 (v12).toNat + 1) 5 = yOv hL3 80 (v12).toNat from (by have q : yOv hL3 80 (v12).toNat = a := ea.symm; omega), zs_same]; done) | (rw [if_neg (show ¬ v14 = 0 by omega), if_pos (show v14 = 1 by omega), ← iL3_0, ← V99]; exact yOv_w179 Zh35 Z25 E99 S99 (by omega)) | (rw [if_neg (show ¬ v14 = 0 by omega), if_pos (show v14 = 1 by omega), ← iL3_0, show min (yOv hL3 81 (v12).toNat + 1) 9 = yOv hL3 81 (v12).toNat from (by have q : yOv hL3 81 (v12).toNat = v34 := ev34.symm; omega), zs_same]; done) | (rw [if_neg (show ¬ v14 = 0 by omega), if_neg (show ¬ v14 = 1 by omega), ← iL3_0, ← V146]; exact yOv_w177 Zh35 Z25 E146 S146 (by omega)))
                    | (exfalso; omega)
                  refine zwW_inc (i := 2) (c := 1) (x := kL3) (nx := 150) (by decide +kernel) rfl (by first | omega | exact ⟨by omega, by omega⟩) (ls' := [(2, 37), (0, a), (0, (kL3 + 1)), (0, v12), (0, v13)]) rfl ?_
                  refine zwW_p [(24, 6, 0)] (q := 6) (ls' := [(2, 37), (0, a), (0, (kL3 + 1)), (0, v12), (0, v13)]) (st' := []) (by decide +kernel) rfl ?_
                  exact IHL3 ((100 - (kL3 + 1))).toNat (by omega) (kL3 + 1) (0, v12) (0, v13) h35 rfl (by rw [show (kL3 + 1).toNat = (kL3).toNat + 1 by omega]; exact K147) (by omega) (by omega) (by omega) (Zh35) Ih35 Rh35
                · refine zwW_p [(1, 0, 2)] (q := 111) (ls' := [(2, 37), (0, a), (0, kL3), (0, v12), (0, v13)]) (st' := [(2, 37)]) (by decide +kernel) rfl ?_
                  refine zwW_gc Ih35 (kd := 13) (bn := 66) (n := 97) (c := 177) (nx := 114) (by decide +kernel) ?_
                  refine zwW_p [(1, 4, 0), (1, 0, 2)] (q := 117) (ls' := [(2, 37), (0, a), (0, kL3), (0, v12), (0, v13)]) (st' := [(2, 37), (0, v13), (2, 177)]) (by decide +kernel) rfl ?_
                  refine zwW_gc Ih35 (kd := 13) (bn := 66) (n := 97) (c := 177) (nx := 120) (by decide +kernel) ?_
                  refine zwW_p [(1, 4, 0)] (q := 122) (ls' := [(2, 37), (0, a), (0, kL3), (0, v12), (0, v13)]) (st' := [(0, v13), (2, 177), (0, v13), (2, 177)]) (by decide +kernel) rfl ?_
                  have ib5 : 0 ≤ v13 ∧ v13 < ((8 : Nat) : Int) := (by first | omega | exact ⟨by omega, by omega⟩)
                  refine zwW_al Ih35 (a1 := 177) (a2 := 177) (kd := 20) (n := 8) (t := 0) (lo := -2147483648) (hi := 2147483647) (nx := 123) (by decide +kernel) (by first | decide | exact ⟨by decide, by decide⟩) ib5 ?_
                  intro v38 ev38 lv38 uv38
                  have P123 : v38 = yOv hL3 66 (v13).toNat := by first | exact ev38 | (exfalso; omega)
                  have KC := (BL.2.1 (v13).toNat (by rw [yOv_na (a := 37) (by decide) (by decide) (by decide), Z25]; show _ < fld h 37 1; omega)).1
                  refine zwW_p [(0, 5, 0)] (q := 124) (ls' := [(2, 37), (0, a), (0, kL3), (0, v12), (0, v13)]) (st' := [(0, 5), (0, v38), (0, v13), (2, 177)]) (by decide +kernel) rfl ?_
                  refine zwW_add (nx := 125) (by decide +kernel) (by first | omega | exact ⟨by omega, by omega⟩) ?_
                  refine zwW_p [(0, 9999, 0)] (q := 128) (ls' := [(2, 37), (0, a), (0, kL3), (0, v12), (0, v13)]) (st' := [(0, 9999), (0, (v38 + 5)), (0, v13), (2, 177)]) (by decide +kernel) rfl ?_
                  refine zwic_le (q := 137) (nx := 131) (by decide +kernel) (fun c39 => ?_) (fun c39 => ?_)
                  · refine zwW_p [(1, 0, 2)] (q := 138) (ls' := [(2, 37), (0, a), (0, kL3), (0, v12), (0, v13)]) (st' := [(2, 37), (0, v13), (2, 177)]) (by decide +kernel) rfl ?_
                    refine zwW_gc Ih35 (kd := 13) (bn := 66) (n := 97) (c := 177) (nx := 141) (by decide +kernel) ?_
                    refine zwW_p [(1, 4, 0)] (q := 143) (ls' := [(2, 37), (0, a), (0, kL3), (0, v12), (0, v13)]) (st' := [(0, v13), (2, 177), (0, v13), (2, 177)]) (by decide +kernel) rfl ?_
                    refine zwW_al Ih35 (a1 := 177) (a2 := 177) (kd := 20) (n := 8) (t := 0) (lo := -2147483648) (hi := 2147483647) (nx := 144) (by decide +kernel) (by first | decide | exact ⟨by decide, by decide⟩) ib5 ?_
                    intro v40 ev40 lv40 uv40
                    have P144 : v40 = yOv hL3 66 (v13).toNat := by first | exact ev40 | (exfalso; omega)
                    refine zwW_p [(0, 5, 0)] (q := 145) (ls' := [(2, 37), (0, a), (0, kL3), (0, v12), (0, v13)]) (st' := [(0, 5), (0, v40), (0, v13), (2, 177)]) (by decide +kernel) rfl ?_
                    refine zwW_add (nx := 146) (by decide +kernel) (by first | omega | exact ⟨by omega, by omega⟩) ?_
                    refine zwW_as Ih35 (a1 := 177) (a2 := 177) (n := 8) (lo := -2147483648) (hi := 2147483647) (nx := 147) (by decide +kernel) (by first | decide | exact ⟨by decide, by decide⟩) ib5 (by first | omega | exact ⟨by omega, by omega⟩) ?_
                    intro h41 eh41 Ih41
                    have jbh41 : 0 ≤ v13.toNat ∧ v13.toNat < 8 := ⟨Nat.zero_le _, zit ib5⟩
                    have th41_37_0 : fld h41 37 0 = fld h35 37 0 := by rw [eh41]; exact fld_wr (Or.inl (by decide))
                    have th41_37_1 : fld h41 37 1 = fld h35 37 1 := by rw [eh41]; exact fld_wr (Or.inl (by decide))
                    have th41_37_2 : fld h41 37 2 = fld h35 37 2 := by rw [eh41]; exact fld_wr (Or.inl (by decide))
                    have th41_37_96 : fld h41 37 96 = fld h35 37 96 := by rw [eh41]; exact fld_wr (Or.inl (by decide))
                    have E146 := eh41
                    have S146 := (Ih35.s (r := 177) (a1 := 177) (a2 := 177) (k := 20) (n := 8) (by decide +kernel) (by decide) (by decide))
                    have V146 : (v40 + 5) = min (yOv h35 66 (v13).toNat + 5) 9999 := by
                      have q : yOv h35 66 (v13).toNat = v40 := ev40.symm
                      omega
                    have Zh41 : yM h41 = (yM h) := (yM_fr (ms := [(177, 177, 0, 8)]) (zMR.one (a1 := 177) (a2 := 177) (j1 := 0) (j2 := 8) (by first | decide | exact ⟨by decide, by decide⟩) jbh41 eh41) (by decide +kernel) (Ih35.b (a1 := 37) (a2 := 37) (j1 := 86) (j2 := 87) (lo := 0) (hi := 6) (by decide +kernel) (r := 37) (j := 86) (by decide) (by decide) (by decide) (by decide)).2).trans Zh35
                    have Rh41 : zMR ms164 h h41 := Rh35.w (a1 := 177) (a2 := 177) (j1 := 0) (j2 := 8) (by decide +kernel) (by first | decide | exact ⟨by decide, by decide⟩) jbh41 eh41
                    have K147 : yOv h41 = yGN (yOv h2) a ((kL3).toNat + 1) := by
                      rw [yGN_s, show (((kL3).toNat : Nat) : Int) = kL3 by omega]
                      first
                      | (rw [if_pos (by unfold yBt; omega)]; exact iL3_0)
                      | (rw [if_neg (by unfold yBt; omega)]; unfold yG1 yGv; rw [yGN_na (a := 364) (by decide) (by decide) (by decide), yGN_na (a := 365) (by decide) (by decide) (by decide), yGN_na (a := 79) (by decide) (by decide) (by decide), yOv_na (a := 364) (by decide) (by decide) (by decide), yOv_na (a := 365) (by decide) (by decide) (by decide), yOv_na (a := 79) (by decide) (by decide) (by decide), Z4, ← sv12, ← T38, ← sv14]; first | (rw [if_pos (show v14 = 0 by omega), ← iL3_0, ← V68]; exact yOv_w178 Zh41 Z25 E68 S68 (by omega)) | (rw [if_pos (show v14 = 0 by omega), ← iL3_0, show min (yOv hL3 80 (v12).toNat + 1) 5 = yOv hL3 80 (v12).toNat from (by have q : yOv hL3 80 (v12).toNat = a := ea.symm; omega), zs_same]; done) | (rw [if_neg (show ¬ v14 = 0 by omega), if_pos (show v14 = 1 by omega), ← iL3_0, ← V99]; exact yOv_w179 Zh41 Z25 E99 S99 (by omega)) | (rw [if_neg (show ¬ v14 = 0 by omega), if_pos (show v14 = 1 by omega), ← iL3_0, show min (yOv hL3 81 (v12).toNat + 1) 9 = yOv hL3 81 (v12).toNat from (by have q : yOv hL3 81 (v12).toNat = v34 := ev34.symm; omega), zs_same]; done) | (rw [if_neg (show ¬ v14 = 0 by omega), if_neg (show ¬ v14 = 1 by omega), ← iL3_0, ← V146]; exact yOv_w177 Zh41 Z25 E146 S146 (by omega)))
                      | (exfalso; omega)
                    refine zwW_inc (i := 2) (c := 1) (x := kL3) (nx := 150) (by decide +kernel) rfl (by first | omega | exact ⟨by omega, by omega⟩) (ls' := [(2, 37), (0, a), (0, (kL3 + 1)), (0, v12), (0, v13)]) rfl ?_
                    refine zwW_p [(24, 6, 0)] (q := 6) (ls' := [(2, 37), (0, a), (0, (kL3 + 1)), (0, v12), (0, v13)]) (st' := []) (by decide +kernel) rfl ?_
                    exact IHL3 ((100 - (kL3 + 1))).toNat (by omega) (kL3 + 1) (0, v12) (0, v13) h41 rfl (by rw [show (kL3 + 1).toNat = (kL3).toNat + 1 by omega]; exact K147) (by omega) (by omega) (by omega) (Zh41) Ih41 Rh41
                  · refine zwW_p [(0, 9999, 0), (24, 146, 0)] (q := 146) (ls' := [(2, 37), (0, a), (0, kL3), (0, v12), (0, v13)]) (st' := [(0, 9999), (0, v13), (2, 177)]) (by decide +kernel) rfl ?_
                    refine zwW_as Ih35 (a1 := 177) (a2 := 177) (n := 8) (lo := -2147483648) (hi := 2147483647) (nx := 147) (by decide +kernel) (by first | decide | exact ⟨by decide, by decide⟩) ib5 (by first | decide | exact ⟨by decide, by decide⟩) ?_
                    intro h42 eh42 Ih42
                    have jbh42 : 0 ≤ v13.toNat ∧ v13.toNat < 8 := ⟨Nat.zero_le _, zit ib5⟩
                    have th42_37_0 : fld h42 37 0 = fld h35 37 0 := by rw [eh42]; exact fld_wr (Or.inl (by decide))
                    have th42_37_1 : fld h42 37 1 = fld h35 37 1 := by rw [eh42]; exact fld_wr (Or.inl (by decide))
                    have th42_37_2 : fld h42 37 2 = fld h35 37 2 := by rw [eh42]; exact fld_wr (Or.inl (by decide))
                    have th42_37_96 : fld h42 37 96 = fld h35 37 96 := by rw [eh42]; exact fld_wr (Or.inl (by decide))
                    have E146 := eh42
                    have S146 := (Ih35.s (r := 177) (a1 := 177) (a2 := 177) (k := 20) (n := 8) (by decide +kernel) (by decide) (by decide))
                    have V146 : 9999 = min (yOv h35 66 (v13).toNat + 5) 9999 := by
                      have q : yOv h35 66 (v13).toNat = v38 := ev38.symm
                      omega
                    have Zh42 : yM h42 = (yM h) := (yM_fr (ms := [(177, 177, 0, 8)]) (zMR.one (a1 := 177) (a2 := 177) (j1 := 0) (j2 := 8) (by first | decide | exact ⟨by decide, by decide⟩) jbh42 eh42) (by decide +kernel) (Ih35.b (a1 := 37) (a2 := 37) (j1 := 86) (j2 := 87) (lo := 0) (hi := 6) (by decide +kernel) (r := 37) (j := 86) (by decide) (by decide) (by decide) (by decide)).2).trans Zh35
                    have Rh42 : zMR ms164 h h42 := Rh35.w (a1 := 177) (a2 := 177) (j1 := 0) (j2 := 8) (by decide +kernel) (by first | decide | exact ⟨by decide, by decide⟩) jbh42 eh42
                    have K147 : yOv h42 = yGN (yOv h2) a ((kL3).toNat + 1) := by
                      rw [yGN_s, show (((kL3).toNat : Nat) : Int) = kL3 by omega]
                      first
                      | (rw [if_pos (by unfold yBt; omega)]; exact iL3_0)
                      | (rw [if_neg (by unfold yBt; omega)]; unfold yG1 yGv; rw [yGN_na (a := 364) (by decide) (by decide) (by decide), yGN_na (a := 365) (by decide) (by decide) (by decide), yGN_na (a := 79) (by decide) (by decide) (by decide), yOv_na (a := 364) (by decide) (by decide) (by decide), yOv_na (a := 365) (by decide) (by decide) (by decide), yOv_na (a := 79) (by decide) (by decide) (by decide), Z4, ← sv12, ← T38, ← sv14]; first | (rw [if_pos (show v14 = 0 by omega), ← iL3_0, ← V68]; exact yOv_w178 Zh42 Z25 E68 S68 (by omega)) | (rw [if_pos (show v14 = 0 by omega), ← iL3_0, show min (yOv hL3 80 (v12).toNat + 1) 5 = yOv hL3 80 (v12).toNat from (by have q : yOv hL3 80 (v12).toNat = a := ea.symm; omega), zs_same]; done) | (rw [if_neg (show ¬ v14 = 0 by omega), if_pos (show v14 = 1 by omega), ← iL3_0, ← V99]; exact yOv_w179 Zh42 Z25 E99 S99 (by omega)) | (rw [if_neg (show ¬ v14 = 0 by omega), if_pos (show v14 = 1 by omega), ← iL3_0, show min (yOv hL3 81 (v12).toNat + 1) 9 = yOv hL3 81 (v12).toNat from (by have q : yOv hL3 81 (v12).toNat = v34 := ev34.symm; omega), zs_same]; done) | (rw [if_neg (show ¬ v14 = 0 by omega), if_neg (show ¬ v14 = 1 by omega), ← iL3_0, ← V146]; exact yOv_w177 Zh42 Z25 E146 S146 (by omega)))
                      | (exfalso; omega)
                    refine zwW_inc (i := 2) (c := 1) (x := kL3) (nx := 150) (by decide +kernel) rfl (by first | omega | exact ⟨by omega, by omega⟩) (ls' := [(2, 37), (0, a), (0, (kL3 + 1)), (0, v12), (0, v13)]) rfl ?_
                    refine zwW_p [(24, 6, 0)] (q := 6) (ls' := [(2, 37), (0, a), (0, (kL3 + 1)), (0, v12), (0, v13)]) (st' := []) (by decide +kernel) rfl ?_
                    exact IHL3 ((100 - (kL3 + 1))).toNat (by omega) (kL3 + 1) (0, v12) (0, v13) h42 rfl (by rw [show (kL3 + 1).toNat = (kL3).toNat + 1 by omega]; exact K147) (by omega) (by omega) (by omega) (Zh42) Ih42 Rh42
          · refine zwW_p [(1, 0, 2)] (q := 50) (ls' := [(2, 37), (0, a), (0, kL3), (0, v12), (0, v13)]) (st' := [(2, 37)]) (by decide +kernel) rfl ?_
            refine zwW_gc IhL3 (kd := 13) (bn := 67) (n := 97) (c := 178) (nx := 53) (by decide +kernel) ?_
            refine zwW_p [(1, 3, 0)] (q := 54) (ls' := [(2, 37), (0, a), (0, kL3), (0, v12), (0, v13)]) (st' := [(0, v12), (2, 178)]) (by decide +kernel) rfl ?_
            refine zwW_al IhL3 (a1 := 178) (a2 := 178) (kd := 20) (n := 20) (t := 0) (lo := 0) (hi := 5) (nx := 55) (by decide +kernel) (by first | decide | exact ⟨by decide, by decide⟩) ib2 ?_
            intro v43 ev43 lv43 uv43
            have P55 : v43 = yOv hL3 80 (v12).toNat := ev43
            refine zwW_p [(0, 5, 0)] (q := 56) (ls' := [(2, 37), (0, a), (0, kL3), (0, v12), (0, v13)]) (st' := [(0, 5), (0, v43)]) (by decide +kernel) rfl ?_
            refine zwic_ge (q := 69) (nx := 59) (by decide +kernel) (fun c44 => ?_) (fun c44 => ?_)
            · refine zwW_p [(1, 0, 2)] (q := 70) (ls' := [(2, 37), (0, a), (0, kL3), (0, v12), (0, v13)]) (st' := [(2, 37)]) (by decide +kernel) rfl ?_
              refine zwW_gc IhL3 (kd := 13) (bn := 95) (n := 97) (c := 365) (nx := 73) (by decide +kernel) ?_
              refine zwW_p [(1, 2, 0)] (q := 74) (ls' := [(2, 37), (0, a), (0, kL3), (0, v12), (0, v13)]) (st' := [(0, kL3), (2, 365)]) (by decide +kernel) rfl ?_
              refine zwW_al IhL3 (a1 := 365) (a2 := 365) (kd := 20) (n := 8) (t := 0) (lo := 0) (hi := 2) (nx := 75) (by decide +kernel) (by first | decide | exact ⟨by decide, by decide⟩) ib1 ?_
              intro v45 ev45 lv45 uv45
              have sv45 : v45 = (yM h) 365 kL3.toNat := Eq.trans ev45 (Eq.trans (Eq.symm (yM_p (h := hL3) (a := 365) (n := 8) (i := kL3.toNat) rfl (zit ib1))) (Eq.trans (congrFun (congrFun iL3_4 365) kL3.toNat) rfl))
              refine zwW_p [(0, 1, 0)] (q := 76) (ls' := [(2, 37), (0, a), (0, kL3), (0, v12), (0, v13)]) (st' := [(0, 1), (0, v45)]) (by decide +kernel) rfl ?_
              refine zwic_ne (q := 100) (nx := 79) (by decide +kernel) (fun c46 => ?_) (fun c46 => ?_)
              · refine zwW_p [(1, 0, 2)] (q := 101) (ls' := [(2, 37), (0, a), (0, kL3), (0, v12), (0, v13)]) (st' := [(2, 37)]) (by decide +kernel) rfl ?_
                refine zwW_gc IhL3 (kd := 13) (bn := 95) (n := 97) (c := 365) (nx := 104) (by decide +kernel) ?_
                refine zwW_p [(1, 2, 0)] (q := 105) (ls' := [(2, 37), (0, a), (0, kL3), (0, v12), (0, v13)]) (st' := [(0, kL3), (2, 365)]) (by decide +kernel) rfl ?_
                refine zwW_al IhL3 (a1 := 365) (a2 := 365) (kd := 20) (n := 8) (t := 0) (lo := 0) (hi := 2) (nx := 106) (by decide +kernel) (by first | decide | exact ⟨by decide, by decide⟩) ib1 ?_
                intro v47 ev47 lv47 uv47
                have sv47 : v47 = (yM h) 365 kL3.toNat := Eq.trans ev47 (Eq.trans (Eq.symm (yM_p (h := hL3) (a := 365) (n := 8) (i := kL3.toNat) rfl (zit ib1))) (Eq.trans (congrFun (congrFun iL3_4 365) kL3.toNat) rfl))
                refine zwW_p [(0, 2, 0)] (q := 107) (ls' := [(2, 37), (0, a), (0, kL3), (0, v12), (0, v13)]) (st' := [(0, 2), (0, v47)]) (by decide +kernel) rfl ?_
                refine zwic_ne (q := 147) (nx := 110) (by decide +kernel) (fun c48 => ?_) (fun c48 => ?_)
                · have K147 : yOv hL3 = yGN (yOv h2) a ((kL3).toNat + 1) := by
                    rw [yGN_s, show (((kL3).toNat : Nat) : Int) = kL3 by omega]
                    first
                    | (rw [if_pos (by unfold yBt; omega)]; exact iL3_0)
                    | (rw [if_neg (by unfold yBt; omega)]; unfold yG1 yGv; rw [yGN_na (a := 364) (by decide) (by decide) (by decide), yGN_na (a := 365) (by decide) (by decide) (by decide), yGN_na (a := 79) (by decide) (by decide) (by decide), yOv_na (a := 364) (by decide) (by decide) (by decide), yOv_na (a := 365) (by decide) (by decide) (by decide), yOv_na (a := 79) (by decide) (by decide) (by decide), Z4, ← sv12, ← T38, ← sv14]; first | (rw [if_pos (show v14 = 0 by omega), ← iL3_0, ← V68]; exact yOv_w178 iL3_4 Z25 E68 S68 (by omega)) | (rw [if_pos (show v14 = 0 by omega), ← iL3_0, show min (yOv hL3 80 (v12).toNat + 1) 5 = yOv hL3 80 (v12).toNat from (by have q : yOv hL3 80 (v12).toNat = v43 := ev43.symm; omega), zs_same]; done) | (rw [if_neg (show ¬ v14 = 0 by omega), if_pos (show v14 = 1 by omega), ← iL3_0, ← V99]; exact yOv_w179 iL3_4 Z25 E99 S99 (by omega)) | (rw [if_neg (show ¬ v14 = 0 by omega), if_pos (show v14 = 1 by omega), ← iL3_0, show min (yOv hL3 81 (v12).toNat + 1) 9 = yOv hL3 81 (v12).toNat from (by have q : yOv hL3 81 (v12).toNat = a := ea.symm; omega), zs_same]; done) | (rw [if_neg (show ¬ v14 = 0 by omega), if_neg (show ¬ v14 = 1 by omega), ← iL3_0, ← V146]; exact yOv_w177 iL3_4 Z25 E146 S146 (by omega)))
                    | (exfalso; omega)
                  refine zwW_inc (i := 2) (c := 1) (x := kL3) (nx := 150) (by decide +kernel) rfl (by first | omega | exact ⟨by omega, by omega⟩) (ls' := [(2, 37), (0, a), (0, (kL3 + 1)), (0, v12), (0, v13)]) rfl ?_
                  refine zwW_p [(24, 6, 0)] (q := 6) (ls' := [(2, 37), (0, a), (0, (kL3 + 1)), (0, v12), (0, v13)]) (st' := []) (by decide +kernel) rfl ?_
                  exact IHL3 ((100 - (kL3 + 1))).toNat (by omega) (kL3 + 1) (0, v12) (0, v13) hL3 rfl (by rw [show (kL3 + 1).toNat = (kL3).toNat + 1 by omega]; exact K147) (by omega) (by omega) (by omega) (iL3_4) IhL3 RhL3
                · refine zwW_p [(1, 0, 2)] (q := 111) (ls' := [(2, 37), (0, a), (0, kL3), (0, v12), (0, v13)]) (st' := [(2, 37)]) (by decide +kernel) rfl ?_
                  refine zwW_gc IhL3 (kd := 13) (bn := 66) (n := 97) (c := 177) (nx := 114) (by decide +kernel) ?_
                  refine zwW_p [(1, 4, 0), (1, 0, 2)] (q := 117) (ls' := [(2, 37), (0, a), (0, kL3), (0, v12), (0, v13)]) (st' := [(2, 37), (0, v13), (2, 177)]) (by decide +kernel) rfl ?_
                  refine zwW_gc IhL3 (kd := 13) (bn := 66) (n := 97) (c := 177) (nx := 120) (by decide +kernel) ?_
                  refine zwW_p [(1, 4, 0)] (q := 122) (ls' := [(2, 37), (0, a), (0, kL3), (0, v12), (0, v13)]) (st' := [(0, v13), (2, 177), (0, v13), (2, 177)]) (by decide +kernel) rfl ?_
                  have ib6 : 0 ≤ v13 ∧ v13 < ((8 : Nat) : Int) := (by first | omega | exact ⟨by omega, by omega⟩)
                  refine zwW_al IhL3 (a1 := 177) (a2 := 177) (kd := 20) (n := 8) (t := 0) (lo := -2147483648) (hi := 2147483647) (nx := 123) (by decide +kernel) (by first | decide | exact ⟨by decide, by decide⟩) ib6 ?_
                  intro v49 ev49 lv49 uv49
                  have P123 : v49 = yOv hL3 66 (v13).toNat := by first | exact ev49 | (exfalso; omega)
                  have KC := (BL.2.1 (v13).toNat (by rw [yOv_na (a := 37) (by decide) (by decide) (by decide), Z25]; show _ < fld h 37 1; omega)).1
                  refine zwW_p [(0, 5, 0)] (q := 124) (ls' := [(2, 37), (0, a), (0, kL3), (0, v12), (0, v13)]) (st' := [(0, 5), (0, v49), (0, v13), (2, 177)]) (by decide +kernel) rfl ?_
                  refine zwW_add (nx := 125) (by decide +kernel) (by first | omega | exact ⟨by omega, by omega⟩) ?_
                  refine zwW_p [(0, 9999, 0)] (q := 128) (ls' := [(2, 37), (0, a), (0, kL3), (0, v12), (0, v13)]) (st' := [(0, 9999), (0, (v49 + 5)), (0, v13), (2, 177)]) (by decide +kernel) rfl ?_
                  refine zwic_le (q := 137) (nx := 131) (by decide +kernel) (fun c50 => ?_) (fun c50 => ?_)
                  · refine zwW_p [(1, 0, 2)] (q := 138) (ls' := [(2, 37), (0, a), (0, kL3), (0, v12), (0, v13)]) (st' := [(2, 37), (0, v13), (2, 177)]) (by decide +kernel) rfl ?_
                    refine zwW_gc IhL3 (kd := 13) (bn := 66) (n := 97) (c := 177) (nx := 141) (by decide +kernel) ?_
                    refine zwW_p [(1, 4, 0)] (q := 143) (ls' := [(2, 37), (0, a), (0, kL3), (0, v12), (0, v13)]) (st' := [(0, v13), (2, 177), (0, v13), (2, 177)]) (by decide +kernel) rfl ?_
                    refine zwW_al IhL3 (a1 := 177) (a2 := 177) (kd := 20) (n := 8) (t := 0) (lo := -2147483648) (hi := 2147483647) (nx := 144) (by decide +kernel) (by first | decide | exact ⟨by decide, by decide⟩) ib6 ?_
                    intro v51 ev51 lv51 uv51
                    have P144 : v51 = yOv hL3 66 (v13).toNat := by first | exact ev51 | (exfalso; omega)
                    refine zwW_p [(0, 5, 0)] (q := 145) (ls' := [(2, 37), (0, a), (0, kL3), (0, v12), (0, v13)]) (st' := [(0, 5), (0, v51), (0, v13), (2, 177)]) (by decide +kernel) rfl ?_
                    refine zwW_add (nx := 146) (by decide +kernel) (by first | omega | exact ⟨by omega, by omega⟩) ?_
                    refine zwW_as IhL3 (a1 := 177) (a2 := 177) (n := 8) (lo := -2147483648) (hi := 2147483647) (nx := 147) (by decide +kernel) (by first | decide | exact ⟨by decide, by decide⟩) ib6 (by first | omega | exact ⟨by omega, by omega⟩) ?_
                    intro h52 eh52 Ih52
                    have jbh52 : 0 ≤ v13.toNat ∧ v13.toNat < 8 := ⟨Nat.zero_le _, zit ib6⟩
                    have th52_37_0 : fld h52 37 0 = fld hL3 37 0 := by rw [eh52]; exact fld_wr (Or.inl (by decide))
                    have th52_37_1 : fld h52 37 1 = fld hL3 37 1 := by rw [eh52]; exact fld_wr (Or.inl (by decide))
                    have th52_37_2 : fld h52 37 2 = fld hL3 37 2 := by rw [eh52]; exact fld_wr (Or.inl (by decide))
                    have th52_37_96 : fld h52 37 96 = fld hL3 37 96 := by rw [eh52]; exact fld_wr (Or.inl (by decide))
                    have E146 := eh52
                    have S146 := (IhL3.s (r := 177) (a1 := 177) (a2 := 177) (k := 20) (n := 8) (by decide +kernel) (by decide) (by decide))
                    have V146 : (v51 + 5) = min (yOv hL3 66 (v13).toNat + 5) 9999 := by
                      have q : yOv hL3 66 (v13).toNat = v51 := ev51.symm
                      omega
                    have Zh52 : yM h52 = (yM h) := (yM_fr (ms := [(177, 177, 0, 8)]) (zMR.one (a1 := 177) (a2 := 177) (j1 := 0) (j2 := 8) (by first | decide | exact ⟨by decide, by decide⟩) jbh52 eh52) (by decide +kernel) (IhL3.b (a1 := 37) (a2 := 37) (j1 := 86) (j2 := 87) (lo := 0) (hi := 6) (by decide +kernel) (r := 37) (j := 86) (by decide) (by decide) (by decide) (by decide)).2).trans iL3_4
                    have Rh52 : zMR ms164 h h52 := RhL3.w (a1 := 177) (a2 := 177) (j1 := 0) (j2 := 8) (by decide +kernel) (by first | decide | exact ⟨by decide, by decide⟩) jbh52 eh52
                    have K147 : yOv h52 = yGN (yOv h2) a ((kL3).toNat + 1) := by
                      rw [yGN_s, show (((kL3).toNat : Nat) : Int) = kL3 by omega]
                      first
                      | (rw [if_pos (by unfold yBt; omega)]; exact iL3_0)
                      | (rw [if_neg (by unfold yBt; omega)]; unfold yG1 yGv; rw [yGN_na (a := 364) (by decide) (by decide) (by decide), yGN_na (a := 365) (by decide) (by decide) (by decide), yGN_na (a := 79) (by decide) (by decide) (by decide), yOv_na (a := 364) (by decide) (by decide) (by decide), yOv_na (a := 365) (by decide) (by decide) (by decide), yOv_na (a := 79) (by decide) (by decide) (by decide), Z4, ← sv12, ← T38, ← sv14]; first | (rw [if_pos (show v14 = 0 by omega), ← iL3_0, ← V68]; exact yOv_w178 Zh52 Z25 E68 S68 (by omega)) | (rw [if_pos (show v14 = 0 by omega), ← iL3_0, show min (yOv hL3 80 (v12).toNat + 1) 5 = yOv hL3 80 (v12).toNat from (by have q : yOv hL3 80 (v12).toNat = v43 := ev43.symm; omega), zs_same]; done) | (rw [if_neg (show ¬ v14 = 0 by omega), if_pos (show v14 = 1 by omega), ← iL3_0, ← V99]; exact yOv_w179 Zh52 Z25 E99 S99 (by omega)) | (rw [if_neg (show ¬ v14 = 0 by omega), if_pos (show v14 = 1 by omega), ← iL3_0, show min (yOv hL3 81 (v12).toNat + 1) 9 = yOv hL3 81 (v12).toNat from (by have q : yOv hL3 81 (v12).toNat = a := ea.symm; omega), zs_same]; done) | (rw [if_neg (show ¬ v14 = 0 by omega), if_neg (show ¬ v14 = 1 by omega), ← iL3_0, ← V146]; exact yOv_w177 Zh52 Z25 E146 S146 (by omega)))
                      | (exfalso; omega)
                    refine zwW_inc (i := 2) (c := 1) (x := kL3) (nx := 150) (by decide +kernel) rfl (by first | omega | exact ⟨by omega, by omega⟩) (ls' := [(2, 37), (0, a), (0, (kL3 + 1)), (0, v12), (0, v13)]) rfl ?_
                    refine zwW_p [(24, 6, 0)] (q := 6) (ls' := [(2, 37), (0, a), (0, (kL3 + 1)), (0, v12), (0, v13)]) (st' := []) (by decide +kernel) rfl ?_
                    exact IHL3 ((100 - (kL3 + 1))).toNat (by omega) (kL3 + 1) (0, v12) (0, v13) h52 rfl (by rw [show (kL3 + 1).toNat = (kL3).toNat + 1 by omega]; exact K147) (by omega) (by omega) (by omega) (Zh52) Ih52 Rh52
                  · refine zwW_p [(0, 9999, 0), (24, 146, 0)] (q := 146) (ls' := [(2, 37), (0, a), (0, kL3), (0, v12), (0, v13)]) (st' := [(0, 9999), (0, v13), (2, 177)]) (by decide +kernel) rfl ?_
                    refine zwW_as IhL3 (a1 := 177) (a2 := 177) (n := 8) (lo := -2147483648) (hi := 2147483647) (nx := 147) (by decide +kernel) (by first | decide | exact ⟨by decide, by decide⟩) ib6 (by first | decide | exact ⟨by decide, by decide⟩) ?_
                    intro h53 eh53 Ih53
                    have jbh53 : 0 ≤ v13.toNat ∧ v13.toNat < 8 := ⟨Nat.zero_le _, zit ib6⟩
                    have th53_37_0 : fld h53 37 0 = fld hL3 37 0 := by rw [eh53]; exact fld_wr (Or.inl (by decide))
                    have th53_37_1 : fld h53 37 1 = fld hL3 37 1 := by rw [eh53]; exact fld_wr (Or.inl (by decide))
                    have th53_37_2 : fld h53 37 2 = fld hL3 37 2 := by rw [eh53]; exact fld_wr (Or.inl (by decide))
                    have th53_37_96 : fld h53 37 96 = fld hL3 37 96 := by rw [eh53]; exact fld_wr (Or.inl (by decide))
                    have E146 := eh53
                    have S146 := (IhL3.s (r := 177) (a1 := 177) (a2 := 177) (k := 20) (n := 8) (by decide +kernel) (by decide) (by decide))
                    have V146 : 9999 = min (yOv hL3 66 (v13).toNat + 5) 9999 := by
                      have q : yOv hL3 66 (v13).toNat = v49 := ev49.symm
                      omega
                    have Zh53 : yM h53 = (yM h) := (yM_fr (ms := [(177, 177, 0, 8)]) (zMR.one (a1 := 177) (a2 := 177) (j1 := 0) (j2 := 8) (by first | decide | exact ⟨by decide, by decide⟩) jbh53 eh53) (by decide +kernel) (IhL3.b (a1 := 37) (a2 := 37) (j1 := 86) (j2 := 87) (lo := 0) (hi := 6) (by decide +kernel) (r := 37) (j := 86) (by decide) (by decide) (by decide) (by decide)).2).trans iL3_4
                    have Rh53 : zMR ms164 h h53 := RhL3.w (a1 := 177) (a2 := 177) (j1 := 0) (j2 := 8) (by decide +kernel) (by first | decide | exact ⟨by decide, by decide⟩) jbh53 eh53
                    have K147 : yOv h53 = yGN (yOv h2) a ((kL3).toNat + 1) := by
                      rw [yGN_s, show (((kL3).toNat : Nat) : Int) = kL3 by omega]
                      first
                      | (rw [if_pos (by unfold yBt; omega)]; exact iL3_0)
                      | (rw [if_neg (by unfold yBt; omega)]; unfold yG1 yGv; rw [yGN_na (a := 364) (by decide) (by decide) (by decide), yGN_na (a := 365) (by decide) (by decide) (by decide), yGN_na (a := 79) (by decide) (by decide) (by decide), yOv_na (a := 364) (by decide) (by decide) (by decide), yOv_na (a := 365) (by decide) (by decide) (by decide), yOv_na (a := 79) (by decide) (by decide) (by decide), Z4, ← sv12, ← T38, ← sv14]; first | (rw [if_pos (show v14 = 0 by omega), ← iL3_0, ← V68]; exact yOv_w178 Zh53 Z25 E68 S68 (by omega)) | (rw [if_pos (show v14 = 0 by omega), ← iL3_0, show min (yOv hL3 80 (v12).toNat + 1) 5 = yOv hL3 80 (v12).toNat from (by have q : yOv hL3 80 (v12).toNat = v43 := ev43.symm; omega), zs_same]; done) | (rw [if_neg (show ¬ v14 = 0 by omega), if_pos (show v14 = 1 by omega), ← iL3_0, ← V99]; exact yOv_w179 Zh53 Z25 E99 S99 (by omega)) | (rw [if_neg (show ¬ v14 = 0 by omega), if_pos (show v14 = 1 by omega), ← iL3_0, show min (yOv hL3 81 (v12).toNat + 1) 9 = yOv hL3 81 (v12).toNat from (by have q : yOv hL3 81 (v12).toNat = a := ea.symm; omega), zs_same]; done) | (rw [if_neg (show ¬ v14 = 0 by omega), if_neg (show ¬ v14 = 1 by omega), ← iL3_0, ← V146]; exact yOv_w177 Zh53 Z25 E146 S146 (by omega)))
                      | (exfalso; omega)
                    refine zwW_inc (i := 2) (c := 1) (x := kL3) (nx := 150) (by decide +kernel) rfl (by first | omega | exact ⟨by omega, by omega⟩) (ls' := [(2, 37), (0, a), (0, (kL3 + 1)), (0, v12), (0, v13)]) rfl ?_
                    refine zwW_p [(24, 6, 0)] (q := 6) (ls' := [(2, 37), (0, a), (0, (kL3 + 1)), (0, v12), (0, v13)]) (st' := []) (by decide +kernel) rfl ?_
                    exact IHL3 ((100 - (kL3 + 1))).toNat (by omega) (kL3 + 1) (0, v12) (0, v13) h53 rfl (by rw [show (kL3 + 1).toNat = (kL3).toNat + 1 by omega]; exact K147) (by omega) (by omega) (by omega) (Zh53) Ih53 Rh53
              · refine zwW_p [(1, 0, 2)] (q := 80) (ls' := [(2, 37), (0, a), (0, kL3), (0, v12), (0, v13)]) (st' := [(2, 37)]) (by decide +kernel) rfl ?_
                refine zwW_gc IhL3 (kd := 13) (bn := 68) (n := 97) (c := 179) (nx := 83) (by decide +kernel) ?_
                refine zwW_p [(1, 3, 0)] (q := 84) (ls' := [(2, 37), (0, a), (0, kL3), (0, v12), (0, v13)]) (st' := [(0, v12), (2, 179)]) (by decide +kernel) rfl ?_
                refine zwW_al IhL3 (a1 := 179) (a2 := 179) (kd := 20) (n := 20) (t := 0) (lo := 0) (hi := 9) (nx := 85) (by decide +kernel) (by first | decide | exact ⟨by decide, by decide⟩) ib2 ?_
                intro v54 ev54 lv54 uv54
                have P85 : v54 = yOv hL3 81 (v12).toNat := by first | exact ev54 | (exfalso; omega)
                refine zwW_p [(0, 9, 0)] (q := 87) (ls' := [(2, 37), (0, a), (0, kL3), (0, v12), (0, v13)]) (st' := [(0, 9), (0, v54)]) (by decide +kernel) rfl ?_
                refine zwic_ge (q := 100) (nx := 90) (by decide +kernel) (fun c55 => ?_) (fun c55 => ?_)
                · refine zwW_p [(1, 0, 2)] (q := 101) (ls' := [(2, 37), (0, a), (0, kL3), (0, v12), (0, v13)]) (st' := [(2, 37)]) (by decide +kernel) rfl ?_
                  refine zwW_gc IhL3 (kd := 13) (bn := 95) (n := 97) (c := 365) (nx := 104) (by decide +kernel) ?_
                  refine zwW_p [(1, 2, 0)] (q := 105) (ls' := [(2, 37), (0, a), (0, kL3), (0, v12), (0, v13)]) (st' := [(0, kL3), (2, 365)]) (by decide +kernel) rfl ?_
                  refine zwW_al IhL3 (a1 := 365) (a2 := 365) (kd := 20) (n := 8) (t := 0) (lo := 0) (hi := 2) (nx := 106) (by decide +kernel) (by first | decide | exact ⟨by decide, by decide⟩) ib1 ?_
                  intro v56 ev56 lv56 uv56
                  have sv56 : v56 = (yM h) 365 kL3.toNat := Eq.trans ev56 (Eq.trans (Eq.symm (yM_p (h := hL3) (a := 365) (n := 8) (i := kL3.toNat) rfl (zit ib1))) (Eq.trans (congrFun (congrFun iL3_4 365) kL3.toNat) rfl))
                  refine zwW_p [(0, 2, 0)] (q := 107) (ls' := [(2, 37), (0, a), (0, kL3), (0, v12), (0, v13)]) (st' := [(0, 2), (0, v56)]) (by decide +kernel) rfl ?_
                  refine zwic_ne (q := 147) (nx := 110) (by decide +kernel) (fun c57 => ?_) (fun c57 => ?_)
                  · have K147 : yOv hL3 = yGN (yOv h2) a ((kL3).toNat + 1) := by
                      rw [yGN_s, show (((kL3).toNat : Nat) : Int) = kL3 by omega]
                      first
                      | (rw [if_pos (by unfold yBt; omega)]; exact iL3_0)
                      | (rw [if_neg (by unfold yBt; omega)]; unfold yG1 yGv; rw [yGN_na (a := 364) (by decide) (by decide) (by decide), yGN_na (a := 365) (by decide) (by decide) (by decide), yGN_na (a := 79) (by decide) (by decide) (by decide), yOv_na (a := 364) (by decide) (by decide) (by decide), yOv_na (a := 365) (by decide) (by decide) (by decide), yOv_na (a := 79) (by decide) (by decide) (by decide), Z4, ← sv12, ← T38, ← sv14]; first | (rw [if_pos (show v14 = 0 by omega), ← iL3_0, ← V68]; exact yOv_w178 iL3_4 Z25 E68 S68 (by omega)) | (rw [if_pos (show v14 = 0 by omega), ← iL3_0, show min (yOv hL3 80 (v12).toNat + 1) 5 = yOv hL3 80 (v12).toNat from (by have q : yOv hL3 80 (v12).toNat = v43 := ev43.symm; omega), zs_same]; done) | (rw [if_neg (show ¬ v14 = 0 by omega), if_pos (show v14 = 1 by omega), ← iL3_0, ← V99]; exact yOv_w179 iL3_4 Z25 E99 S99 (by omega)) | (rw [if_neg (show ¬ v14 = 0 by omega), if_pos (show v14 = 1 by omega), ← iL3_0, show min (yOv hL3 81 (v12).toNat + 1) 9 = yOv hL3 81 (v12).toNat from (by have q : yOv hL3 81 (v12).toNat = v54 := ev54.symm; omega), zs_same]; done) | (rw [if_neg (show ¬ v14 = 0 by omega), if_neg (show ¬ v14 = 1 by omega), ← iL3_0, ← V146]; exact yOv_w177 iL3_4 Z25 E146 S146 (by omega)))
                      | (exfalso; omega)
                    refine zwW_inc (i := 2) (c := 1) (x := kL3) (nx := 150) (by decide +kernel) rfl (by first | omega | exact ⟨by omega, by omega⟩) (ls' := [(2, 37), (0, a), (0, (kL3 + 1)), (0, v12), (0, v13)]) rfl ?_
                    refine zwW_p [(24, 6, 0)] (q := 6) (ls' := [(2, 37), (0, a), (0, (kL3 + 1)), (0, v12), (0, v13)]) (st' := []) (by decide +kernel) rfl ?_
                    exact IHL3 ((100 - (kL3 + 1))).toNat (by omega) (kL3 + 1) (0, v12) (0, v13) hL3 rfl (by rw [show (kL3 + 1).toNat = (kL3).toNat + 1 by omega]; exact K147) (by omega) (by omega) (by omega) (iL3_4) IhL3 RhL3
                  · refine zwW_p [(1, 0, 2)] (q := 111) (ls' := [(2, 37), (0, a), (0, kL3), (0, v12), (0, v13)]) (st' := [(2, 37)]) (by decide +kernel) rfl ?_
                    refine zwW_gc IhL3 (kd := 13) (bn := 66) (n := 97) (c := 177) (nx := 114) (by decide +kernel) ?_
                    refine zwW_p [(1, 4, 0), (1, 0, 2)] (q := 117) (ls' := [(2, 37), (0, a), (0, kL3), (0, v12), (0, v13)]) (st' := [(2, 37), (0, v13), (2, 177)]) (by decide +kernel) rfl ?_
                    refine zwW_gc IhL3 (kd := 13) (bn := 66) (n := 97) (c := 177) (nx := 120) (by decide +kernel) ?_
                    refine zwW_p [(1, 4, 0)] (q := 122) (ls' := [(2, 37), (0, a), (0, kL3), (0, v12), (0, v13)]) (st' := [(0, v13), (2, 177), (0, v13), (2, 177)]) (by decide +kernel) rfl ?_
                    have ib7 : 0 ≤ v13 ∧ v13 < ((8 : Nat) : Int) := (by first | omega | exact ⟨by omega, by omega⟩)
                    refine zwW_al IhL3 (a1 := 177) (a2 := 177) (kd := 20) (n := 8) (t := 0) (lo := -2147483648) (hi := 2147483647) (nx := 123) (by decide +kernel) (by first | decide | exact ⟨by decide, by decide⟩) ib7 ?_
                    intro v58 ev58 lv58 uv58
                    have P123 : v58 = yOv hL3 66 (v13).toNat := by first | exact ev58 | (exfalso; omega)
                    have KC := (BL.2.1 (v13).toNat (by rw [yOv_na (a := 37) (by decide) (by decide) (by decide), Z25]; show _ < fld h 37 1; omega)).1
                    refine zwW_p [(0, 5, 0)] (q := 124) (ls' := [(2, 37), (0, a), (0, kL3), (0, v12), (0, v13)]) (st' := [(0, 5), (0, v58), (0, v13), (2, 177)]) (by decide +kernel) rfl ?_
                    refine zwW_add (nx := 125) (by decide +kernel) (by first | omega | exact ⟨by omega, by omega⟩) ?_
                    refine zwW_p [(0, 9999, 0)] (q := 128) (ls' := [(2, 37), (0, a), (0, kL3), (0, v12), (0, v13)]) (st' := [(0, 9999), (0, (v58 + 5)), (0, v13), (2, 177)]) (by decide +kernel) rfl ?_
                    refine zwic_le (q := 137) (nx := 131) (by decide +kernel) (fun c59 => ?_) (fun c59 => ?_)
                    · refine zwW_p [(1, 0, 2)] (q := 138) (ls' := [(2, 37), (0, a), (0, kL3), (0, v12), (0, v13)]) (st' := [(2, 37), (0, v13), (2, 177)]) (by decide +kernel) rfl ?_
                      refine zwW_gc IhL3 (kd := 13) (bn := 66) (n := 97) (c := 177) (nx := 141) (by decide +kernel) ?_
                      refine zwW_p [(1, 4, 0)] (q := 143) (ls' := [(2, 37), (0, a), (0, kL3), (0, v12), (0, v13)]) (st' := [(0, v13), (2, 177), (0, v13), (2, 177)]) (by decide +kernel) rfl ?_
                      refine zwW_al IhL3 (a1 := 177) (a2 := 177) (kd := 20) (n := 8) (t := 0) (lo := -2147483648) (hi := 2147483647) (nx := 144) (by decide +kernel) (by first | decide | exact ⟨by decide, by decide⟩) ib7 ?_
                      intro v60 ev60 lv60 uv60
                      have P144 : v60 = yOv hL3 66 (v13).toNat := by first | exact ev60 | (exfalso; omega)
                      refine zwW_p [(0, 5, 0)] (q := 145) (ls' := [(2, 37), (0, a), (0, kL3), (0, v12), (0, v13)]) (st' := [(0, 5), (0, v60), (0, v13), (2, 177)]) (by decide +kernel) rfl ?_
                      refine zwW_add (nx := 146) (by decide +kernel) (by first | omega | exact ⟨by omega, by omega⟩) ?_
                      refine zwW_as IhL3 (a1 := 177) (a2 := 177) (n := 8) (lo := -2147483648) (hi := 2147483647) (nx := 147) (by decide +kernel) (by first | decide | exact ⟨by decide, by decide⟩) ib7 (by first | omega | exact ⟨by omega, by omega⟩) ?_
                      intro h61 eh61 Ih61
                      have jbh61 : 0 ≤ v13.toNat ∧ v13.toNat < 8 := ⟨Nat.zero_le _, zit ib7⟩
                      have th61_37_0 : fld h61 37 0 = fld hL3 37 0 := by rw [eh61]; exact fld_wr (Or.inl (by decide))
                      have th61_37_1 : fld h61 37 1 = fld hL3 37 1 := by rw [eh61]; exact fld_wr (Or.inl (by decide))
                      have th61_37_2 : fld h61 37 2 = fld hL3 37 2 := by rw [eh61]; exact fld_wr (Or.inl (by decide))
                      have th61_37_96 : fld h61 37 96 = fld hL3 37 96 := by rw [eh61]; exact fld_wr (Or.inl (by decide))
                      have E146 := eh61
                      have S146 := (IhL3.s (r := 177) (a1 := 177) (a2 := 177) (k := 20) (n := 8) (by decide +kernel) (by decide) (by decide))
                      have V146 : (v60 + 5) = min (yOv hL3 66 (v13).toNat + 5) 9999 := by
                        have q : yOv hL3 66 (v13).toNat = v60 := ev60.symm
                        omega
                      have Zh61 : yM h61 = (yM h) := (yM_fr (ms := [(177, 177, 0, 8)]) (zMR.one (a1 := 177) (a2 := 177) (j1 := 0) (j2 := 8) (by first | decide | exact ⟨by decide, by decide⟩) jbh61 eh61) (by decide +kernel) (IhL3.b (a1 := 37) (a2 := 37) (j1 := 86) (j2 := 87) (lo := 0) (hi := 6) (by decide +kernel) (r := 37) (j := 86) (by decide) (by decide) (by decide) (by decide)).2).trans iL3_4
                      have Rh61 : zMR ms164 h h61 := RhL3.w (a1 := 177) (a2 := 177) (j1 := 0) (j2 := 8) (by decide +kernel) (by first | decide | exact ⟨by decide, by decide⟩) jbh61 eh61
                      have K147 : yOv h61 = yGN (yOv h2) a ((kL3).toNat + 1) := by
                        rw [yGN_s, show (((kL3).toNat : Nat) : Int) = kL3 by omega]
                        first
                        | (rw [if_pos (by unfold yBt; omega)]; exact iL3_0)
                        | (rw [if_neg (by unfold yBt; omega)]; unfold yG1 yGv; rw [yGN_na (a := 364) (by decide) (by decide) (by decide), yGN_na (a := 365) (by decide) (by decide) (by decide), yGN_na (a := 79) (by decide) (by decide) (by decide), yOv_na (a := 364) (by decide) (by decide) (by decide), yOv_na (a := 365) (by decide) (by decide) (by decide), yOv_na (a := 79) (by decide) (by decide) (by decide), Z4, ← sv12, ← T38, ← sv14]; first | (rw [if_pos (show v14 = 0 by omega), ← iL3_0, ← V68]; exact yOv_w178 Zh61 Z25 E68 S68 (by omega)) | (rw [if_pos (show v14 = 0 by omega), ← iL3_0, show min (yOv hL3 80 (v12).toNat + 1) 5 = yOv hL3 80 (v12).toNat from (by have q : yOv hL3 80 (v12).toNat = v43 := ev43.symm; omega), zs_same]; done) | (rw [if_neg (show ¬ v14 = 0 by omega), if_pos (show v14 = 1 by omega), ← iL3_0, ← V99]; exact yOv_w179 Zh61 Z25 E99 S99 (by omega)) | (rw [if_neg (show ¬ v14 = 0 by omega), if_pos (show v14 = 1 by omega), ← iL3_0, show min (yOv hL3 81 (v12).toNat + 1) 9 = yOv hL3 81 (v12).toNat from (by have q : yOv hL3 81 (v12).toNat = v54 := ev54.symm; omega), zs_same]; done) | (rw [if_neg (show ¬ v14 = 0 by omega), if_neg (show ¬ v14 = 1 by omega), ← iL3_0, ← V146]; exact yOv_w177 Zh61 Z25 E146 S146 (by omega)))
                        | (exfalso; omega)
                      refine zwW_inc (i := 2) (c := 1) (x := kL3) (nx := 150) (by decide +kernel) rfl (by first | omega | exact ⟨by omega, by omega⟩) (ls' := [(2, 37), (0, a), (0, (kL3 + 1)), (0, v12), (0, v13)]) rfl ?_
                      refine zwW_p [(24, 6, 0)] (q := 6) (ls' := [(2, 37), (0, a), (0, (kL3 + 1)), (0, v12), (0, v13)]) (st' := []) (by decide +kernel) rfl ?_
                      exact IHL3 ((100 - (kL3 + 1))).toNat (by omega) (kL3 + 1) (0, v12) (0, v13) h61 rfl (by rw [show (kL3 + 1).toNat = (kL3).toNat + 1 by omega]; exact K147) (by omega) (by omega) (by omega) (Zh61) Ih61 Rh61
                    · refine zwW_p [(0, 9999, 0), (24, 146, 0)] (q := 146) (ls' := [(2, 37), (0, a), (0, kL3), (0, v12), (0, v13)]) (st' := [(0, 9999), (0, v13), (2, 177)]) (by decide +kernel) rfl ?_
                      refine zwW_as IhL3 (a1 := 177) (a2 := 177) (n := 8) (lo := -2147483648) (hi := 2147483647) (nx := 147) (by decide +kernel) (by first | decide | exact ⟨by decide, by decide⟩) ib7 (by first | decide | exact ⟨by decide, by decide⟩) ?_
                      intro h62 eh62 Ih62
                      have jbh62 : 0 ≤ v13.toNat ∧ v13.toNat < 8 := ⟨Nat.zero_le _, zit ib7⟩
                      have th62_37_0 : fld h62 37 0 = fld hL3 37 0 := by rw [eh62]; exact fld_wr (Or.inl (by decide))
                      have th62_37_1 : fld h62 37 1 = fld hL3 37 1 := by rw [eh62]; exact fld_wr (Or.inl (by decide))
                      have th62_37_2 : fld h62 37 2 = fld hL3 37 2 := by rw [eh62]; exact fld_wr (Or.inl (by decide))
                      have th62_37_96 : fld h62 37 96 = fld hL3 37 96 := by rw [eh62]; exact fld_wr (Or.inl (by decide))
                      have E146 := eh62
                      have S146 := (IhL3.s (r := 177) (a1 := 177) (a2 := 177) (k := 20) (n := 8) (by decide +kernel) (by decide) (by decide))
                      have V146 : 9999 = min (yOv hL3 66 (v13).toNat + 5) 9999 := by
                        have q : yOv hL3 66 (v13).toNat = v58 := ev58.symm
                        omega
                      have Zh62 : yM h62 = (yM h) := (yM_fr (ms := [(177, 177, 0, 8)]) (zMR.one (a1 := 177) (a2 := 177) (j1 := 0) (j2 := 8) (by first | decide | exact ⟨by decide, by decide⟩) jbh62 eh62) (by decide +kernel) (IhL3.b (a1 := 37) (a2 := 37) (j1 := 86) (j2 := 87) (lo := 0) (hi := 6) (by decide +kernel) (r := 37) (j := 86) (by decide) (by decide) (by decide) (by decide)).2).trans iL3_4
                      have Rh62 : zMR ms164 h h62 := RhL3.w (a1 := 177) (a2 := 177) (j1 := 0) (j2 := 8) (by decide +kernel) (by first | decide | exact ⟨by decide, by decide⟩) jbh62 eh62
                      have K147 : yOv h62 = yGN (yOv h2) a ((kL3).toNat + 1) := by
                        rw [yGN_s, show (((kL3).toNat : Nat) : Int) = kL3 by omega]
                        first
                        | (rw [if_pos (by unfold yBt; omega)]; exact iL3_0)
                        | (rw [if_neg (by unfold yBt; omega)]; unfold yG1 yGv; rw [yGN_na (a := 364) (by decide) (by decide) (by decide), yGN_na (a := 365) (by decide) (by decide) (by decide), yGN_na (a := 79) (by decide) (by decide) (by decide), yOv_na (a := 364) (by decide) (by decide) (by decide), yOv_na (a := 365) (by decide) (by decide) (by decide), yOv_na (a := 79) (by decide) (by decide) (by decide), Z4, ← sv12, ← T38, ← sv14]; first | (rw [if_pos (show v14 = 0 by omega), ← iL3_0, ← V68]; exact yOv_w178 Zh62 Z25 E68 S68 (by omega)) | (rw [if_pos (show v14 = 0 by omega), ← iL3_0, show min (yOv hL3 80 (v12).toNat + 1) 5 = yOv hL3 80 (v12).toNat from (by have q : yOv hL3 80 (v12).toNat = v43 := ev43.symm; omega), zs_same]; done) | (rw [if_neg (show ¬ v14 = 0 by omega), if_pos (show v14 = 1 by omega), ← iL3_0, ← V99]; exact yOv_w179 Zh62 Z25 E99 S99 (by omega)) | (rw [if_neg (show ¬ v14 = 0 by omega), if_pos (show v14 = 1 by omega), ← iL3_0, show min (yOv hL3 81 (v12).toNat + 1) 9 = yOv hL3 81 (v12).toNat from (by have q : yOv hL3 81 (v12).toNat = v54 := ev54.symm; omega), zs_same]; done) | (rw [if_neg (show ¬ v14 = 0 by omega), if_neg (show ¬ v14 = 1 by omega), ← iL3_0, ← V146]; exact yOv_w177 Zh62 Z25 E146 S146 (by omega)))
                        | (exfalso; omega)
                      refine zwW_inc (i := 2) (c := 1) (x := kL3) (nx := 150) (by decide +kernel) rfl (by first | omega | exact ⟨by omega, by omega⟩) (ls' := [(2, 37), (0, a), (0, (kL3 + 1)), (0, v12), (0, v13)]) rfl ?_
                      refine zwW_p [(24, 6, 0)] (q := 6) (ls' := [(2, 37), (0, a), (0, (kL3 + 1)), (0, v12), (0, v13)]) (st' := []) (by decide +kernel) rfl ?_
                      exact IHL3 ((100 - (kL3 + 1))).toNat (by omega) (kL3 + 1) (0, v12) (0, v13) h62 rfl (by rw [show (kL3 + 1).toNat = (kL3).toNat + 1 by omega]; exact K147) (by omega) (by omega) (by omega) (Zh62) Ih62 Rh62
                · refine zwW_p [(1, 0, 2)] (q := 91) (ls' := [(2, 37), (0, a), (0, kL3), (0, v12), (0, v13)]) (st' := [(2, 37)]) (by decide +kernel) rfl ?_
                  refine zwW_gc IhL3 (kd := 13) (bn := 68) (n := 97) (c := 179) (nx := 94) (by decide +kernel) ?_
                  refine zwW_p [(1, 3, 0), (14, 0, 0)] (q := 96) (ls' := [(2, 37), (0, a), (0, kL3), (0, v12), (0, v13)]) (st' := [(0, v12), (2, 179), (0, v12), (2, 179)]) (by decide +kernel) rfl ?_
                  refine zwW_al IhL3 (a1 := 179) (a2 := 179) (kd := 20) (n := 20) (t := 0) (lo := 0) (hi := 9) (nx := 97) (by decide +kernel) (by first | decide | exact ⟨by decide, by decide⟩) ib2 ?_
                  intro v63 ev63 lv63 uv63
                  refine zwW_p [(0, 1, 0)] (q := 98) (ls' := [(2, 37), (0, a), (0, kL3), (0, v12), (0, v13)]) (st' := [(0, 1), (0, v63), (0, v12), (2, 179)]) (by decide +kernel) rfl ?_
                  refine zwW_add (nx := 99) (by decide +kernel) (by first | omega | exact ⟨by omega, by omega⟩) ?_
                  refine zwW_as IhL3 (a1 := 179) (a2 := 179) (n := 20) (lo := 0) (hi := 9) (nx := 100) (by decide +kernel) (by first | decide | exact ⟨by decide, by decide⟩) ib2 (by first | omega | exact ⟨by omega, by omega⟩) ?_
                  intro h64 eh64 Ih64
                  have jbh64 : 0 ≤ v12.toNat ∧ v12.toNat < 20 := ⟨Nat.zero_le _, zit ib2⟩
                  have th64_37_0 : fld h64 37 0 = fld hL3 37 0 := by rw [eh64]; exact fld_wr (Or.inl (by decide))
                  have th64_37_1 : fld h64 37 1 = fld hL3 37 1 := by rw [eh64]; exact fld_wr (Or.inl (by decide))
                  have th64_37_2 : fld h64 37 2 = fld hL3 37 2 := by rw [eh64]; exact fld_wr (Or.inl (by decide))
                  have th64_37_96 : fld h64 37 96 = fld hL3 37 96 := by rw [eh64]; exact fld_wr (Or.inl (by decide))
                  have E99 := eh64
                  have S99 := (IhL3.s (r := 179) (a1 := 179) (a2 := 179) (k := 20) (n := 20) (by decide +kernel) (by decide) (by decide))
                  have V99 : (v63 + 1) = min (yOv hL3 81 (v12).toNat + 1) 9 := by
                    have q : yOv hL3 81 (v12).toNat = v63 := ev63.symm
                    omega
                  have Zh64 : yM h64 = (yM h) := (yM_fr (ms := [(179, 179, 0, 20)]) (zMR.one (a1 := 179) (a2 := 179) (j1 := 0) (j2 := 20) (by first | decide | exact ⟨by decide, by decide⟩) jbh64 eh64) (by decide +kernel) (IhL3.b (a1 := 37) (a2 := 37) (j1 := 86) (j2 := 87) (lo := 0) (hi := 6) (by decide +kernel) (r := 37) (j := 86) (by decide) (by decide) (by decide) (by decide)).2).trans iL3_4
                  have Rh64 : zMR ms164 h h64 := RhL3.w (a1 := 179) (a2 := 179) (j1 := 0) (j2 := 20) (by decide +kernel) (by first | decide | exact ⟨by decide, by decide⟩) jbh64 eh64
                  refine zwW_p [(1, 0, 2)] (q := 101) (ls' := [(2, 37), (0, a), (0, kL3), (0, v12), (0, v13)]) (st' := [(2, 37)]) (by decide +kernel) rfl ?_
                  refine zwW_gc Ih64 (kd := 13) (bn := 95) (n := 97) (c := 365) (nx := 104) (by decide +kernel) ?_
                  refine zwW_p [(1, 2, 0)] (q := 105) (ls' := [(2, 37), (0, a), (0, kL3), (0, v12), (0, v13)]) (st' := [(0, kL3), (2, 365)]) (by decide +kernel) rfl ?_
                  refine zwW_al Ih64 (a1 := 365) (a2 := 365) (kd := 20) (n := 8) (t := 0) (lo := 0) (hi := 2) (nx := 106) (by decide +kernel) (by first | decide | exact ⟨by decide, by decide⟩) ib1 ?_
                  intro v65 ev65 lv65 uv65
                  have sv65 : v65 = (yM h) 365 kL3.toNat := Eq.trans ev65 (Eq.trans (Eq.symm (yM_p (h := h64) (a := 365) (n := 8) (i := kL3.toNat) rfl (zit ib1))) (Eq.trans (congrFun (congrFun Zh64 365) kL3.toNat) rfl))
                  refine zwW_p [(0, 2, 0)] (q := 107) (ls' := [(2, 37), (0, a), (0, kL3), (0, v12), (0, v13)]) (st' := [(0, 2), (0, v65)]) (by decide +kernel) rfl ?_
                  refine zwic_ne (q := 147) (nx := 110) (by decide +kernel) (fun c66 => ?_) (fun c66 => ?_)
                  · have K147 : yOv h64 = yGN (yOv h2) a ((kL3).toNat + 1) := by
                      rw [yGN_s, show (((kL3).toNat : Nat) : Int) = kL3 by omega]
                      first
                      | (rw [if_pos (by unfold yBt; omega)]; exact iL3_0)
                      | (rw [if_neg (by unfold yBt; omega)]; unfold yG1 yGv; rw [yGN_na (a := 364) (by decide) (by decide) (by decide), yGN_na (a := 365) (by decide) (by decide) (by decide), yGN_na (a := 79) (by decide) (by decide) (by decide), yOv_na (a := 364) (by decide) (by decide) (by decide), yOv_na (a := 365) (by decide) (by decide) (by decide), yOv_na (a := 79) (by decide) (by decide) (by decide), Z4, ← sv12, ← T38, ← sv14]; first | (rw [if_pos (show v14 = 0 by omega), ← iL3_0, ← V68]; exact yOv_w178 Zh64 Z25 E68 S68 (by omega)) | (rw [if_pos (show v14 = 0 by omega), ← iL3_0, show min (yOv hL3 80 (v12).toNat + 1) 5 = yOv hL3 80 (v12).toNat from (by have q : yOv hL3 80 (v12).toNat = v43 := ev43.symm; omega), zs_same]; done) | (rw [if_neg (show ¬ v14 = 0 by omega), if_pos (show v14 = 1 by omega), ← iL3_0, ← V99]; exact yOv_w179 Zh64 Z25 E99 S99 (by omega)) | (rw [if_neg (show ¬ v14 = 0 by omega), if_pos (show v14 = 1 by omega), ← iL3_0, show min (yOv hL3 81 (v12).toNat + 1) 9 = yOv hL3 81 (v12).toNat from (by have q : yOv hL3 81 (v12).toNat = v63 := ev63.symm; omega), zs_same]; done) | (rw [if_neg (show ¬ v14 = 0 by omega), if_neg (show ¬ v14 = 1 by omega), ← iL3_0, ← V146]; exact yOv_w177 Zh64 Z25 E146 S146 (by omega)))
                      | (exfalso; omega)
                    refine zwW_inc (i := 2) (c := 1) (x := kL3) (nx := 150) (by decide +kernel) rfl (by first | omega | exact ⟨by omega, by omega⟩) (ls' := [(2, 37), (0, a), (0, (kL3 + 1)), (0, v12), (0, v13)]) rfl ?_
                    refine zwW_p [(24, 6, 0)] (q := 6) (ls' := [(2, 37), (0, a), (0, (kL3 + 1)), (0, v12), (0, v13)]) (st' := []) (by decide +kernel) rfl ?_
                    exact IHL3 ((100 - (kL3 + 1))).toNat (by omega) (kL3 + 1) (0, v12) (0, v13) h64 rfl (by rw [show (kL3 + 1).toNat = (kL3).toNat + 1 by omega]; exact K147) (by omega) (by omega) (by omega) (Zh64) Ih64 Rh64
                  · refine zwW_p [(1, 0, 2)] (q := 111) (ls' := [(2, 37), (0, a), (0, kL3), (0, v12), (0, v13)]) (st' := [(2, 37)]) (by decide +kernel) rfl ?_
                    refine zwW_gc Ih64 (kd := 13) (bn := 66) (n := 97) (c := 177) (nx := 114) (by decide +kernel) ?_
                    refine zwW_p [(1, 4, 0), (1, 0, 2)] (q := 117) (ls' := [(2, 37), (0, a), (0, kL3), (0, v12), (0, v13)]) (st' := [(2, 37), (0, v13), (2, 177)]) (by decide +kernel) rfl ?_
                    refine zwW_gc Ih64 (kd := 13) (bn := 66) (n := 97) (c := 177) (nx := 120) (by decide +kernel) ?_
                    refine zwW_p [(1, 4, 0)] (q := 122) (ls' := [(2, 37), (0, a), (0, kL3), (0, v12), (0, v13)]) (st' := [(0, v13), (2, 177), (0, v13), (2, 177)]) (by decide +kernel) rfl ?_
                    have ib8 : 0 ≤ v13 ∧ v13 < ((8 : Nat) : Int) := (by first | omega | exact ⟨by omega, by omega⟩)
                    refine zwW_al Ih64 (a1 := 177) (a2 := 177) (kd := 20) (n := 8) (t := 0) (lo := -2147483648) (hi := 2147483647) (nx := 123) (by decide +kernel) (by first | decide | exact ⟨by decide, by decide⟩) ib8 ?_
                    intro v67 ev67 lv67 uv67
                    have P123 : v67 = yOv hL3 66 (v13).toNat := by first | exact ev67 | (exfalso; omega)
                    have KC := (BL.2.1 (v13).toNat (by rw [yOv_na (a := 37) (by decide) (by decide) (by decide), Z25]; show _ < fld h 37 1; omega)).1
                    refine zwW_p [(0, 5, 0)] (q := 124) (ls' := [(2, 37), (0, a), (0, kL3), (0, v12), (0, v13)]) (st' := [(0, 5), (0, v67), (0, v13), (2, 177)]) (by decide +kernel) rfl ?_
                    refine zwW_add (nx := 125) (by decide +kernel) (by first | omega | exact ⟨by omega, by omega⟩) ?_
                    refine zwW_p [(0, 9999, 0)] (q := 128) (ls' := [(2, 37), (0, a), (0, kL3), (0, v12), (0, v13)]) (st' := [(0, 9999), (0, (v67 + 5)), (0, v13), (2, 177)]) (by decide +kernel) rfl ?_
                    refine zwic_le (q := 137) (nx := 131) (by decide +kernel) (fun c68 => ?_) (fun c68 => ?_)
                    · refine zwW_p [(1, 0, 2)] (q := 138) (ls' := [(2, 37), (0, a), (0, kL3), (0, v12), (0, v13)]) (st' := [(2, 37), (0, v13), (2, 177)]) (by decide +kernel) rfl ?_
                      refine zwW_gc Ih64 (kd := 13) (bn := 66) (n := 97) (c := 177) (nx := 141) (by decide +kernel) ?_
                      refine zwW_p [(1, 4, 0)] (q := 143) (ls' := [(2, 37), (0, a), (0, kL3), (0, v12), (0, v13)]) (st' := [(0, v13), (2, 177), (0, v13), (2, 177)]) (by decide +kernel) rfl ?_
                      refine zwW_al Ih64 (a1 := 177) (a2 := 177) (kd := 20) (n := 8) (t := 0) (lo := -2147483648) (hi := 2147483647) (nx := 144) (by decide +kernel) (by first | decide | exact ⟨by decide, by decide⟩) ib8 ?_
                      intro v69 ev69 lv69 uv69
                      have P144 : v69 = yOv hL3 66 (v13).toNat := by first | exact ev69 | (exfalso; omega)
                      refine zwW_p [(0, 5, 0)] (q := 145) (ls' := [(2, 37), (0, a), (0, kL3), (0, v12), (0, v13)]) (st' := [(0, 5), (0, v69), (0, v13), (2, 177)]) (by decide +kernel) rfl ?_
                      refine zwW_add (nx := 146) (by decide +kernel) (by first | omega | exact ⟨by omega, by omega⟩) ?_
                      refine zwW_as Ih64 (a1 := 177) (a2 := 177) (n := 8) (lo := -2147483648) (hi := 2147483647) (nx := 147) (by decide +kernel) (by first | decide | exact ⟨by decide, by decide⟩) ib8 (by first | omega | exact ⟨by omega, by omega⟩) ?_
                      intro h70 eh70 Ih70
                      have jbh70 : 0 ≤ v13.toNat ∧ v13.toNat < 8 := ⟨Nat.zero_le _, zit ib8⟩
                      have th70_37_0 : fld h70 37 0 = fld h64 37 0 := by rw [eh70]; exact fld_wr (Or.inl (by decide))
                      have th70_37_1 : fld h70 37 1 = fld h64 37 1 := by rw [eh70]; exact fld_wr (Or.inl (by decide))
                      have th70_37_2 : fld h70 37 2 = fld h64 37 2 := by rw [eh70]; exact fld_wr (Or.inl (by decide))
                      have th70_37_96 : fld h70 37 96 = fld h64 37 96 := by rw [eh70]; exact fld_wr (Or.inl (by decide))
                      have E146 := eh70
                      have S146 := (Ih64.s (r := 177) (a1 := 177) (a2 := 177) (k := 20) (n := 8) (by decide +kernel) (by decide) (by decide))
                      have V146 : (v69 + 5) = min (yOv h64 66 (v13).toNat + 5) 9999 := by
                        have q : yOv h64 66 (v13).toNat = v69 := ev69.symm
                        omega
                      have Zh70 : yM h70 = (yM h) := (yM_fr (ms := [(177, 177, 0, 8)]) (zMR.one (a1 := 177) (a2 := 177) (j1 := 0) (j2 := 8) (by first | decide | exact ⟨by decide, by decide⟩) jbh70 eh70) (by decide +kernel) (Ih64.b (a1 := 37) (a2 := 37) (j1 := 86) (j2 := 87) (lo := 0) (hi := 6) (by decide +kernel) (r := 37) (j := 86) (by decide) (by decide) (by decide) (by decide)).2).trans Zh64
                      have Rh70 : zMR ms164 h h70 := Rh64.w (a1 := 177) (a2 := 177) (j1 := 0) (j2 := 8) (by decide +kernel) (by first | decide | exact ⟨by decide, by decide⟩) jbh70 eh70
                      have K147 : yOv h70 = yGN (yOv h2) a ((kL3).toNat + 1) := by
                        rw [yGN_s, show (((kL3).toNat : Nat) : Int) = kL3 by omega]
                        first
                        | (rw [if_pos (by unfold yBt; omega)]; exact iL3_0)
                        | (rw [if_neg (by unfold yBt; omega)]; unfold yG1 yGv; rw [yGN_na (a := 364) (by decide) (by decide) (by decide), yGN_na (a := 365) (by decide) (by decide) (by decide), yGN_na (a := 79) (by decide) (by decide) (by decide), yOv_na (a := 364) (by decide) (by decide) (by decide), yOv_na (a := 365) (by decide) (by decide) (by decide), yOv_na (a := 79) (by decide) (by decide) (by decide), Z4, ← sv12, ← T38, ← sv14]; first | (rw [if_pos (show v14 = 0 by omega), ← iL3_0, ← V68]; exact yOv_w178 Zh70 Z25 E68 S68 (by omega)) | (rw [if_pos (show v14 = 0 by omega), ← iL3_0, show min (yOv hL3 80 (v12).toNat + 1) 5 = yOv hL3 80 (v12).toNat from (by have q : yOv hL3 80 (v12).toNat = v43 := ev43.symm; omega), zs_same]; done) | (rw [if_neg (show ¬ v14 = 0 by omega), if_pos (show v14 = 1 by omega), ← iL3_0, ← V99]; exact yOv_w179 Zh70 Z25 E99 S99 (by omega)) | (rw [if_neg (show ¬ v14 = 0 by omega), if_pos (show v14 = 1 by omega), ← iL3_0, show min (yOv hL3 81 (v12).toNat + 1) 9 = yOv hL3 81 (v12).toNat from (by have q : yOv hL3 81 (v12).toNat = v63 := ev63.symm; omega), zs_same]; done) | (rw [if_neg (show ¬ v14 = 0 by omega), if_neg (show ¬ v14 = 1 by omega), ← iL3_0, ← V146]; exact yOv_w177 Zh70 Z25 E146 S146 (by omega)))
                        | (exfalso; omega)
                      refine zwW_inc (i := 2) (c := 1) (x := kL3) (nx := 150) (by decide +kernel) rfl (by first | omega | exact ⟨by omega, by omega⟩) (ls' := [(2, 37), (0, a), (0, (kL3 + 1)), (0, v12), (0, v13)]) rfl ?_
                      refine zwW_p [(24, 6, 0)] (q := 6) (ls' := [(2, 37), (0, a), (0, (kL3 + 1)), (0, v12), (0, v13)]) (st' := []) (by decide +kernel) rfl ?_
                      exact IHL3 ((100 - (kL3 + 1))).toNat (by omega) (kL3 + 1) (0, v12) (0, v13) h70 rfl (by rw [show (kL3 + 1).toNat = (kL3).toNat + 1 by omega]; exact K147) (by omega) (by omega) (by omega) (Zh70) Ih70 Rh70
                    · refine zwW_p [(0, 9999, 0), (24, 146, 0)] (q := 146) (ls' := [(2, 37), (0, a), (0, kL3), (0, v12), (0, v13)]) (st' := [(0, 9999), (0, v13), (2, 177)]) (by decide +kernel) rfl ?_
                      refine zwW_as Ih64 (a1 := 177) (a2 := 177) (n := 8) (lo := -2147483648) (hi := 2147483647) (nx := 147) (by decide +kernel) (by first | decide | exact ⟨by decide, by decide⟩) ib8 (by first | decide | exact ⟨by decide, by decide⟩) ?_
                      intro h71 eh71 Ih71
                      have jbh71 : 0 ≤ v13.toNat ∧ v13.toNat < 8 := ⟨Nat.zero_le _, zit ib8⟩
                      have th71_37_0 : fld h71 37 0 = fld h64 37 0 := by rw [eh71]; exact fld_wr (Or.inl (by decide))
                      have th71_37_1 : fld h71 37 1 = fld h64 37 1 := by rw [eh71]; exact fld_wr (Or.inl (by decide))
                      have th71_37_2 : fld h71 37 2 = fld h64 37 2 := by rw [eh71]; exact fld_wr (Or.inl (by decide))
                      have th71_37_96 : fld h71 37 96 = fld h64 37 96 := by rw [eh71]; exact fld_wr (Or.inl (by decide))
                      have E146 := eh71
                      have S146 := (Ih64.s (r := 177) (a1 := 177) (a2 := 177) (k := 20) (n := 8) (by decide +kernel) (by decide) (by decide))
                      have V146 : 9999 = min (yOv h64 66 (v13).toNat + 5) 9999 := by
                        have q : yOv h64 66 (v13).toNat = v67 := ev67.symm
                        omega
                      have Zh71 : yM h71 = (yM h) := (yM_fr (ms := [(177, 177, 0, 8)]) (zMR.one (a1 := 177) (a2 := 177) (j1 := 0) (j2 := 8) (by first | decide | exact ⟨by decide, by decide⟩) jbh71 eh71) (by decide +kernel) (Ih64.b (a1 := 37) (a2 := 37) (j1 := 86) (j2 := 87) (lo := 0) (hi := 6) (by decide +kernel) (r := 37) (j := 86) (by decide) (by decide) (by decide) (by decide)).2).trans Zh64
                      have Rh71 : zMR ms164 h h71 := Rh64.w (a1 := 177) (a2 := 177) (j1 := 0) (j2 := 8) (by decide +kernel) (by first | decide | exact ⟨by decide, by decide⟩) jbh71 eh71
                      have K147 : yOv h71 = yGN (yOv h2) a ((kL3).toNat + 1) := by
                        rw [yGN_s, show (((kL3).toNat : Nat) : Int) = kL3 by omega]
                        first
                        | (rw [if_pos (by unfold yBt; omega)]; exact iL3_0)
                        | (rw [if_neg (by unfold yBt; omega)]; unfold yG1 yGv; rw [yGN_na (a := 364) (by decide) (by decide) (by decide), yGN_na (a := 365) (by decide) (by decide) (by decide), yGN_na (a := 79) (by decide) (by decide) (by decide), yOv_na (a := 364) (by decide) (by decide) (by decide), yOv_na (a := 365) (by decide) (by decide) (by decide), yOv_na (a := 79) (by decide) (by decide) (by decide), Z4, ← sv12, ← T38, ← sv14]; first | (rw [if_pos (show v14 = 0 by omega), ← iL3_0, ← V68]; exact yOv_w178 Zh71 Z25 E68 S68 (by omega)) | (rw [if_pos (show v14 = 0 by omega), ← iL3_0, show min (yOv hL3 80 (v12).toNat + 1) 5 = yOv hL3 80 (v12).toNat from (by have q : yOv hL3 80 (v12).toNat = v43 := ev43.symm; omega), zs_same]; done) | (rw [if_neg (show ¬ v14 = 0 by omega), if_pos (show v14 = 1 by omega), ← iL3_0, ← V99]; exact yOv_w179 Zh71 Z25 E99 S99 (by omega)) | (rw [if_neg (show ¬ v14 = 0 by omega), if_pos (show v14 = 1 by omega), ← iL3_0, show min (yOv hL3 81 (v12).toNat + 1) 9 = yOv hL3 81 (v12).toNat from (by have q : yOv hL3 81 (v12).toNat = v63 := ev63.symm; omega), zs_same]; done) | (rw [if_neg (show ¬ v14 = 0 by omega), if_neg (show ¬ v14 = 1 by omega), ← iL3_0, ← V146]; exact yOv_w177 Zh71 Z25 E146 S146 (by omega)))
                        | (exfalso; omega)
                      refine zwW_inc (i := 2) (c := 1) (x := kL3) (nx := 150) (by decide +kernel) rfl (by first | omega | exact ⟨by omega, by omega⟩) (ls' := [(2, 37), (0, a), (0, (kL3 + 1)), (0, v12), (0, v13)]) rfl ?_
                      refine zwW_p [(24, 6, 0)] (q := 6) (ls' := [(2, 37), (0, a), (0, (kL3 + 1)), (0, v12), (0, v13)]) (st' := []) (by decide +kernel) rfl ?_
                      exact IHL3 ((100 - (kL3 + 1))).toNat (by omega) (kL3 + 1) (0, v12) (0, v13) h71 rfl (by rw [show (kL3 + 1).toNat = (kL3).toNat + 1 by omega]; exact K147) (by omega) (by omega) (by omega) (Zh71) Ih71 Rh71
            · refine zwW_p [(1, 0, 2)] (q := 60) (ls' := [(2, 37), (0, a), (0, kL3), (0, v12), (0, v13)]) (st' := [(2, 37)]) (by decide +kernel) rfl ?_
              refine zwW_gc IhL3 (kd := 13) (bn := 67) (n := 97) (c := 178) (nx := 63) (by decide +kernel) ?_
              refine zwW_p [(1, 3, 0), (14, 0, 0)] (q := 65) (ls' := [(2, 37), (0, a), (0, kL3), (0, v12), (0, v13)]) (st' := [(0, v12), (2, 178), (0, v12), (2, 178)]) (by decide +kernel) rfl ?_
              refine zwW_al IhL3 (a1 := 178) (a2 := 178) (kd := 20) (n := 20) (t := 0) (lo := 0) (hi := 5) (nx := 66) (by decide +kernel) (by first | decide | exact ⟨by decide, by decide⟩) ib2 ?_
              intro v72 ev72 lv72 uv72
              refine zwW_p [(0, 1, 0)] (q := 67) (ls' := [(2, 37), (0, a), (0, kL3), (0, v12), (0, v13)]) (st' := [(0, 1), (0, v72), (0, v12), (2, 178)]) (by decide +kernel) rfl ?_
              refine zwW_add (nx := 68) (by decide +kernel) (by first | omega | exact ⟨by omega, by omega⟩) ?_
              refine zwW_as IhL3 (a1 := 178) (a2 := 178) (n := 20) (lo := 0) (hi := 5) (nx := 69) (by decide +kernel) (by first | decide | exact ⟨by decide, by decide⟩) ib2 (by first | omega | exact ⟨by omega, by omega⟩) ?_
              intro h73 eh73 Ih73
              have jbh73 : 0 ≤ v12.toNat ∧ v12.toNat < 20 := ⟨Nat.zero_le _, zit ib2⟩
              have th73_37_0 : fld h73 37 0 = fld hL3 37 0 := by rw [eh73]; exact fld_wr (Or.inl (by decide))
              have th73_37_1 : fld h73 37 1 = fld hL3 37 1 := by rw [eh73]; exact fld_wr (Or.inl (by decide))
              have th73_37_2 : fld h73 37 2 = fld hL3 37 2 := by rw [eh73]; exact fld_wr (Or.inl (by decide))
              have th73_37_96 : fld h73 37 96 = fld hL3 37 96 := by rw [eh73]; exact fld_wr (Or.inl (by decide))
              have E68 := eh73
              have S68 := (IhL3.s (r := 178) (a1 := 178) (a2 := 178) (k := 20) (n := 20) (by decide +kernel) (by decide) (by decide))
              have V68 : (v72 + 1) = min (yOv hL3 80 (v12).toNat + 1) 5 := by
                have q : yOv hL3 80 (v12).toNat = v72 := ev72.symm
                omega
              have Zh73 : yM h73 = (yM h) := (yM_fr (ms := [(178, 178, 0, 20)]) (zMR.one (a1 := 178) (a2 := 178) (j1 := 0) (j2 := 20) (by first | decide | exact ⟨by decide, by decide⟩) jbh73 eh73) (by decide +kernel) (IhL3.b (a1 := 37) (a2 := 37) (j1 := 86) (j2 := 87) (lo := 0) (hi := 6) (by decide +kernel) (r := 37) (j := 86) (by decide) (by decide) (by decide) (by decide)).2).trans iL3_4
              have Rh73 : zMR ms164 h h73 := RhL3.w (a1 := 178) (a2 := 178) (j1 := 0) (j2 := 20) (by decide +kernel) (by first | decide | exact ⟨by decide, by decide⟩) jbh73 eh73
              refine zwW_p [(1, 0, 2)] (q := 70) (ls' := [(2, 37), (0, a), (0, kL3), (0, v12), (0, v13)]) (st' := [(2, 37)]) (by decide +kernel) rfl ?_
              refine zwW_gc Ih73 (kd := 13) (bn := 95) (n := 97) (c := 365) (nx := 73) (by decide +kernel) ?_
              refine zwW_p [(1, 2, 0)] (q := 74) (ls' := [(2, 37), (0, a), (0, kL3), (0, v12), (0, v13)]) (st' := [(0, kL3), (2, 365)]) (by decide +kernel) rfl ?_
              refine zwW_al Ih73 (a1 := 365) (a2 := 365) (kd := 20) (n := 8) (t := 0) (lo := 0) (hi := 2) (nx := 75) (by decide +kernel) (by first | decide | exact ⟨by decide, by decide⟩) ib1 ?_
              intro v74 ev74 lv74 uv74
              have sv74 : v74 = (yM h) 365 kL3.toNat := Eq.trans ev74 (Eq.trans (Eq.symm (yM_p (h := h73) (a := 365) (n := 8) (i := kL3.toNat) rfl (zit ib1))) (Eq.trans (congrFun (congrFun Zh73 365) kL3.toNat) rfl))
              refine zwW_p [(0, 1, 0)] (q := 76) (ls' := [(2, 37), (0, a), (0, kL3), (0, v12), (0, v13)]) (st' := [(0, 1), (0, v74)]) (by decide +kernel) rfl ?_
              refine zwic_ne (q := 100) (nx := 79) (by decide +kernel) (fun c75 => ?_) (fun c75 => ?_)
              · refine zwW_p [(1, 0, 2)] (q := 101) (ls' := [(2, 37), (0, a), (0, kL3), (0, v12), (0, v13)]) (st' := [(2, 37)]) (by decide +kernel) rfl ?_
                refine zwW_gc Ih73 (kd := 13) (bn := 95) (n := 97) (c := 365) (nx := 104) (by decide +kernel) ?_
                refine zwW_p [(1, 2, 0)] (q := 105) (ls' := [(2, 37), (0, a), (0, kL3), (0, v12), (0, v13)]) (st' := [(0, kL3), (2, 365)]) (by decide +kernel) rfl ?_
                refine zwW_al Ih73 (a1 := 365) (a2 := 365) (kd := 20) (n := 8) (t := 0) (lo := 0) (hi := 2) (nx := 106) (by decide +kernel) (by first | decide | exact ⟨by decide, by decide⟩) ib1 ?_
                intro v76 ev76 lv76 uv76
                have sv76 : v76 = (yM h) 365 kL3.toNat := Eq.trans ev76 (Eq.trans (Eq.symm (yM_p (h := h73) (a := 365) (n := 8) (i := kL3.toNat) rfl (zit ib1))) (Eq.trans (congrFun (congrFun Zh73 365) kL3.toNat) rfl))
                refine zwW_p [(0, 2, 0)] (q := 107) (ls' := [(2, 37), (0, a), (0, kL3), (0, v12), (0, v13)]) (st' := [(0, 2), (0, v76)]) (by decide +kernel) rfl ?_
                refine zwic_ne (q := 147) (nx := 110) (by decide +kernel) (fun c77 => ?_) (fun c77 => ?_)
                · have K147 : yOv h73 = yGN (yOv h2) a ((kL3).toNat + 1) := by
                    rw [yGN_s, show (((kL3).toNat : Nat) : Int) = kL3 by omega]
                    first
                    | (rw [if_pos (by unfold yBt; omega)]; exact iL3_0)
                    | (rw [if_neg (by unfold yBt; omega)]; unfold yG1 yGv; rw [yGN_na (a := 364) (by decide) (by decide) (by decide), yGN_na (a := 365) (by decide) (by decide) (by decide), yGN_na (a := 79) (by decide) (by decide) (by decide), yOv_na (a := 364) (by decide) (by decide) (by decide), yOv_na (a := 365) (by decide) (by decide) (by decide), yOv_na (a := 79) (by decide) (by decide) (by decide), Z4, ← sv12, ← T38, ← sv14]; first | (rw [if_pos (show v14 = 0 by omega), ← iL3_0, ← V68]; exact yOv_w178 Zh73 Z25 E68 S68 (by omega)) | (rw [if_pos (show v14 = 0 by omega), ← iL3_0, show min (yOv hL3 80 (v12).toNat + 1) 5 = yOv hL3 80 (v12).toNat from (by have q : yOv hL3 80 (v12).toNat = v72 := ev72.symm; omega), zs_same]; done) | (rw [if_neg (show ¬ v14 = 0 by omega), if_pos (show v14 = 1 by omega), ← iL3_0, ← V99]; exact yOv_w179 Zh73 Z25 E99 S99 (by omega)) | (rw [if_neg (show ¬ v14 = 0 by omega), if_pos (show v14 = 1 by omega), ← iL3_0, show min (yOv hL3 81 (v12).toNat + 1) 9 = yOv hL3 81 (v12).toNat from (by have q : yOv hL3 81 (v12).toNat = a := ea.symm; omega), zs_same]; done) | (rw [if_neg (show ¬ v14 = 0 by omega), if_neg (show ¬ v14 = 1 by omega), ← iL3_0, ← V146]; exact yOv_w177 Zh73 Z25 E146 S146 (by omega)))
                    | (exfalso; omega)
                  refine zwW_inc (i := 2) (c := 1) (x := kL3) (nx := 150) (by decide +kernel) rfl (by first | omega | exact ⟨by omega, by omega⟩) (ls' := [(2, 37), (0, a), (0, (kL3 + 1)), (0, v12), (0, v13)]) rfl ?_
                  refine zwW_p [(24, 6, 0)] (q := 6) (ls' := [(2, 37), (0, a), (0, (kL3 + 1)), (0, v12), (0, v13)]) (st' := []) (by decide +kernel) rfl ?_
                  exact IHL3 ((100 - (kL3 + 1))).toNat (by omega) (kL3 + 1) (0, v12) (0, v13) h73 rfl (by rw [show (kL3 + 1).toNat = (kL3).toNat + 1 by omega]; exact K147) (by omega) (by omega) (by omega) (Zh73) Ih73 Rh73
                · refine zwW_p [(1, 0, 2)] (q := 111) (ls' := [(2, 37), (0, a), (0, kL3), (0, v12), (0, v13)]) (st' := [(2, 37)]) (by decide +kernel) rfl ?_
                  refine zwW_gc Ih73 (kd := 13) (bn := 66) (n := 97) (c := 177) (nx := 114) (by decide +kernel) ?_
                  refine zwW_p [(1, 4, 0), (1, 0, 2)] (q := 117) (ls' := [(2, 37), (0, a), (0, kL3), (0, v12), (0, v13)]) (st' := [(2, 37), (0, v13), (2, 177)]) (by decide +kernel) rfl ?_
                  refine zwW_gc Ih73 (kd := 13) (bn := 66) (n := 97) (c := 177) (nx := 120) (by decide +kernel) ?_
                  refine zwW_p [(1, 4, 0)] (q := 122) (ls' := [(2, 37), (0, a), (0, kL3), (0, v12), (0, v13)]) (st' := [(0, v13), (2, 177), (0, v13), (2, 177)]) (by decide +kernel) rfl ?_
                  have ib9 : 0 ≤ v13 ∧ v13 < ((8 : Nat) : Int) := (by first | omega | exact ⟨by omega, by omega⟩)
                  refine zwW_al Ih73 (a1 := 177) (a2 := 177) (kd := 20) (n := 8) (t := 0) (lo := -2147483648) (hi := 2147483647) (nx := 123) (by decide +kernel) (by first | decide | exact ⟨by decide, by decide⟩) ib9 ?_
                  intro v78 ev78 lv78 uv78
                  have P123 : v78 = yOv hL3 66 (v13).toNat := by first | exact ev78 | (exfalso; omega)
                  have KC := (BL.2.1 (v13).toNat (by rw [yOv_na (a := 37) (by decide) (by decide) (by decide), Z25]; show _ < fld h 37 1; omega)).1
                  refine zwW_p [(0, 5, 0)] (q := 124) (ls' := [(2, 37), (0, a), (0, kL3), (0, v12), (0, v13)]) (st' := [(0, 5), (0, v78), (0, v13), (2, 177)]) (by decide +kernel) rfl ?_
                  refine zwW_add (nx := 125) (by decide +kernel) (by first | omega | exact ⟨by omega, by omega⟩) ?_
                  refine zwW_p [(0, 9999, 0)] (q := 128) (ls' := [(2, 37), (0, a), (0, kL3), (0, v12), (0, v13)]) (st' := [(0, 9999), (0, (v78 + 5)), (0, v13), (2, 177)]) (by decide +kernel) rfl ?_
                  refine zwic_le (q := 137) (nx := 131) (by decide +kernel) (fun c79 => ?_) (fun c79 => ?_)
                  · refine zwW_p [(1, 0, 2)] (q := 138) (ls' := [(2, 37), (0, a), (0, kL3), (0, v12), (0, v13)]) (st' := [(2, 37), (0, v13), (2, 177)]) (by decide +kernel) rfl ?_
                    refine zwW_gc Ih73 (kd := 13) (bn := 66) (n := 97) (c := 177) (nx := 141) (by decide +kernel) ?_
                    refine zwW_p [(1, 4, 0)] (q := 143) (ls' := [(2, 37), (0, a), (0, kL3), (0, v12), (0, v13)]) (st' := [(0, v13), (2, 177), (0, v13), (2, 177)]) (by decide +kernel) rfl ?_
                    refine zwW_al Ih73 (a1 := 177) (a2 := 177) (kd := 20) (n := 8) (t := 0) (lo := -2147483648) (hi := 2147483647) (nx := 144) (by decide +kernel) (by first | decide | exact ⟨by decide, by decide⟩) ib9 ?_
                    intro v80 ev80 lv80 uv80
                    have P144 : v80 = yOv hL3 66 (v13).toNat := by first | exact ev80 | (exfalso; omega)
                    refine zwW_p [(0, 5, 0)] (q := 145) (ls' := [(2, 37), (0, a), (0, kL3), (0, v12), (0, v13)]) (st' := [(0, 5), (0, v80), (0, v13), (2, 177)]) (by decide +kernel) rfl ?_
                    refine zwW_add (nx := 146) (by decide +kernel) (by first | omega | exact ⟨by omega, by omega⟩) ?_
                    refine zwW_as Ih73 (a1 := 177) (a2 := 177) (n := 8) (lo := -2147483648) (hi := 2147483647) (nx := 147) (by decide +kernel) (by first | decide | exact ⟨by decide, by decide⟩) ib9 (by first | omega | exact ⟨by omega, by omega⟩) ?_
                    intro h81 eh81 Ih81
                    have jbh81 : 0 ≤ v13.toNat ∧ v13.toNat < 8 := ⟨Nat.zero_le _, zit ib9⟩
                    have th81_37_0 : fld h81 37 0 = fld h73 37 0 := by rw [eh81]; exact fld_wr (Or.inl (by decide))
                    have th81_37_1 : fld h81 37 1 = fld h73 37 1 := by rw [eh81]; exact fld_wr (Or.inl (by decide))
                    have th81_37_2 : fld h81 37 2 = fld h73 37 2 := by rw [eh81]; exact fld_wr (Or.inl (by decide))
                    have th81_37_96 : fld h81 37 96 = fld h73 37 96 := by rw [eh81]; exact fld_wr (Or.inl (by decide))
                    have E146 := eh81
                    have S146 := (Ih73.s (r := 177) (a1 := 177) (a2 := 177) (k := 20) (n := 8) (by decide +kernel) (by decide) (by decide))
                    have V146 : (v80 + 5) = min (yOv h73 66 (v13).toNat + 5) 9999 := by
                      have q : yOv h73 66 (v13).toNat = v80 := ev80.symm
                      omega
                    have Zh81 : yM h81 = (yM h) := (yM_fr (ms := [(177, 177, 0, 8)]) (zMR.one (a1 := 177) (a2 := 177) (j1 := 0) (j2 := 8) (by first | decide | exact ⟨by decide, by decide⟩) jbh81 eh81) (by decide +kernel) (Ih73.b (a1 := 37) (a2 := 37) (j1 := 86) (j2 := 87) (lo := 0) (hi := 6) (by decide +kernel) (r := 37) (j := 86) (by decide) (by decide) (by decide) (by decide)).2).trans Zh73
                    have Rh81 : zMR ms164 h h81 := Rh73.w (a1 := 177) (a2 := 177) (j1 := 0) (j2 := 8) (by decide +kernel) (by first | decide | exact ⟨by decide, by decide⟩) jbh81 eh81
                    have K147 : yOv h81 = yGN (yOv h2) a ((kL3).toNat + 1) := by
                      rw [yGN_s, show (((kL3).toNat : Nat) : Int) = kL3 by omega]
                      first
                      | (rw [if_pos (by unfold yBt; omega)]; exact iL3_0)
                      | (rw [if_neg (by unfold yBt; omega)]; unfold yG1 yGv; rw [yGN_na (a := 364) (by decide) (by decide) (by decide), yGN_na (a := 365) (by decide) (by decide) (by decide), yGN_na (a := 79) (by decide) (by decide) (by decide), yOv_na (a := 364) (by decide) (by decide) (by decide), yOv_na (a := 365) (by decide) (by decide) (by decide), yOv_na (a := 79) (by decide) (by decide) (by decide), Z4, ← sv12, ← T38, ← sv14]; first | (rw [if_pos (show v14 = 0 by omega), ← iL3_0, ← V68]; exact yOv_w178 Zh81 Z25 E68 S68 (by omega)) | (rw [if_pos (show v14 = 0 by omega), ← iL3_0, show min (yOv hL3 80 (v12).toNat + 1) 5 = yOv hL3 80 (v12).toNat from (by have q : yOv hL3 80 (v12).toNat = v72 := ev72.symm; omega), zs_same]; done) | (rw [if_neg (show ¬ v14 = 0 by omega), if_pos (show v14 = 1 by omega), ← iL3_0, ← V99]; exact yOv_w179 Zh81 Z25 E99 S99 (by omega)) | (rw [if_neg (show ¬ v14 = 0 by omega), if_pos (show v14 = 1 by omega), ← iL3_0, show min (yOv hL3 81 (v12).toNat + 1) 9 = yOv hL3 81 (v12).toNat from (by have q : yOv hL3 81 (v12).toNat = a := ea.symm; omega), zs_same]; done) | (rw [if_neg (show ¬ v14 = 0 by omega), if_neg (show ¬ v14 = 1 by omega), ← iL3_0, ← V146]; exact yOv_w177 Zh81 Z25 E146 S146 (by omega)))
                      | (exfalso; omega)
                    refine zwW_inc (i := 2) (c := 1) (x := kL3) (nx := 150) (by decide +kernel) rfl (by first | omega | exact ⟨by omega, by omega⟩) (ls' := [(2, 37), (0, a), (0, (kL3 + 1)), (0, v12), (0, v13)]) rfl ?_
                    refine zwW_p [(24, 6, 0)] (q := 6) (ls' := [(2, 37), (0, a), (0, (kL3 + 1)), (0, v12), (0, v13)]) (st' := []) (by decide +kernel) rfl ?_
                    exact IHL3 ((100 - (kL3 + 1))).toNat (by omega) (kL3 + 1) (0, v12) (0, v13) h81 rfl (by rw [show (kL3 + 1).toNat = (kL3).toNat + 1 by omega]; exact K147) (by omega) (by omega) (by omega) (Zh81) Ih81 Rh81
                  · refine zwW_p [(0, 9999, 0), (24, 146, 0)] (q := 146) (ls' := [(2, 37), (0, a), (0, kL3), (0, v12), (0, v13)]) (st' := [(0, 9999), (0, v13), (2, 177)]) (by decide +kernel) rfl ?_
                    refine zwW_as Ih73 (a1 := 177) (a2 := 177) (n := 8) (lo := -2147483648) (hi := 2147483647) (nx := 147) (by decide +kernel) (by first | decide | exact ⟨by decide, by decide⟩) ib9 (by first | decide | exact ⟨by decide, by decide⟩) ?_
                    intro h82 eh82 Ih82
                    have jbh82 : 0 ≤ v13.toNat ∧ v13.toNat < 8 := ⟨Nat.zero_le _, zit ib9⟩
                    have th82_37_0 : fld h82 37 0 = fld h73 37 0 := by rw [eh82]; exact fld_wr (Or.inl (by decide))
                    have th82_37_1 : fld h82 37 1 = fld h73 37 1 := by rw [eh82]; exact fld_wr (Or.inl (by decide))
                    have th82_37_2 : fld h82 37 2 = fld h73 37 2 := by rw [eh82]; exact fld_wr (Or.inl (by decide))
                    have th82_37_96 : fld h82 37 96 = fld h73 37 96 := by rw [eh82]; exact fld_wr (Or.inl (by decide))
                    have E146 := eh82
                    have S146 := (Ih73.s (r := 177) (a1 := 177) (a2 := 177) (k := 20) (n := 8) (by decide +kernel) (by decide) (by decide))
                    have V146 : 9999 = min (yOv h73 66 (v13).toNat + 5) 9999 := by
                      have q : yOv h73 66 (v13).toNat = v78 := ev78.symm
                      omega
                    have Zh82 : yM h82 = (yM h) := (yM_fr (ms := [(177, 177, 0, 8)]) (zMR.one (a1 := 177) (a2 := 177) (j1 := 0) (j2 := 8) (by first | decide | exact ⟨by decide, by decide⟩) jbh82 eh82) (by decide +kernel) (Ih73.b (a1 := 37) (a2 := 37) (j1 := 86) (j2 := 87) (lo := 0) (hi := 6) (by decide +kernel) (r := 37) (j := 86) (by decide) (by decide) (by decide) (by decide)).2).trans Zh73
                    have Rh82 : zMR ms164 h h82 := Rh73.w (a1 := 177) (a2 := 177) (j1 := 0) (j2 := 8) (by decide +kernel) (by first | decide | exact ⟨by decide, by decide⟩) jbh82 eh82
                    have K147 : yOv h82 = yGN (yOv h2) a ((kL3).toNat + 1) := by
                      rw [yGN_s, show (((kL3).toNat : Nat) : Int) = kL3 by omega]
                      first
                      | (rw [if_pos (by unfold yBt; omega)]; exact iL3_0)
                      | (rw [if_neg (by unfold yBt; omega)]; unfold yG1 yGv; rw [yGN_na (a := 364) (by decide) (by decide) (by decide), yGN_na (a := 365) (by decide) (by decide) (by decide), yGN_na (a := 79) (by decide) (by decide) (by decide), yOv_na (a := 364) (by decide) (by decide) (by decide), yOv_na (a := 365) (by decide) (by decide) (by decide), yOv_na (a := 79) (by decide) (by decide) (by decide), Z4, ← sv12, ← T38, ← sv14]; first | (rw [if_pos (show v14 = 0 by omega), ← iL3_0, ← V68]; exact yOv_w178 Zh82 Z25 E68 S68 (by omega)) | (rw [if_pos (show v14 = 0 by omega), ← iL3_0, show min (yOv hL3 80 (v12).toNat + 1) 5 = yOv hL3 80 (v12).toNat from (by have q : yOv hL3 80 (v12).toNat = v72 := ev72.symm; omega), zs_same]; done) | (rw [if_neg (show ¬ v14 = 0 by omega), if_pos (show v14 = 1 by omega), ← iL3_0, ← V99]; exact yOv_w179 Zh82 Z25 E99 S99 (by omega)) | (rw [if_neg (show ¬ v14 = 0 by omega), if_pos (show v14 = 1 by omega), ← iL3_0, show min (yOv hL3 81 (v12).toNat + 1) 9 = yOv hL3 81 (v12).toNat from (by have q : yOv hL3 81 (v12).toNat = a := ea.symm; omega), zs_same]; done) | (rw [if_neg (show ¬ v14 = 0 by omega), if_neg (show ¬ v14 = 1 by omega), ← iL3_0, ← V146]; exact yOv_w177 Zh82 Z25 E146 S146 (by omega)))
                      | (exfalso; omega)
                    refine zwW_inc (i := 2) (c := 1) (x := kL3) (nx := 150) (by decide +kernel) rfl (by first | omega | exact ⟨by omega, by omega⟩) (ls' := [(2, 37), (0, a), (0, (kL3 + 1)), (0, v12), (0, v13)]) rfl ?_
                    refine zwW_p [(24, 6, 0)] (q := 6) (ls' := [(2, 37), (0, a), (0, (kL3 + 1)), (0, v12), (0, v13)]) (st' := []) (by decide +kernel) rfl ?_
                    exact IHL3 ((100 - (kL3 + 1))).toNat (by omega) (kL3 + 1) (0, v12) (0, v13) h82 rfl (by rw [show (kL3 + 1).toNat = (kL3).toNat + 1 by omega]; exact K147) (by omega) (by omega) (by omega) (Zh82) Ih82 Rh82
              · refine zwW_p [(1, 0, 2)] (q := 80) (ls' := [(2, 37), (0, a), (0, kL3), (0, v12), (0, v13)]) (st' := [(2, 37)]) (by decide +kernel) rfl ?_
                refine zwW_gc Ih73 (kd := 13) (bn := 68) (n := 97) (c := 179) (nx := 83) (by decide +kernel) ?_
                refine zwW_p [(1, 3, 0)] (q := 84) (ls' := [(2, 37), (0, a), (0, kL3), (0, v12), (0, v13)]) (st' := [(0, v12), (2, 179)]) (by decide +kernel) rfl ?_
                refine zwW_al Ih73 (a1 := 179) (a2 := 179) (kd := 20) (n := 20) (t := 0) (lo := 0) (hi := 9) (nx := 85) (by decide +kernel) (by first | decide | exact ⟨by decide, by decide⟩) ib2 ?_
                intro v83 ev83 lv83 uv83
                have P85 : v83 = yOv hL3 81 (v12).toNat := by first | exact ev83 | (exfalso; omega)
                refine zwW_p [(0, 9, 0)] (q := 87) (ls' := [(2, 37), (0, a), (0, kL3), (0, v12), (0, v13)]) (st' := [(0, 9), (0, v83)]) (by decide +kernel) rfl ?_
                refine zwic_ge (q := 100) (nx := 90) (by decide +kernel) (fun c84 => ?_) (fun c84 => ?_)
                · refine zwW_p [(1, 0, 2)] (q := 101) (ls' := [(2, 37), (0, a), (0, kL3), (0, v12), (0, v13)]) (st' := [(2, 37)]) (by decide +kernel) rfl ?_
                  refine zwW_gc Ih73 (kd := 13) (bn := 95) (n := 97) (c := 365) (nx := 104) (by decide +kernel) ?_
                  refine zwW_p [(1, 2, 0)] (q := 105) (ls' := [(2, 37), (0, a), (0, kL3), (0, v12), (0, v13)]) (st' := [(0, kL3), (2, 365)]) (by decide +kernel) rfl ?_
                  refine zwW_al Ih73 (a1 := 365) (a2 := 365) (kd := 20) (n := 8) (t := 0) (lo := 0) (hi := 2) (nx := 106) (by decide +kernel) (by first | decide | exact ⟨by decide, by decide⟩) ib1 ?_
                  intro v85 ev85 lv85 uv85
                  have sv85 : v85 = (yM h) 365 kL3.toNat := Eq.trans ev85 (Eq.trans (Eq.symm (yM_p (h := h73) (a := 365) (n := 8) (i := kL3.toNat) rfl (zit ib1))) (Eq.trans (congrFun (congrFun Zh73 365) kL3.toNat) rfl))
                  refine zwW_p [(0, 2, 0)] (q := 107) (ls' := [(2, 37), (0, a), (0, kL3), (0, v12), (0, v13)]) (st' := [(0, 2), (0, v85)]) (by decide +kernel) rfl ?_
                  refine zwic_ne (q := 147) (nx := 110) (by decide +kernel) (fun c86 => ?_) (fun c86 => ?_)
                  · have K147 : yOv h73 = yGN (yOv h2) a ((kL3).toNat + 1) := by
                      rw [yGN_s, show (((kL3).toNat : Nat) : Int) = kL3 by omega]
                      first
                      | (rw [if_pos (by unfold yBt; omega)]; exact iL3_0)
                      | (rw [if_neg (by unfold yBt; omega)]; unfold yG1 yGv; rw [yGN_na (a := 364) (by decide) (by decide) (by decide), yGN_na (a := 365) (by decide) (by decide) (by decide), yGN_na (a := 79) (by decide) (by decide) (by decide), yOv_na (a := 364) (by decide) (by decide) (by decide), yOv_na (a := 365) (by decide) (by decide) (by decide), yOv_na (a := 79) (by decide) (by decide) (by decide), Z4, ← sv12, ← T38, ← sv14]; first | (rw [if_pos (show v14 = 0 by omega), ← iL3_0, ← V68]; exact yOv_w178 Zh73 Z25 E68 S68 (by omega)) | (rw [if_pos (show v14 = 0 by omega), ← iL3_0, show min (yOv hL3 80 (v12).toNat + 1) 5 = yOv hL3 80 (v12).toNat from (by have q : yOv hL3 80 (v12).toNat = v72 := ev72.symm; omega), zs_same]; done) | (rw [if_neg (show ¬ v14 = 0 by omega), if_pos (show v14 = 1 by omega), ← iL3_0, ← V99]; exact yOv_w179 Zh73 Z25 E99 S99 (by omega)) | (rw [if_neg (show ¬ v14 = 0 by omega), if_pos (show v14 = 1 by omega), ← iL3_0, show min (yOv hL3 81 (v12).toNat + 1) 9 = yOv hL3 81 (v12).toNat from (by have q : yOv hL3 81 (v12).toNat = v83 := ev83.symm; omega), zs_same]; done) | (rw [if_neg (show ¬ v14 = 0 by omega), if_neg (show ¬ v14 = 1 by omega), ← iL3_0, ← V146]; exact yOv_w177 Zh73 Z25 E146 S146 (by omega)))
                      | (exfalso; omega)
                    refine zwW_inc (i := 2) (c := 1) (x := kL3) (nx := 150) (by decide +kernel) rfl (by first | omega | exact ⟨by omega, by omega⟩) (ls' := [(2, 37), (0, a), (0, (kL3 + 1)), (0, v12), (0, v13)]) rfl ?_
                    refine zwW_p [(24, 6, 0)] (q := 6) (ls' := [(2, 37), (0, a), (0, (kL3 + 1)), (0, v12), (0, v13)]) (st' := []) (by decide +kernel) rfl ?_
                    exact IHL3 ((100 - (kL3 + 1))).toNat (by omega) (kL3 + 1) (0, v12) (0, v13) h73 rfl (by rw [show (kL3 + 1).toNat = (kL3).toNat + 1 by omega]; exact K147) (by omega) (by omega) (by omega) (Zh73) Ih73 Rh73
                  · refine zwW_p [(1, 0, 2)] (q := 111) (ls' := [(2, 37), (0, a), (0, kL3), (0, v12), (0, v13)]) (st' := [(2, 37)]) (by decide +kernel) rfl ?_
                    refine zwW_gc Ih73 (kd := 13) (bn := 66) (n := 97) (c := 177) (nx := 114) (by decide +kernel) ?_
                    refine zwW_p [(1, 4, 0), (1, 0, 2)] (q := 117) (ls' := [(2, 37), (0, a), (0, kL3), (0, v12), (0, v13)]) (st' := [(2, 37), (0, v13), (2, 177)]) (by decide +kernel) rfl ?_
                    refine zwW_gc Ih73 (kd := 13) (bn := 66) (n := 97) (c := 177) (nx := 120) (by decide +kernel) ?_
                    refine zwW_p [(1, 4, 0)] (q := 122) (ls' := [(2, 37), (0, a), (0, kL3), (0, v12), (0, v13)]) (st' := [(0, v13), (2, 177), (0, v13), (2, 177)]) (by decide +kernel) rfl ?_
                    have ib10 : 0 ≤ v13 ∧ v13 < ((8 : Nat) : Int) := (by first | omega | exact ⟨by omega, by omega⟩)
                    refine zwW_al Ih73 (a1 := 177) (a2 := 177) (kd := 20) (n := 8) (t := 0) (lo := -2147483648) (hi := 2147483647) (nx := 123) (by decide +kernel) (by first | decide | exact ⟨by decide, by decide⟩) ib10 ?_
                    intro v87 ev87 lv87 uv87
                    have P123 : v87 = yOv hL3 66 (v13).toNat := by first | exact ev87 | (exfalso; omega)
                    have KC := (BL.2.1 (v13).toNat (by rw [yOv_na (a := 37) (by decide) (by decide) (by decide), Z25]; show _ < fld h 37 1; omega)).1
                    refine zwW_p [(0, 5, 0)] (q := 124) (ls' := [(2, 37), (0, a), (0, kL3), (0, v12), (0, v13)]) (st' := [(0, 5), (0, v87), (0, v13), (2, 177)]) (by decide +kernel) rfl ?_
                    refine zwW_add (nx := 125) (by decide +kernel) (by first | omega | exact ⟨by omega, by omega⟩) ?_
                    refine zwW_p [(0, 9999, 0)] (q := 128) (ls' := [(2, 37), (0, a), (0, kL3), (0, v12), (0, v13)]) (st' := [(0, 9999), (0, (v87 + 5)), (0, v13), (2, 177)]) (by decide +kernel) rfl ?_
                    refine zwic_le (q := 137) (nx := 131) (by decide +kernel) (fun c88 => ?_) (fun c88 => ?_)
                    · refine zwW_p [(1, 0, 2)] (q := 138) (ls' := [(2, 37), (0, a), (0, kL3), (0, v12), (0, v13)]) (st' := [(2, 37), (0, v13), (2, 177)]) (by decide +kernel) rfl ?_
                      refine zwW_gc Ih73 (kd := 13) (bn := 66) (n := 97) (c := 177) (nx := 141) (by decide +kernel) ?_
                      refine zwW_p [(1, 4, 0)] (q := 143) (ls' := [(2, 37), (0, a), (0, kL3), (0, v12), (0, v13)]) (st' := [(0, v13), (2, 177), (0, v13), (2, 177)]) (by decide +kernel) rfl ?_
                      refine zwW_al Ih73 (a1 := 177) (a2 := 177) (kd := 20) (n := 8) (t := 0) (lo := -2147483648) (hi := 2147483647) (nx := 144) (by decide +kernel) (by first | decide | exact ⟨by decide, by decide⟩) ib10 ?_
                      intro v89 ev89 lv89 uv89
                      have P144 : v89 = yOv hL3 66 (v13).toNat := by first | exact ev89 | (exfalso; omega)
                      refine zwW_p [(0, 5, 0)] (q := 145) (ls' := [(2, 37), (0, a), (0, kL3), (0, v12), (0, v13)]) (st' := [(0, 5), (0, v89), (0, v13), (2, 177)]) (by decide +kernel) rfl ?_
                      refine zwW_add (nx := 146) (by decide +kernel) (by first | omega | exact ⟨by omega, by omega⟩) ?_
                      refine zwW_as Ih73 (a1 := 177) (a2 := 177) (n := 8) (lo := -2147483648) (hi := 2147483647) (nx := 147) (by decide +kernel) (by first | decide | exact ⟨by decide, by decide⟩) ib10 (by first | omega | exact ⟨by omega, by omega⟩) ?_
                      intro h90 eh90 Ih90
                      have jbh90 : 0 ≤ v13.toNat ∧ v13.toNat < 8 := ⟨Nat.zero_le _, zit ib10⟩
                      have th90_37_0 : fld h90 37 0 = fld h73 37 0 := by rw [eh90]; exact fld_wr (Or.inl (by decide))
                      have th90_37_1 : fld h90 37 1 = fld h73 37 1 := by rw [eh90]; exact fld_wr (Or.inl (by decide))
                      have th90_37_2 : fld h90 37 2 = fld h73 37 2 := by rw [eh90]; exact fld_wr (Or.inl (by decide))
                      have th90_37_96 : fld h90 37 96 = fld h73 37 96 := by rw [eh90]; exact fld_wr (Or.inl (by decide))
                      have E146 := eh90
                      have S146 := (Ih73.s (r := 177) (a1 := 177) (a2 := 177) (k := 20) (n := 8) (by decide +kernel) (by decide) (by decide))
                      have V146 : (v89 + 5) = min (yOv h73 66 (v13).toNat + 5) 9999 := by
                        have q : yOv h73 66 (v13).toNat = v89 := ev89.symm
                        omega
                      have Zh90 : yM h90 = (yM h) := (yM_fr (ms := [(177, 177, 0, 8)]) (zMR.one (a1 := 177) (a2 := 177) (j1 := 0) (j2 := 8) (by first | decide | exact ⟨by decide, by decide⟩) jbh90 eh90) (by decide +kernel) (Ih73.b (a1 := 37) (a2 := 37) (j1 := 86) (j2 := 87) (lo := 0) (hi := 6) (by decide +kernel) (r := 37) (j := 86) (by decide) (by decide) (by decide) (by decide)).2).trans Zh73
                      have Rh90 : zMR ms164 h h90 := Rh73.w (a1 := 177) (a2 := 177) (j1 := 0) (j2 := 8) (by decide +kernel) (by first | decide | exact ⟨by decide, by decide⟩) jbh90 eh90
                      have K147 : yOv h90 = yGN (yOv h2) a ((kL3).toNat + 1) := by
                        rw [yGN_s, show (((kL3).toNat : Nat) : Int) = kL3 by omega]
                        first
                        | (rw [if_pos (by unfold yBt; omega)]; exact iL3_0)
                        | (rw [if_neg (by unfold yBt; omega)]; unfold yG1 yGv; rw [yGN_na (a := 364) (by decide) (by decide) (by decide), yGN_na (a := 365) (by decide) (by decide) (by decide), yGN_na (a := 79) (by decide) (by decide) (by decide), yOv_na (a := 364) (by decide) (by decide) (by decide), yOv_na (a := 365) (by decide) (by decide) (by decide), yOv_na (a := 79) (by decide) (by decide) (by decide), Z4, ← sv12, ← T38, ← sv14]; first | (rw [if_pos (show v14 = 0 by omega), ← iL3_0, ← V68]; exact yOv_w178 Zh90 Z25 E68 S68 (by omega)) | (rw [if_pos (show v14 = 0 by omega), ← iL3_0, show min (yOv hL3 80 (v12).toNat + 1) 5 = yOv hL3 80 (v12).toNat from (by have q : yOv hL3 80 (v12).toNat = v72 := ev72.symm; omega), zs_same]; done) | (rw [if_neg (show ¬ v14 = 0 by omega), if_pos (show v14 = 1 by omega), ← iL3_0, ← V99]; exact yOv_w179 Zh90 Z25 E99 S99 (by omega)) | (rw [if_neg (show ¬ v14 = 0 by omega), if_pos (show v14 = 1 by omega), ← iL3_0, show min (yOv hL3 81 (v12).toNat + 1) 9 = yOv hL3 81 (v12).toNat from (by have q : yOv hL3 81 (v12).toNat = v83 := ev83.symm; omega), zs_same]; done) | (rw [if_neg (show ¬ v14 = 0 by omega), if_neg (show ¬ v14 = 1 by omega), ← iL3_0, ← V146]; exact yOv_w177 Zh90 Z25 E146 S146 (by omega)))
                        | (exfalso; omega)
                      refine zwW_inc (i := 2) (c := 1) (x := kL3) (nx := 150) (by decide +kernel) rfl (by first | omega | exact ⟨by omega, by omega⟩) (ls' := [(2, 37), (0, a), (0, (kL3 + 1)), (0, v12), (0, v13)]) rfl ?_
                      refine zwW_p [(24, 6, 0)] (q := 6) (ls' := [(2, 37), (0, a), (0, (kL3 + 1)), (0, v12), (0, v13)]) (st' := []) (by decide +kernel) rfl ?_
                      exact IHL3 ((100 - (kL3 + 1))).toNat (by omega) (kL3 + 1) (0, v12) (0, v13) h90 rfl (by rw [show (kL3 + 1).toNat = (kL3).toNat + 1 by omega]; exact K147) (by omega) (by omega) (by omega) (Zh90) Ih90 Rh90
                    · refine zwW_p [(0, 9999, 0), (24, 146, 0)] (q := 146) (ls' := [(2, 37), (0, a), (0, kL3), (0, v12), (0, v13)]) (st' := [(0, 9999), (0, v13), (2, 177)]) (by decide +kernel) rfl ?_
                      refine zwW_as Ih73 (a1 := 177) (a2 := 177) (n := 8) (lo := -2147483648) (hi := 2147483647) (nx := 147) (by decide +kernel) (by first | decide | exact ⟨by decide, by decide⟩) ib10 (by first | decide | exact ⟨by decide, by decide⟩) ?_
                      intro h91 eh91 Ih91
                      have jbh91 : 0 ≤ v13.toNat ∧ v13.toNat < 8 := ⟨Nat.zero_le _, zit ib10⟩
                      have th91_37_0 : fld h91 37 0 = fld h73 37 0 := by rw [eh91]; exact fld_wr (Or.inl (by decide))
                      have th91_37_1 : fld h91 37 1 = fld h73 37 1 := by rw [eh91]; exact fld_wr (Or.inl (by decide))
                      have th91_37_2 : fld h91 37 2 = fld h73 37 2 := by rw [eh91]; exact fld_wr (Or.inl (by decide))
                      have th91_37_96 : fld h91 37 96 = fld h73 37 96 := by rw [eh91]; exact fld_wr (Or.inl (by decide))
                      have E146 := eh91
                      have S146 := (Ih73.s (r := 177) (a1 := 177) (a2 := 177) (k := 20) (n := 8) (by decide +kernel) (by decide) (by decide))
                      have V146 : 9999 = min (yOv h73 66 (v13).toNat + 5) 9999 := by
                        have q : yOv h73 66 (v13).toNat = v87 := ev87.symm
                        omega
                      have Zh91 : yM h91 = (yM h) := (yM_fr (ms := [(177, 177, 0, 8)]) (zMR.one (a1 := 177) (a2 := 177) (j1 := 0) (j2 := 8) (by first | decide | exact ⟨by decide, by decide⟩) jbh91 eh91) (by decide +kernel) (Ih73.b (a1 := 37) (a2 := 37) (j1 := 86) (j2 := 87) (lo := 0) (hi := 6) (by decide +kernel) (r := 37) (j := 86) (by decide) (by decide) (by decide) (by decide)).2).trans Zh73
                      have Rh91 : zMR ms164 h h91 := Rh73.w (a1 := 177) (a2 := 177) (j1 := 0) (j2 := 8) (by decide +kernel) (by first | decide | exact ⟨by decide, by decide⟩) jbh91 eh91
                      have K147 : yOv h91 = yGN (yOv h2) a ((kL3).toNat + 1) := by
                        rw [yGN_s, show (((kL3).toNat : Nat) : Int) = kL3 by omega]
                        first
                        | (rw [if_pos (by unfold yBt; omega)]; exact iL3_0)
                        | (rw [if_neg (by unfold yBt; omega)]; unfold yG1 yGv; rw [yGN_na (a := 364) (by decide) (by decide) (by decide), yGN_na (a := 365) (by decide) (by decide) (by decide), yGN_na (a := 79) (by decide) (by decide) (by decide), yOv_na (a := 364) (by decide) (by decide) (by decide), yOv_na (a := 365) (by decide) (by decide) (by decide), yOv_na (a := 79) (by decide) (by decide) (by decide), Z4, ← sv12, ← T38, ← sv14]; first | (rw [if_pos (show v14 = 0 by omega), ← iL3_0, ← V68]; exact yOv_w178 Zh91 Z25 E68 S68 (by omega)) | (rw [if_pos (show v14 = 0 by omega), ← iL3_0, show min (yOv hL3 80 (v12).toNat + 1) 5 = yOv hL3 80 (v12).toNat from (by have q : yOv hL3 80 (v12).toNat = v72 := ev72.symm; omega), zs_same]; done) | (rw [if_neg (show ¬ v14 = 0 by omega), if_pos (show v14 = 1 by omega), ← iL3_0, ← V99]; exact yOv_w179 Zh91 Z25 E99 S99 (by omega)) | (rw [if_neg (show ¬ v14 = 0 by omega), if_pos (show v14 = 1 by omega), ← iL3_0, show min (yOv hL3 81 (v12).toNat + 1) 9 = yOv hL3 81 (v12).toNat from (by have q : yOv hL3 81 (v12).toNat = v83 := ev83.symm; omega), zs_same]; done) | (rw [if_neg (show ¬ v14 = 0 by omega), if_neg (show ¬ v14 = 1 by omega), ← iL3_0, ← V146]; exact yOv_w177 Zh91 Z25 E146 S146 (by omega)))
                        | (exfalso; omega)
                      refine zwW_inc (i := 2) (c := 1) (x := kL3) (nx := 150) (by decide +kernel) rfl (by first | omega | exact ⟨by omega, by omega⟩) (ls' := [(2, 37), (0, a), (0, (kL3 + 1)), (0, v12), (0, v13)]) rfl ?_
                      refine zwW_p [(24, 6, 0)] (q := 6) (ls' := [(2, 37), (0, a), (0, (kL3 + 1)), (0, v12), (0, v13)]) (st' := []) (by decide +kernel) rfl ?_
                      exact IHL3 ((100 - (kL3 + 1))).toNat (by omega) (kL3 + 1) (0, v12) (0, v13) h91 rfl (by rw [show (kL3 + 1).toNat = (kL3).toNat + 1 by omega]; exact K147) (by omega) (by omega) (by omega) (Zh91) Ih91 Rh91
                · refine zwW_p [(1, 0, 2)] (q := 91) (ls' := [(2, 37), (0, a), (0, kL3), (0, v12), (0, v13)]) (st' := [(2, 37)]) (by decide +kernel) rfl ?_
                  refine zwW_gc Ih73 (kd := 13) (bn := 68) (n := 97) (c := 179) (nx := 94) (by decide +kernel) ?_
                  refine zwW_p [(1, 3, 0), (14, 0, 0)] (q := 96) (ls' := [(2, 37), (0, a), (0, kL3), (0, v12), (0, v13)]) (st' := [(0, v12), (2, 179), (0, v12), (2, 179)]) (by decide +kernel) rfl ?_
                  refine zwW_al Ih73 (a1 := 179) (a2 := 179) (kd := 20) (n := 20) (t := 0) (lo := 0) (hi := 9) (nx := 97) (by decide +kernel) (by first | decide | exact ⟨by decide, by decide⟩) ib2 ?_
                  intro v92 ev92 lv92 uv92
                  refine zwW_p [(0, 1, 0)] (q := 98) (ls' := [(2, 37), (0, a), (0, kL3), (0, v12), (0, v13)]) (st' := [(0, 1), (0, v92), (0, v12), (2, 179)]) (by decide +kernel) rfl ?_
                  refine zwW_add (nx := 99) (by decide +kernel) (by first | omega | exact ⟨by omega, by omega⟩) ?_
                  refine zwW_as Ih73 (a1 := 179) (a2 := 179) (n := 20) (lo := 0) (hi := 9) (nx := 100) (by decide +kernel) (by first | decide | exact ⟨by decide, by decide⟩) ib2 (by first | omega | exact ⟨by omega, by omega⟩) ?_
                  intro h93 eh93 Ih93
                  have jbh93 : 0 ≤ v12.toNat ∧ v12.toNat < 20 := ⟨Nat.zero_le _, zit ib2⟩
                  have th93_37_0 : fld h93 37 0 = fld h73 37 0 := by rw [eh93]; exact fld_wr (Or.inl (by decide))
                  have th93_37_1 : fld h93 37 1 = fld h73 37 1 := by rw [eh93]; exact fld_wr (Or.inl (by decide))
                  have th93_37_2 : fld h93 37 2 = fld h73 37 2 := by rw [eh93]; exact fld_wr (Or.inl (by decide))
                  have th93_37_96 : fld h93 37 96 = fld h73 37 96 := by rw [eh93]; exact fld_wr (Or.inl (by decide))
                  have E99 := eh93
                  have S99 := (Ih73.s (r := 179) (a1 := 179) (a2 := 179) (k := 20) (n := 20) (by decide +kernel) (by decide) (by decide))
                  have V99 : (v92 + 1) = min (yOv h73 81 (v12).toNat + 1) 9 := by
                    have q : yOv h73 81 (v12).toNat = v92 := ev92.symm
                    omega
                  have Zh93 : yM h93 = (yM h) := (yM_fr (ms := [(179, 179, 0, 20)]) (zMR.one (a1 := 179) (a2 := 179) (j1 := 0) (j2 := 20) (by first | decide | exact ⟨by decide, by decide⟩) jbh93 eh93) (by decide +kernel) (Ih73.b (a1 := 37) (a2 := 37) (j1 := 86) (j2 := 87) (lo := 0) (hi := 6) (by decide +kernel) (r := 37) (j := 86) (by decide) (by decide) (by decide) (by decide)).2).trans Zh73
                  have Rh93 : zMR ms164 h h93 := Rh73.w (a1 := 179) (a2 := 179) (j1 := 0) (j2 := 20) (by decide +kernel) (by first | decide | exact ⟨by decide, by decide⟩) jbh93 eh93
                  refine zwW_p [(1, 0, 2)] (q := 101) (ls' := [(2, 37), (0, a), (0, kL3), (0, v12), (0, v13)]) (st' := [(2, 37)]) (by decide +kernel) rfl ?_
                  refine zwW_gc Ih93 (kd := 13) (bn := 95) (n := 97) (c := 365) (nx := 104) (by decide +kernel) ?_
                  refine zwW_p [(1, 2, 0)] (q := 105) (ls' := [(2, 37), (0, a), (0, kL3), (0, v12), (0, v13)]) (st' := [(0, kL3), (2, 365)]) (by decide +kernel) rfl ?_
                  refine zwW_al Ih93 (a1 := 365) (a2 := 365) (kd := 20) (n := 8) (t := 0) (lo := 0) (hi := 2) (nx := 106) (by decide +kernel) (by first | decide | exact ⟨by decide, by decide⟩) ib1 ?_
                  intro v94 ev94 lv94 uv94
                  have sv94 : v94 = (yM h) 365 kL3.toNat := Eq.trans ev94 (Eq.trans (Eq.symm (yM_p (h := h93) (a := 365) (n := 8) (i := kL3.toNat) rfl (zit ib1))) (Eq.trans (congrFun (congrFun Zh93 365) kL3.toNat) rfl))
                  refine zwW_p [(0, 2, 0)] (q := 107) (ls' := [(2, 37), (0, a), (0, kL3), (0, v12), (0, v13)]) (st' := [(0, 2), (0, v94)]) (by decide +kernel) rfl ?_
                  refine zwic_ne (q := 147) (nx := 110) (by decide +kernel) (fun c95 => ?_) (fun c95 => ?_)
                  · have K147 : yOv h93 = yGN (yOv h2) a ((kL3).toNat + 1) := by
                      rw [yGN_s, show (((kL3).toNat : Nat) : Int) = kL3 by omega]
                      first
                      | (rw [if_pos (by unfold yBt; omega)]; exact iL3_0)
                      | (rw [if_neg (by unfold yBt; omega)]; unfold yG1 yGv; rw [yGN_na (a := 364) (by decide) (by decide) (by decide), yGN_na (a := 365) (by decide) (by decide) (by decide), yGN_na (a := 79) (by decide) (by decide) (by decide), yOv_na (a := 364) (by decide) (by decide) (by decide), yOv_na (a := 365) (by decide) (by decide) (by decide), yOv_na (a := 79) (by decide) (by decide) (by decide), Z4, ← sv12, ← T38, ← sv14]; first | (rw [if_pos (show v14 = 0 by omega), ← iL3_0, ← V68]; exact yOv_w178 Zh93 Z25 E68 S68 (by omega)) | (rw [if_pos (show v14 = 0 by omega), ← iL3_0, show min (yOv hL3 80 (v12).toNat + 1) 5 = yOv hL3 80 (v12).toNat from (by have q : yOv hL3 80 (v12).toNat = v72 := ev72.symm; omega), zs_same]; done) | (rw [if_neg (show ¬ v14 = 0 by omega), if_pos (show v14 = 1 by omega), ← iL3_0, ← V99]; exact yOv_w179 Zh93 Z25 E99 S99 (by omega)) | (rw [if_neg (show ¬ v14 = 0 by omega), if_pos (show v14 = 1 by omega), ← iL3_0, show min (yOv hL3 81 (v12).toNat + 1) 9 = yOv hL3 81 (v12).toNat from (by have q : yOv hL3 81 (v12).toNat = v92 := ev92.symm; omega), zs_same]; done) | (rw [if_neg (show ¬ v14 = 0 by omega), if_neg (show ¬ v14 = 1 by omega), ← iL3_0, ← V146]; exact yOv_w177 Zh93 Z25 E146 S146 (by omega)))
                      | (exfalso; omega)
                    refine zwW_inc (i := 2) (c := 1) (x := kL3) (nx := 150) (by decide +kernel) rfl (by first | omega | exact ⟨by omega, by omega⟩) (ls' := [(2, 37), (0, a), (0, (kL3 + 1)), (0, v12), (0, v13)]) rfl ?_
                    refine zwW_p [(24, 6, 0)] (q := 6) (ls' := [(2, 37), (0, a), (0, (kL3 + 1)), (0, v12), (0, v13)]) (st' := []) (by decide +kernel) rfl ?_
                    exact IHL3 ((100 - (kL3 + 1))).toNat (by omega) (kL3 + 1) (0, v12) (0, v13) h93 rfl (by rw [show (kL3 + 1).toNat = (kL3).toNat + 1 by omega]; exact K147) (by omega) (by omega) (by omega) (Zh93) Ih93 Rh93
                  · refine zwW_p [(1, 0, 2)] (q := 111) (ls' := [(2, 37), (0, a), (0, kL3), (0, v12), (0, v13)]) (st' := [(2, 37)]) (by decide +kernel) rfl ?_
                    refine zwW_gc Ih93 (kd := 13) (bn := 66) (n := 97) (c := 177) (nx := 114) (by decide +kernel) ?_
                    refine zwW_p [(1, 4, 0), (1, 0, 2)] (q := 117) (ls' := [(2, 37), (0, a), (0, kL3), (0, v12), (0, v13)]) (st' := [(2, 37), (0, v13), (2, 177)]) (by decide +kernel) rfl ?_
                    refine zwW_gc Ih93 (kd := 13) (bn := 66) (n := 97) (c := 177) (nx := 120) (by decide +kernel) ?_
                    refine zwW_p [(1, 4, 0)] (q := 122) (ls' := [(2, 37), (0, a), (0, kL3), (0, v12), (0, v13)]) (st' := [(0, v13), (2, 177), (0, v13), (2, 177)]) (by decide +kernel) rfl ?_
                    have ib11 : 0 ≤ v13 ∧ v13 < ((8 : Nat) : Int) := (by first | omega | exact ⟨by omega, by omega⟩)
                    refine zwW_al Ih93 (a1 := 177) (a2 := 177) (kd := 20) (n := 8) (t := 0) (lo := -2147483648) (hi := 2147483647) (nx := 123) (by decide +kernel) (by first | decide | exact ⟨by decide, by decide⟩) ib11 ?_
                    intro v96 ev96 lv96 uv96
                    have P123 : v96 = yOv hL3 66 (v13).toNat := by first | exact ev96 | (exfalso; omega)
                    have KC := (BL.2.1 (v13).toNat (by rw [yOv_na (a := 37) (by decide) (by decide) (by decide), Z25]; show _ < fld h 37 1; omega)).1
                    refine zwW_p [(0, 5, 0)] (q := 124) (ls' := [(2, 37), (0, a), (0, kL3), (0, v12), (0, v13)]) (st' := [(0, 5), (0, v96), (0, v13), (2, 177)]) (by decide +kernel) rfl ?_
                    refine zwW_add (nx := 125) (by decide +kernel) (by first | omega | exact ⟨by omega, by omega⟩) ?_
                    refine zwW_p [(0, 9999, 0)] (q := 128) (ls' := [(2, 37), (0, a), (0, kL3), (0, v12), (0, v13)]) (st' := [(0, 9999), (0, (v96 + 5)), (0, v13), (2, 177)]) (by decide +kernel) rfl ?_
                    refine zwic_le (q := 137) (nx := 131) (by decide +kernel) (fun c97 => ?_) (fun c97 => ?_)
                    · refine zwW_p [(1, 0, 2)] (q := 138) (ls' := [(2, 37), (0, a), (0, kL3), (0, v12), (0, v13)]) (st' := [(2, 37), (0, v13), (2, 177)]) (by decide +kernel) rfl ?_
                      refine zwW_gc Ih93 (kd := 13) (bn := 66) (n := 97) (c := 177) (nx := 141) (by decide +kernel) ?_
                      refine zwW_p [(1, 4, 0)] (q := 143) (ls' := [(2, 37), (0, a), (0, kL3), (0, v12), (0, v13)]) (st' := [(0, v13), (2, 177), (0, v13), (2, 177)]) (by decide +kernel) rfl ?_
                      refine zwW_al Ih93 (a1 := 177) (a2 := 177) (kd := 20) (n := 8) (t := 0) (lo := -2147483648) (hi := 2147483647) (nx := 144) (by decide +kernel) (by first | decide | exact ⟨by decide, by decide⟩) ib11 ?_
                      intro v98 ev98 lv98 uv98
                      have P144 : v98 = yOv hL3 66 (v13).toNat := by first | exact ev98 | (exfalso; omega)
                      refine zwW_p [(0, 5, 0)] (q := 145) (ls' := [(2, 37), (0, a), (0, kL3), (0, v12), (0, v13)]) (st' := [(0, 5), (0, v98), (0, v13), (2, 177)]) (by decide +kernel) rfl ?_
                      refine zwW_add (nx := 146) (by decide +kernel) (by first | omega | exact ⟨by omega, by omega⟩) ?_
                      refine zwW_as Ih93 (a1 := 177) (a2 := 177) (n := 8) (lo := -2147483648) (hi := 2147483647) (nx := 147) (by decide +kernel) (by first | decide | exact ⟨by decide, by decide⟩) ib11 (by first | omega | exact ⟨by omega, by omega⟩) ?_
                      intro h99 eh99 Ih99
                      have jbh99 : 0 ≤ v13.toNat ∧ v13.toNat < 8 := ⟨Nat.zero_le _, zit ib11⟩
                      have th99_37_0 : fld h99 37 0 = fld h93 37 0 := by rw [eh99]; exact fld_wr (Or.inl (by decide))
                      have th99_37_1 : fld h99 37 1 = fld h93 37 1 := by rw [eh99]; exact fld_wr (Or.inl (by decide))
                      have th99_37_2 : fld h99 37 2 = fld h93 37 2 := by rw [eh99]; exact fld_wr (Or.inl (by decide))
                      have th99_37_96 : fld h99 37 96 = fld h93 37 96 := by rw [eh99]; exact fld_wr (Or.inl (by decide))
                      have E146 := eh99
                      have S146 := (Ih93.s (r := 177) (a1 := 177) (a2 := 177) (k := 20) (n := 8) (by decide +kernel) (by decide) (by decide))
                      have V146 : (v98 + 5) = min (yOv h93 66 (v13).toNat + 5) 9999 := by
                        have q : yOv h93 66 (v13).toNat = v98 := ev98.symm
                        omega
                      have Zh99 : yM h99 = (yM h) := (yM_fr (ms := [(177, 177, 0, 8)]) (zMR.one (a1 := 177) (a2 := 177) (j1 := 0) (j2 := 8) (by first | decide | exact ⟨by decide, by decide⟩) jbh99 eh99) (by decide +kernel) (Ih93.b (a1 := 37) (a2 := 37) (j1 := 86) (j2 := 87) (lo := 0) (hi := 6) (by decide +kernel) (r := 37) (j := 86) (by decide) (by decide) (by decide) (by decide)).2).trans Zh93
                      have Rh99 : zMR ms164 h h99 := Rh93.w (a1 := 177) (a2 := 177) (j1 := 0) (j2 := 8) (by decide +kernel) (by first | decide | exact ⟨by decide, by decide⟩) jbh99 eh99
                      have K147 : yOv h99 = yGN (yOv h2) a ((kL3).toNat + 1) := by
                        rw [yGN_s, show (((kL3).toNat : Nat) : Int) = kL3 by omega]
                        first
                        | (rw [if_pos (by unfold yBt; omega)]; exact iL3_0)
                        | (rw [if_neg (by unfold yBt; omega)]; unfold yG1 yGv; rw [yGN_na (a := 364) (by decide) (by decide) (by decide), yGN_na (a := 365) (by decide) (by decide) (by decide), yGN_na (a := 79) (by decide) (by decide) (by decide), yOv_na (a := 364) (by decide) (by decide) (by decide), yOv_na (a := 365) (by decide) (by decide) (by decide), yOv_na (a := 79) (by decide) (by decide) (by decide), Z4, ← sv12, ← T38, ← sv14]; first | (rw [if_pos (show v14 = 0 by omega), ← iL3_0, ← V68]; exact yOv_w178 Zh99 Z25 E68 S68 (by omega)) | (rw [if_pos (show v14 = 0 by omega), ← iL3_0, show min (yOv hL3 80 (v12).toNat + 1) 5 = yOv hL3 80 (v12).toNat from (by have q : yOv hL3 80 (v12).toNat = v72 := ev72.symm; omega), zs_same]; done) | (rw [if_neg (show ¬ v14 = 0 by omega), if_pos (show v14 = 1 by omega), ← iL3_0, ← V99]; exact yOv_w179 Zh99 Z25 E99 S99 (by omega)) | (rw [if_neg (show ¬ v14 = 0 by omega), if_pos (show v14 = 1 by omega), ← iL3_0, show min (yOv hL3 81 (v12).toNat + 1) 9 = yOv hL3 81 (v12).toNat from (by have q : yOv hL3 81 (v12).toNat = v92 := ev92.symm; omega), zs_same]; done) | (rw [if_neg (show ¬ v14 = 0 by omega), if_neg (show ¬ v14 = 1 by omega), ← iL3_0, ← V146]; exact yOv_w177 Zh99 Z25 E146 S146 (by omega)))
                        | (exfalso; omega)
                      refine zwW_inc (i := 2) (c := 1) (x := kL3) (nx := 150) (by decide +kernel) rfl (by first | omega | exact ⟨by omega, by omega⟩) (ls' := [(2, 37), (0, a), (0, (kL3 + 1)), (0, v12), (0, v13)]) rfl ?_
                      refine zwW_p [(24, 6, 0)] (q := 6) (ls' := [(2, 37), (0, a), (0, (kL3 + 1)), (0, v12), (0, v13)]) (st' := []) (by decide +kernel) rfl ?_
                      exact IHL3 ((100 - (kL3 + 1))).toNat (by omega) (kL3 + 1) (0, v12) (0, v13) h99 rfl (by rw [show (kL3 + 1).toNat = (kL3).toNat + 1 by omega]; exact K147) (by omega) (by omega) (by omega) (Zh99) Ih99 Rh99
                    · refine zwW_p [(0, 9999, 0), (24, 146, 0)] (q := 146) (ls' := [(2, 37), (0, a), (0, kL3), (0, v12), (0, v13)]) (st' := [(0, 9999), (0, v13), (2, 177)]) (by decide +kernel) rfl ?_
                      refine zwW_as Ih93 (a1 := 177) (a2 := 177) (n := 8) (lo := -2147483648) (hi := 2147483647) (nx := 147) (by decide +kernel) (by first | decide | exact ⟨by decide, by decide⟩) ib11 (by first | decide | exact ⟨by decide, by decide⟩) ?_
                      intro h100 eh100 Ih100
                      have jbh100 : 0 ≤ v13.toNat ∧ v13.toNat < 8 := ⟨Nat.zero_le _, zit ib11⟩
                      have th100_37_0 : fld h100 37 0 = fld h93 37 0 := by rw [eh100]; exact fld_wr (Or.inl (by decide))
                      have th100_37_1 : fld h100 37 1 = fld h93 37 1 := by rw [eh100]; exact fld_wr (Or.inl (by decide))
                      have th100_37_2 : fld h100 37 2 = fld h93 37 2 := by rw [eh100]; exact fld_wr (Or.inl (by decide))
                      have th100_37_96 : fld h100 37 96 = fld h93 37 96 := by rw [eh100]; exact fld_wr (Or.inl (by decide))
                      have E146 := eh100
                      have S146 := (Ih93.s (r := 177) (a1 := 177) (a2 := 177) (k := 20) (n := 8) (by decide +kernel) (by decide) (by decide))
                      have V146 : 9999 = min (yOv h93 66 (v13).toNat + 5) 9999 := by
                        have q : yOv h93 66 (v13).toNat = v96 := ev96.symm
                        omega
                      have Zh100 : yM h100 = (yM h) := (yM_fr (ms := [(177, 177, 0, 8)]) (zMR.one (a1 := 177) (a2 := 177) (j1 := 0) (j2 := 8) (by first | decide | exact ⟨by decide, by decide⟩) jbh100 eh100) (by decide +kernel) (Ih93.b (a1 := 37) (a2 := 37) (j1 := 86) (j2 := 87) (lo := 0) (hi := 6) (by decide +kernel) (r := 37) (j := 86) (by decide) (by decide) (by decide) (by decide)).2).trans Zh93
                      have Rh100 : zMR ms164 h h100 := Rh93.w (a1 := 177) (a2 := 177) (j1 := 0) (j2 := 8) (by decide +kernel) (by first | decide | exact ⟨by decide, by decide⟩) jbh100 eh100
                      have K147 : yOv h100 = yGN (yOv h2) a ((kL3).toNat + 1) := by
                        rw [yGN_s, show (((kL3).toNat : Nat) : Int) = kL3 by omega]
                        first
                        | (rw [if_pos (by unfold yBt; omega)]; exact iL3_0)
                        | (rw [if_neg (by unfold yBt; omega)]; unfold yG1 yGv; rw [yGN_na (a := 364) (by decide) (by decide) (by decide), yGN_na (a := 365) (by decide) (by decide) (by decide), yGN_na (a := 79) (by decide) (by decide) (by decide), yOv_na (a := 364) (by decide) (by decide) (by decide), yOv_na (a := 365) (by decide) (by decide) (by decide), yOv_na (a := 79) (by decide) (by decide) (by decide), Z4, ← sv12, ← T38, ← sv14]; first | (rw [if_pos (show v14 = 0 by omega), ← iL3_0, ← V68]; exact yOv_w178 Zh100 Z25 E68 S68 (by omega)) | (rw [if_pos (show v14 = 0 by omega), ← iL3_0, show min (yOv hL3 80 (v12).toNat + 1) 5 = yOv hL3 80 (v12).toNat from (by have q : yOv hL3 80 (v12).toNat = v72 := ev72.symm; omega), zs_same]; done) | (rw [if_neg (show ¬ v14 = 0 by omega), if_pos (show v14 = 1 by omega), ← iL3_0, ← V99]; exact yOv_w179 Zh100 Z25 E99 S99 (by omega)) | (rw [if_neg (show ¬ v14 = 0 by omega), if_pos (show v14 = 1 by omega), ← iL3_0, show min (yOv hL3 81 (v12).toNat + 1) 9 = yOv hL3 81 (v12).toNat from (by have q : yOv hL3 81 (v12).toNat = v92 := ev92.symm; omega), zs_same]; done) | (rw [if_neg (show ¬ v14 = 0 by omega), if_neg (show ¬ v14 = 1 by omega), ← iL3_0, ← V146]; exact yOv_w177 Zh100 Z25 E146 S146 (by omega)))
                        | (exfalso; omega)
                      refine zwW_inc (i := 2) (c := 1) (x := kL3) (nx := 150) (by decide +kernel) rfl (by first | omega | exact ⟨by omega, by omega⟩) (ls' := [(2, 37), (0, a), (0, (kL3 + 1)), (0, v12), (0, v13)]) rfl ?_
                      refine zwW_p [(24, 6, 0)] (q := 6) (ls' := [(2, 37), (0, a), (0, (kL3 + 1)), (0, v12), (0, v13)]) (st' := []) (by decide +kernel) rfl ?_
                      exact IHL3 ((100 - (kL3 + 1))).toNat (by omega) (kL3 + 1) (0, v12) (0, v13) h100 rfl (by rw [show (kL3 + 1).toNat = (kL3).toNat + 1 by omega]; exact K147) (by omega) (by omega) (by omega) (Zh100) Ih100 Rh100
        · refine zwW_p [(24, 147, 0)] (q := 147) (ls' := [(2, 37), (0, a), (0, kL3), w3L3, w4L3]) (st' := []) (by decide +kernel) rfl ?_
          have K147 : yOv hL3 = yGN (yOv h2) a ((kL3).toNat + 1) := by
            rw [yGN_s, show (((kL3).toNat : Nat) : Int) = kL3 by omega]
            first
            | (rw [if_pos (by unfold yBt; omega)]; exact iL3_0)
            | (rw [if_neg (by unfold yBt; omega)]; unfold yG1 yGv; rw [yGN_na (a := 364) (by decide) (by decide) (by decide), yGN_na (a := 365) (by decide) (by decide) (by decide), yGN_na (a := 79) (by decide) (by decide) (by decide), yOv_na (a := 364) (by decide) (by decide) (by decide), yOv_na (a := 365) (by decide) (by decide) (by decide), yOv_na (a := 79) (by decide) (by decide) (by decide), Z4, ← sa, ← T38, ← sa]; first | (rw [if_pos (show a = 0 by omega), ← iL3_0, ← V68]; exact yOv_w178 iL3_4 Z25 E68 S68 (by omega)) | (rw [if_pos (show a = 0 by omega), ← iL3_0, show min (yOv hL3 80 (a).toNat + 1) 5 = yOv hL3 80 (a).toNat from (by have q : yOv hL3 80 (a).toNat = a := ea.symm; omega), zs_same]; done) | (rw [if_neg (show ¬ a = 0 by omega), if_pos (show a = 1 by omega), ← iL3_0, ← V99]; exact yOv_w179 iL3_4 Z25 E99 S99 (by omega)) | (rw [if_neg (show ¬ a = 0 by omega), if_pos (show a = 1 by omega), ← iL3_0, show min (yOv hL3 81 (a).toNat + 1) 9 = yOv hL3 81 (a).toNat from (by have q : yOv hL3 81 (a).toNat = a := ea.symm; omega), zs_same]; done) | (rw [if_neg (show ¬ a = 0 by omega), if_neg (show ¬ a = 1 by omega), ← iL3_0, ← V146]; exact yOv_w177 iL3_4 Z25 E146 S146 (by omega)))
            | (exfalso; omega)
          refine zwW_inc (i := 2) (c := 1) (x := kL3) (nx := 150) (by decide +kernel) rfl (by first | omega | exact ⟨by omega, by omega⟩) (ls' := [(2, 37), (0, a), (0, (kL3 + 1)), w3L3, w4L3]) rfl ?_
          refine zwW_p [(24, 6, 0)] (q := 6) (ls' := [(2, 37), (0, a), (0, (kL3 + 1)), w3L3, w4L3]) (st' := []) (by decide +kernel) rfl ?_
          exact IHL3 ((100 - (kL3 + 1))).toNat (by omega) (kL3 + 1) w3L3 w4L3 hL3 rfl (by rw [show (kL3 + 1).toNat = (kL3).toNat + 1 by omega]; exact K147) (by omega) (by omega) (by omega) (iL3_4) IhL3 RhL3
  exact L3 _ 0 (9, 0) (9, 0) h2 rfl (rfl) (by omega) (by omega) (by omega) (Zh2) Ih2 Rh2
-- WheelLandModel.best(II)I
theorem m74_z {sc : List Int} (h : Hp) (I : zI h) (a b : Int) (hA : zAM h) (BZ : zBs (yM h)) (GF : yGf (yM h)) : zwC sc 4 74 [(2, 37), (0, a), (0, b)] h (zwRt 0 (fun x g => zI g ∧ zMR ms74 h g ∧ (-2147483648 ≤ x ∧ x ≤ 2147483647) ∧ (x = yBstA (yM h) a b))) := by
  refine zwC_of (D := 3) 7 (by decide +kernel) rfl (ls := [(2, 37), (0, a), (0, b), (9, 0), (9, 0), (9, 0), (9, 0)]) rfl ?_
  have R : zMR ms74 h h := zMR.rf _ _
  have u0 : yM h 37 0 = fld h 37 0 := rfl
  have u96 : yM h 37 96 = fld h 37 96 := rfl
  have B0 := I.b (a1 := 37) (a2 := 37) (j1 := 2) (j2 := 3) (lo := 0) (hi := 20) (by decide +kernel) (r := 37) (j := 2) (by decide) (by decide) (by decide) (by decide)
  have F96 : 0 ≤ fld h 37 96 ∧ fld h 37 96 ≤ 8 := GF.1
  obtain ⟨SH, eSH⟩ : ∃ z, zEq z (i_shl 1 (yM h 37 96)) := ⟨_, rfl⟩
  have bSH : 1 ≤ SH ∧ SH ≤ 256 := by rw [show SH = _ from eSH]; exact zshl_le GF.1
  refine zwW_p [(1, 1, 0)] (q := 1) (ls' := [(2, 37), (0, a), (0, b), (9, 0), (9, 0), (9, 0), (9, 0)]) (st' := [(0, a)]) (by decide +kernel) rfl ?_
  refine zwif_lt (q := 26) (nx := 4) (by decide +kernel) (fun c1 => ?_) (fun c1 => ?_)
  · refine zwW_p [(0, -1, 0)] (q := 27) (ls' := [(2, 37), (0, a), (0, b), (9, 0), (9, 0), (9, 0), (9, 0)]) (st' := [(0, -1)]) (by decide +kernel) rfl ?_
    refine zwW_ret (nx := 28) (a := 0) (b := 0) (by decide +kernel) rfl (Or.inl rfl) ?_
    exact ⟨I, R, by omega, by unfold yBstA; (try rw [E116]); (repeat' (first | rw [if_neg (by omega)] | rw [if_pos (by omega)])); all_goals (first | exact s-1 | (dsimp only; done) | omega)⟩
  · refine zwW_p [(1, 2, 0), (7, 0, 0), (0, 0, 1), (0, 2, 1)] (q := 10) (ls' := [(2, 37), (0, a), (0, b), (9, 0), (9, 0), (9, 0), (9, 0)]) (st' := [(1, 2), (1, 0), (1, b)]) (by decide +kernel) rfl ?_
    refine zwW_cs (k' := 101) (n := 3) (nx := 13) (as := [(1, b), (1, 0), (1, 2)]) (st' := []) (by decide +kernel) rfl (m101 h b 0 2) rfl ?_
    rintro x _ ⟨rfl, ⟨rfl, c2⟩ | ⟨rfl, c2⟩⟩
    · refine zwif_eq (q := 26) (nx := 16) (by decide +kernel) (fun c3 => ?_) (fun c3 => ?_)
      · exfalso; omega
      · refine zwW_p [(1, 0, 2)] (q := 17) (ls' := [(2, 37), (0, a), (0, b), (9, 0), (9, 0), (9, 0), (9, 0)]) (st' := [(2, 37)]) (by decide +kernel) rfl ?_
        refine zwW_gs I (kd := 13) (bn := 0) (n := 97) (t := 0) (lo := 0) (hi := 156) (nx := 20) (by decide +kernel) ?_
        intro v4 ev4 lv4 uv4
        have sv4 : v4 = (yM h) 37 0 := Eq.trans ev4 (Eq.trans (Eq.symm (yM_s (h := h) (i := 0) rfl)) (Eq.trans (congrFun (congrFun (rfl : yM h = yM h) 37) 0) rfl))
        refine zwW_p [(0, 156, 0)] (q := 23) (ls' := [(2, 37), (0, a), (0, b), (9, 0), (9, 0), (9, 0), (9, 0)]) (st' := [(0, 156), (0, v4)]) (by decide +kernel) rfl ?_
        refine zwic_ne (q := 28) (nx := 26) (by decide +kernel) (fun c5 => ?_) (fun c5 => ?_)
        · refine zwW_p [(0, 0, 0), (2, 3, 0), (1, 0, 2), (0, 0, 0)] (q := 32) (ls' := [(2, 37), (0, a), (0, b), (0, 0), (9, 0), (9, 0), (9, 0)]) (st' := [(0, 0), (2, 37)]) (by decide +kernel) rfl ?_
          refine zwW_cm I (op := 60) (k' := 164) (n := 1) (kd := 13) (m := 97) (nx := 35) (r := 37) (tl := [(0, 0)]) (st' := []) (by decide +kernel) rfl (by decide +kernel) rfl (m164_z h I 0 (by omega) (hA.mr R (by decide +kernel) (by omega)) (by rw [(rfl : yM h = yM h)]; exact BZ) (by rw [(rfl : yM h = yM h)]; exact GF)) ?_
          rintro v6 h9 ⟨Ih9, Qh9, f7, f8⟩
          have Rh9 : zMR ms74 h h9 := R.tr Qh9 (by decide +kernel)
          have th9_37_0 : fld h9 37 0 = fld h 37 0 := Qh9.f (a1 := 37) (a2 := 37) (j1 := 0) (j2 := 1) (by decide +kernel) (by first | decide | exact ⟨by decide, by decide⟩) (by first | decide | exact ⟨by decide, by decide⟩)
          have th9_37_1 : fld h9 37 1 = fld h 37 1 := Qh9.f (a1 := 37) (a2 := 37) (j1 := 1) (j2 := 2) (by decide +kernel) (by first | decide | exact ⟨by decide, by decide⟩) (by first | decide | exact ⟨by decide, by decide⟩)
          have th9_37_2 : fld h9 37 2 = fld h 37 2 := Qh9.f (a1 := 37) (a2 := 37) (j1 := 2) (j2 := 3) (by decide +kernel) (by first | decide | exact ⟨by decide, by decide⟩) (by first | decide | exact ⟨by decide, by decide⟩)
          have th9_37_96 : fld h9 37 96 = fld h 37 96 := Qh9.f (a1 := 37) (a2 := 37) (j1 := 96) (j2 := 97) (by decide +kernel) (by first | decide | exact ⟨by decide, by decide⟩) (by first | decide | exact ⟨by decide, by decide⟩)
          have sv6 : v6 = ySpn (yM h) 0 := by rw [f8]
          have Zh9 : yM h9 = (yM h) := (yM_fr Qh9 (by decide +kernel) (I.b (a1 := 37) (a2 := 37) (j1 := 86) (j2 := 87) (lo := 0) (hi := 6) (by decide +kernel) (r := 37) (j := 86) (by decide) (by decide) (by decide) (by decide)).2).trans (rfl : yM h = yM h)
          refine zwW_p [(2, 4, 0), (0, 1, 0), (2, 5, 0)] (q := 40) (ls' := [(2, 37), (0, a), (0, b), (0, 0), (0, v6), (0, 1), (9, 0)]) (st' := []) (by decide +kernel) rfl ?_
          have L10 : ∀ (n0 : Nat) (pL10 mL10 tL10 : Int) (w6L10 : Vl) (hL10 : Hp), n0 = ((1000 - tL10)).toNat → (yBN (yM h) a (tL10 - 1).toNat = (pL10, mL10)) → (1 ≤ tL10 ∧ tL10 ≤ SH) → (0 ≤ pL10 ∧ pL10 ≤ 255) → (-2147483648 ≤ mL10 ∧ mL10 ≤ 2147483647) → (fld hL10 37 0 = fld h 37 0 ∧ fld hL10 37 1 = fld h 37 1 ∧ fld hL10 37 2 = fld h 37 2 ∧ fld hL10 37 96 = fld h 37 96) → (yM hL10 = (yM h)) → zI hL10 → zMR ms74 h hL10 → zwW sc (3) 74 40 [(2, 37), (0, a), (0, b), (0, pL10), (0, mL10), (0, tL10), w6L10] [] hL10 (zwRt 0 (fun x g => zI g ∧ zMR ms74 h g ∧ (-2147483648 ≤ x ∧ x ≤ 2147483647) ∧ (x = yBstA (yM h) a b))) := by
            intro n0
            induction n0 using Nat.strongRecOn with
            | ind n0 IHL10 =>
              intro pL10 mL10 tL10 w6L10 hL10 hnL10 iL10_0 iL10_1 iL10_2 iL10_3 iL10_4 iL10_5 IhL10 RhL10
              refine zwW_p [(1, 5, 0), (0, 1, 0), (1, 0, 2)] (q := 44) (ls' := [(2, 37), (0, a), (0, b), (0, pL10), (0, mL10), (0, tL10), w6L10]) (st' := [(2, 37), (0, 1), (0, tL10)]) (by decide +kernel) rfl ?_
              refine zwW_gs IhL10 (kd := 13) (bn := 96) (n := 97) (t := 0) (lo := 0) (hi := 8) (nx := 47) (by decide +kernel) ?_
              intro v11 ev11 lv11 uv11
              have sv11 : v11 = (yM h) 37 96 := Eq.trans ev11 (Eq.trans (Eq.symm (yM_s (h := hL10) (i := 96) rfl)) (Eq.trans (congrFun (congrFun iL10_5 37) 96) rfl))
              refine zwW_ib (a := 8) (nx := 48) (by decide +kernel) rfl ?_
              generalize gw48 : (i_shl 1 v11) = w48
              have S48 : w48 = SH := by rw [← gw48, show SH = _ from eSH, ← sv11]
              clear gw48
              refine zwic_ge (q := 116) (nx := 51) (by decide +kernel) (fun c12 => ?_) (fun c12 => ?_)
              · have E116 : yBst (yM h) a = (pL10, mL10) := yBst_e ((show tL10 = SH by omega).trans eSH) (by omega) iL10_0
                refine zwW_p [(1, 2, 0)] (q := 117) (ls' := [(2, 37), (0, a), (0, b), (0, pL10), (0, mL10), (0, tL10), w6L10]) (st' := [(0, b)]) (by decide +kernel) rfl ?_
                refine zwif_ne (q := 124) (nx := 120) (by decide +kernel) (fun c13 => ?_) (fun c13 => ?_)
                · refine zwW_p [(1, 2, 0), (0, 1, 0)] (q := 126) (ls' := [(2, 37), (0, a), (0, b), (0, pL10), (0, mL10), (0, tL10), w6L10]) (st' := [(0, 1), (0, b)]) (by decide +kernel) rfl ?_
                  refine zwic_ne (q := 134) (nx := 129) (by decide +kernel) (fun c14 => ?_) (fun c14 => ?_)
                  · refine zwW_p [(1, 0, 2), (1, 3, 0)] (q := 136) (ls' := [(2, 37), (0, a), (0, b), (0, pL10), (0, mL10), (0, tL10), w6L10]) (st' := [(0, pL10), (2, 37)]) (by decide +kernel) rfl ?_
                    refine zwW_cm IhL10 (op := 60) (k' := 165) (n := 1) (kd := 13) (m := 97) (nx := 139) (r := 37) (tl := [(0, pL10)]) (st' := []) (by decide +kernel) rfl (by decide +kernel) rfl (m165_z hL10 IhL10 pL10 (by omega) (by rw [iL10_5]; exact GF)) ?_
                    rintro v15 _ ⟨rfl, f16, f17⟩
                    have sv15 : v15 = yCst (yM h) pL10 := by rw [f17, iL10_5]
                    refine zwW_ret (nx := 140) (a := 0) (b := 0) (by decide +kernel) rfl (Or.inl rfl) ?_
                    exact ⟨IhL10, RhL10, by omega, by unfold yBstA; (try rw [E116]); (repeat' (first | rw [if_pos (by omega)] | rw [if_neg (by omega)])); all_goals (first | exact sv15 | (dsimp only; done) | omega)⟩
                  · refine zwW_p [(1, 4, 0), (24, 139, 0)] (q := 139) (ls' := [(2, 37), (0, a), (0, b), (0, pL10), (0, mL10), (0, tL10), w6L10]) (st' := [(0, mL10)]) (by decide +kernel) rfl ?_
                    refine zwW_ret (nx := 140) (a := 0) (b := 0) (by decide +kernel) rfl (Or.inl rfl) ?_
                    exact ⟨IhL10, RhL10, by omega, by unfold yBstA; (try rw [E116]); (repeat' (first | rw [if_pos (by omega)] | rw [if_neg (by omega)])); all_goals (first | exact smL10 | (dsimp only; done) | omega)⟩
                · refine zwW_p [(1, 3, 0), (24, 139, 0)] (q := 139) (ls' := [(2, 37), (0, a), (0, b), (0, pL10), (0, mL10), (0, tL10), w6L10]) (st' := [(0, pL10)]) (by decide +kernel) rfl ?_
                  refine zwW_ret (nx := 140) (a := 0) (b := 0) (by decide +kernel) rfl (Or.inl rfl) ?_
                  exact ⟨IhL10, RhL10, by omega, by unfold yBstA; (try rw [E116]); (repeat' (first | rw [if_pos (by omega)] | rw [if_neg (by omega)])); all_goals (first | exact spL10 | (dsimp only; done) | omega)⟩
              · refine zwW_p [(1, 0, 2), (1, 5, 0)] (q := 54) (ls' := [(2, 37), (0, a), (0, b), (0, pL10), (0, mL10), (0, tL10), w6L10]) (st' := [(0, tL10), (2, 37)]) (by decide +kernel) rfl ?_
                refine zwW_cm IhL10 (op := 60) (k' := 165) (n := 1) (kd := 13) (m := 97) (nx := 57) (r := 37) (tl := [(0, tL10)]) (st' := []) (by decide +kernel) rfl (by decide +kernel) rfl (m165_z hL10 IhL10 tL10 (by omega) (by rw [iL10_5]; exact GF)) ?_
                rintro v18 _ ⟨rfl, f19, f20⟩
                have sv18 : v18 = yCst (yM h) tL10 := by rw [f20, iL10_5]
                have P57 : zEq v18 (yCst (yM h) tL10) := sv18
                clear sv18 f20
                refine zwW_p [(1, 1, 0)] (q := 58) (ls' := [(2, 37), (0, a), (0, b), (0, pL10), (0, mL10), (0, tL10), w6L10]) (st' := [(0, a), (0, v18)]) (by decide +kernel) rfl ?_
                refine zwic_le (q := 64) (nx := 61) (by decide +kernel) (fun c21 => ?_) (fun c21 => ?_)
                · refine zwW_p [(1, 0, 2), (1, 5, 0)] (q := 67) (ls' := [(2, 37), (0, a), (0, b), (0, pL10), (0, mL10), (0, tL10), w6L10]) (st' := [(0, tL10), (2, 37)]) (by decide +kernel) rfl ?_
                  refine zwW_cm IhL10 (op := 60) (k' := 164) (n := 1) (kd := 13) (m := 97) (nx := 70) (r := 37) (tl := [(0, tL10)]) (st' := []) (by decide +kernel) rfl (by decide +kernel) rfl (m164_z hL10 IhL10 tL10 (by omega) (hA.mr RhL10 (by decide +kernel) (by omega)) (by rw [iL10_5]; exact BZ) (by rw [iL10_5]; exact GF)) ?_
                  rintro v22 h25 ⟨Ih25, Qh25, f23, f24⟩
                  have Rh25 : zMR ms74 h h25 := RhL10.tr Qh25 (by decide +kernel)
                  have th25_37_0 : fld h25 37 0 = fld hL10 37 0 := Qh25.f (a1 := 37) (a2 := 37) (j1 := 0) (j2 := 1) (by decide +kernel) (by first | decide | exact ⟨by decide, by decide⟩) (by first | decide | exact ⟨by decide, by decide⟩)
                  have th25_37_1 : fld h25 37 1 = fld hL10 37 1 := Qh25.f (a1 := 37) (a2 := 37) (j1 := 1) (j2 := 2) (by decide +kernel) (by first | decide | exact ⟨by decide, by decide⟩) (by first | decide | exact ⟨by decide, by decide⟩)
                  have th25_37_2 : fld h25 37 2 = fld hL10 37 2 := Qh25.f (a1 := 37) (a2 := 37) (j1 := 2) (j2 := 3) (by decide +kernel) (by first | decide | exact ⟨by decide, by decide⟩) (by first | decide | exact ⟨by decide, by decide⟩)
                  have th25_37_96 : fld h25 37 96 = fld hL10 37 96 := Qh25.f (a1 := 37) (a2 := 37) (j1 := 96) (j2 := 97) (by decide +kernel) (by first | decide | exact ⟨by decide, by decide⟩) (by first | decide | exact ⟨by decide, by decide⟩)
                  have sv22 : v22 = ySpn (yM h) tL10 := by rw [f24, iL10_5]
                  have Zh25 : yM h25 = (yM h) := (yM_fr Qh25 (by decide +kernel) (IhL10.b (a1 := 37) (a2 := 37) (j1 := 86) (j2 := 87) (lo := 0) (hi := 6) (by decide +kernel) (r := 37) (j := 86) (by decide) (by decide) (by decide) (by decide)).2).trans iL10_5
                  have P70 : zEq v22 (ySpn (yM h) tL10) := sv22
                  clear sv22 f24
                  refine zwW_p [(2, 6, 0), (1, 6, 0), (1, 4, 0)] (q := 76) (ls' := [(2, 37), (0, a), (0, b), (0, pL10), (0, mL10), (0, tL10), (0, v22)]) (st' := [(0, mL10), (0, v22)]) (by decide +kernel) rfl ?_
                  refine zwic_lt (q := 110) (nx := 79) (by decide +kernel) (fun c26 => ?_) (fun c26 => ?_)
                  · have K110 : yBN (yM h) a (tL10 + 1 - 1).toNat = (pL10, mL10) := by
                      first
                      | exact yBN_n0 iL10_0 (by omega) P57 (by omega)
                      | exact yBN_n1 iL10_0 (by omega) P70 (by omega)
                      | exact yBN_y1 iL10_0 (by omega) P57 P70 (by omega) (by omega)
                      | exact yBN_n2 iL10_0 (by omega) P57 P70 P97 (by omega) (by omega)
                      | exact yBN_y2 iL10_0 (by omega) P57 P70 P97 (by omega) (by omega) (by omega)
                    refine zwW_inc (i := 5) (c := 1) (x := tL10) (nx := 113) (by decide +kernel) rfl (by first | omega | exact ⟨by omega, by omega⟩) (ls' := [(2, 37), (0, a), (0, b), (0, pL10), (0, mL10), (0, (tL10 + 1)), (0, v22)]) rfl ?_
                    refine zwW_p [(24, 40, 0)] (q := 40) (ls' := [(2, 37), (0, a), (0, b), (0, pL10), (0, mL10), (0, (tL10 + 1)), (0, v22)]) (st' := []) (by decide +kernel) rfl ?_
                    exact IHL10 ((1000 - (tL10 + 1))).toNat (by omega) pL10 mL10 (tL10 + 1) (0, v22) h25 rfl (K110) (by omega) (by omega) (by omega) (by omega) (Zh25) Ih25 Rh25
                  · refine zwW_p [(1, 6, 0), (1, 4, 0)] (q := 83) (ls' := [(2, 37), (0, a), (0, b), (0, pL10), (0, mL10), (0, tL10), (0, v22)]) (st' := [(0, mL10), (0, v22)]) (by decide +kernel) rfl ?_
                    refine zwic_ne (q := 103) (nx := 86) (by decide +kernel) (fun c27 => ?_) (fun c27 => ?_)
                    · refine zwW_p [(1, 5, 0), (2, 3, 0), (1, 6, 0), (2, 4, 0)] (q := 110) (ls' := [(2, 37), (0, a), (0, b), (0, tL10), (0, v22), (0, tL10), (0, v22)]) (st' := []) (by decide +kernel) rfl ?_
                      have K110 : yBN (yM h) a (tL10 + 1 - 1).toNat = (tL10, v22) := by
                        first
                        | exact yBN_n0 iL10_0 (by omega) P57 (by omega)
                        | exact yBN_n1 iL10_0 (by omega) P70 (by omega)
                        | exact yBN_y1 iL10_0 (by omega) P57 P70 (by omega) (by omega)
                        | exact yBN_n2 iL10_0 (by omega) P57 P70 P97 (by omega) (by omega)
                        | exact yBN_y2 iL10_0 (by omega) P57 P70 P97 (by omega) (by omega) (by omega)
                      refine zwW_inc (i := 5) (c := 1) (x := tL10) (nx := 113) (by decide +kernel) rfl (by first | omega | exact ⟨by omega, by omega⟩) (ls' := [(2, 37), (0, a), (0, b), (0, tL10), (0, v22), (0, (tL10 + 1)), (0, v22)]) rfl ?_
                      refine zwW_p [(24, 40, 0)] (q := 40) (ls' := [(2, 37), (0, a), (0, b), (0, tL10), (0, v22), (0, (tL10 + 1)), (0, v22)]) (st' := []) (by decide +kernel) rfl ?_
                      exact IHL10 ((1000 - (tL10 + 1))).toNat (by omega) tL10 v22 (tL10 + 1) (0, v22) h25 rfl (K110) (by omega) (by omega) (by omega) (by omega) (Zh25) Ih25 Rh25
                    · refine zwW_p [(1, 0, 2), (1, 5, 0)] (q := 89) (ls' := [(2, 37), (0, a), (0, b), (0, pL10), (0, mL10), (0, tL10), (0, v22)]) (st' := [(0, tL10), (2, 37)]) (by decide +kernel) rfl ?_
                      refine zwW_cm Ih25 (op := 60) (k' := 165) (n := 1) (kd := 13) (m := 97) (nx := 92) (r := 37) (tl := [(0, tL10)]) (st' := []) (by decide +kernel) rfl (by decide +kernel) rfl (m165_z h25 Ih25 tL10 (by omega) (by rw [Zh25]; exact GF)) ?_
                      rintro v28 _ ⟨rfl, f29, f30⟩
                      have sv28 : v28 = yCst (yM h) tL10 := by rw [f30, Zh25]
                      have E92 : v28 = v18 := sv28.trans (show v18 = yCst (yM h) tL10 from P57).symm
                      clear sv28 f30
                      refine zwW_p [(1, 0, 2), (1, 3, 0)] (q := 94) (ls' := [(2, 37), (0, a), (0, b), (0, pL10), (0, mL10), (0, tL10), (0, v22)]) (st' := [(0, pL10), (2, 37), (0, v28)]) (by decide +kernel) rfl ?_
                      refine zwW_cm Ih25 (op := 60) (k' := 165) (n := 1) (kd := 13) (m := 97) (nx := 97) (r := 37) (tl := [(0, pL10)]) (st' := [(0, v28)]) (by decide +kernel) rfl (by decide +kernel) rfl (m165_z h25 Ih25 pL10 (by omega) (by rw [Zh25]; exact GF)) ?_
                      rintro v31 _ ⟨rfl, f32, f33⟩
                      have sv31 : v31 = yCst (yM h) pL10 := by rw [f33, Zh25]
                      have P97 : zEq v31 (yCst (yM h) pL10) := sv31
                      clear sv31 f33
                      refine zwic_lt (q := 103) (nx := 100) (by decide +kernel) (fun c34 => ?_) (fun c34 => ?_)
                      · refine zwW_p [(1, 5, 0), (2, 3, 0), (1, 6, 0), (2, 4, 0)] (q := 110) (ls' := [(2, 37), (0, a), (0, b), (0, tL10), (0, v22), (0, tL10), (0, v22)]) (st' := []) (by decide +kernel) rfl ?_
                        have K110 : yBN (yM h) a (tL10 + 1 - 1).toNat = (tL10, v22) := by
                          first
                          | exact yBN_n0 iL10_0 (by omega) P57 (by omega)
                          | exact yBN_n1 iL10_0 (by omega) P70 (by omega)
                          | exact yBN_y1 iL10_0 (by omega) P57 P70 (by omega) (by omega)
                          | exact yBN_n2 iL10_0 (by omega) P57 P70 P97 (by omega) (by omega)
                          | exact yBN_y2 iL10_0 (by omega) P57 P70 P97 (by omega) (by omega) (by omega)
                        refine zwW_inc (i := 5) (c := 1) (x := tL10) (nx := 113) (by decide +kernel) rfl (by first | omega | exact ⟨by omega, by omega⟩) (ls' := [(2, 37), (0, a), (0, b), (0, tL10), (0, v22), (0, (tL10 + 1)), (0, v22)]) rfl ?_
                        refine zwW_p [(24, 40, 0)] (q := 40) (ls' := [(2, 37), (0, a), (0, b), (0, tL10), (0, v22), (0, (tL10 + 1)), (0, v22)]) (st' := []) (by decide +kernel) rfl ?_
                        exact IHL10 ((1000 - (tL10 + 1))).toNat (by omega) tL10 v22 (tL10 + 1) (0, v22) h25 rfl (K110) (by omega) (by omega) (by omega) (by omega) (Zh25) Ih25 Rh25
                      · refine zwW_p [(24, 110, 0)] (q := 110) (ls' := [(2, 37), (0, a), (0, b), (0, pL10), (0, mL10), (0, tL10), (0, v22)]) (st' := []) (by decide +kernel) rfl ?_
                        have K110 : yBN (yM h) a (tL10 + 1 - 1).toNat = (pL10, mL10) := by
                          first
                          | exact yBN_n0 iL10_0 (by omega) P57 (by omega)
                          | exact yBN_n1 iL10_0 (by omega) P70 (by omega)
                          | exact yBN_y1 iL10_0 (by omega) P57 P70 (by omega) (by omega)
                          | exact yBN_n2 iL10_0 (by omega) P57 P70 P97 (by omega) (by omega)
                          | exact yBN_y2 iL10_0 (by omega) P57 P70 P97 (by omega) (by omega) (by omega)
                        refine zwW_inc (i := 5) (c := 1) (x := tL10) (nx := 113) (by decide +kernel) rfl (by first | omega | exact ⟨by omega, by omega⟩) (ls' := [(2, 37), (0, a), (0, b), (0, pL10), (0, mL10), (0, (tL10 + 1)), (0, v22)]) rfl ?_
                        refine zwW_p [(24, 40, 0)] (q := 40) (ls' := [(2, 37), (0, a), (0, b), (0, pL10), (0, mL10), (0, (tL10 + 1)), (0, v22)]) (st' := []) (by decide +kernel) rfl ?_
                        exact IHL10 ((1000 - (tL10 + 1))).toNat (by omega) pL10 mL10 (tL10 + 1) (0, v22) h25 rfl (K110) (by omega) (by omega) (by omega) (by omega) (Zh25) Ih25 Rh25
                · refine zwW_p [(24, 110, 0)] (q := 110) (ls' := [(2, 37), (0, a), (0, b), (0, pL10), (0, mL10), (0, tL10), w6L10]) (st' := []) (by decide +kernel) rfl ?_
                  have K110 : yBN (yM h) a (tL10 + 1 - 1).toNat = (pL10, mL10) := by
                    first
                    | exact yBN_n0 iL10_0 (by omega) P57 (by omega)
                    | exact yBN_n1 iL10_0 (by omega) P70 (by omega)
                    | exact yBN_y1 iL10_0 (by omega) P57 P70 (by omega) (by omega)
                    | exact yBN_n2 iL10_0 (by omega) P57 P70 P97 (by omega) (by omega)
                    | exact yBN_y2 iL10_0 (by omega) P57 P70 P97 (by omega) (by omega) (by omega)
                  refine zwW_inc (i := 5) (c := 1) (x := tL10) (nx := 113) (by decide +kernel) rfl (by first | omega | exact ⟨by omega, by omega⟩) (ls' := [(2, 37), (0, a), (0, b), (0, pL10), (0, mL10), (0, (tL10 + 1)), w6L10]) rfl ?_
                  refine zwW_p [(24, 40, 0)] (q := 40) (ls' := [(2, 37), (0, a), (0, b), (0, pL10), (0, mL10), (0, (tL10 + 1)), w6L10]) (st' := []) (by decide +kernel) rfl ?_
                  exact IHL10 ((1000 - (tL10 + 1))).toNat (by omega) pL10 mL10 (tL10 + 1) w6L10 hL10 rfl (K110) (by omega) (by omega) (by omega) (by omega) (iL10_5) IhL10 RhL10
          exact L10 _ 0 v6 1 (9, 0) h9 rfl (by rw [sv6]; rfl) (by omega) (by omega) (by omega) (by omega) (Zh9) Ih9 Rh9
        · refine zwW_p [(0, -1, 0)] (q := 27) (ls' := [(2, 37), (0, a), (0, b), (9, 0), (9, 0), (9, 0), (9, 0)]) (st' := [(0, -1)]) (by decide +kernel) rfl ?_
          refine zwW_ret (nx := 28) (a := 0) (b := 0) (by decide +kernel) rfl (Or.inl rfl) ?_
          exact ⟨I, R, by omega, by unfold yBstA; (try rw [E116]); (repeat' (first | rw [if_neg (by omega)] | rw [if_pos (by omega)])); all_goals (first | exact s-1 | (dsimp only; done) | omega)⟩
    · refine zwif_eq (q := 26) (nx := 16) (by decide +kernel) (fun c35 => ?_) (fun c35 => ?_)
      · refine zwW_p [(0, -1, 0)] (q := 27) (ls' := [(2, 37), (0, a), (0, b), (9, 0), (9, 0), (9, 0), (9, 0)]) (st' := [(0, -1)]) (by decide +kernel) rfl ?_
        refine zwW_ret (nx := 28) (a := 0) (b := 0) (by decide +kernel) rfl (Or.inl rfl) ?_
        exact ⟨I, R, by omega, by unfold yBstA; (try rw [E116]); (repeat' (first | rw [if_neg (by omega)] | rw [if_pos (by omega)])); all_goals (first | exact s-1 | (dsimp only; done) | omega)⟩
      · exfalso; omega
end
