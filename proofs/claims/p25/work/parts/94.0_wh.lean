/-! joined: 94.0_wh 94.a_inv 94.b_inv 94.c_rel 94.d_start 94.k_bst 94.p_hn 94.q_of 94.r_bc 94.s_hd 94.t_hd 94.u_xh -/
section
/-! what was read can be run: for any bytes -/
section WH
variable {n : Nat} {t : pT} {e : Nat} {f hol eit sum sub : pQ → pR} {o : Bool} {P : Int → Prop} {s : pQ} {b c0 : Nat → Int} {h h1 g : Hp} {ms : Zms} {c z : Int}
theorem pV_nn {p : Nat} (hk : pK t n p = 2) : 0 ≤ pV t n p := by
  have hp := pK_lt (t := t) (n := n) (p := p) (by omega)
  unfold pK at hk
  rw [if_pos hp] at hk
  by_cases h1 : pLet (t p) = true
  · rw [if_pos h1] at hk; omega
  · rw [if_neg h1] at hk
    by_cases h2 : pDig (t p) = true
    · unfold pV
      rw [if_neg h1]
      unfold pVl
      have he : pEn t n p = pRun pDig t n p := by unfold pEn; rw [if_pos hp, if_neg h1, if_pos h2]
      have hr := pRun_b (P := pDig) (t := t) (n := n) (n - p) p rfl (by omega)
      rw [he]
      have key : ∀ (f q : Nat) (v : Int), 0 ≤ v → p ≤ q → q + f ≤ pRun pDig t n p → 0 ≤ pNu t f q v := by
        intro f
        induction f with
        | zero => intro q v hv _ _; exact hv
        | succ f IH =>
          intro q v hv hq hf
          have d := pDig_t.mp (hr.2.2.1 q hq (by omega))
          exact IH (q + 1) _ (by omega) (by omega) (by omega)
      exact key _ p 0 (by omega) (Nat.le_refl _) (by omega)
    · rw [if_neg h2] at hk
      by_cases h3 : pSig (t p) = true
      · rw [if_pos h3] at hk
        have := pSig_t.mp h3
        omega
      · rw [if_neg h3] at hk; omega
theorem eH_fac (H : eG n eNum sub) (Hg : pG n sub) : eG n eNum (pFac t n o sub) := by
  intro N hN s h
  unfold pFac
  split
  · rename_i c1
    intro _
    have v0 := pV_nn (t := t) (n := n) c1.1
    show eSg N (zu s.2.2 s.2.1 (pV t n s.1)) eNum s.2.1 (s.2.1 + 1)
    refine eSg_one (by rw [zu_eq]; omega) (fun v hv => ?_)
    rw [zu_eq, if_pos v0] at hv
    rw [hv]
    unfold eNum
    omega
  · split
    · rename_i c1 c2
      intro _
      show eSg N (zu s.2.2 s.2.1 (-1 - pV t n s.1)) eNum s.2.1 (s.2.1 + 1)
      refine eSg_one (by rw [zu_eq]; omega) (fun v hv => ?_)
      rw [zu_eq, if_neg (by omega)] at hv
      rw [hv]
      exact hN _ (by omega)
    · split
      · rename_i c3
        have hp := pK_lt (t := t) (n := n) (p := s.1) (by omega)
        have b := pNx_b (t := t) (n := n) (p := s.1) h
        split
        · rename_i c4
          have g := H N hN (pA t n s) (by show pNx t n s.1 ≤ n; omega) c4
          split
          · intro _; exact g
          · intro z; cases z
        · intro z; exact absurd z ‹_›
      · intro z; cases z
theorem eH_fc : ∀ e : Nat, eG n eNum (pFc t n e)
  | 0 => eH_fac eG_no pG_no
  | e + 1 => eH_fac (eG_sm0 (eH_fc e) (pG_fc e)) (pG_sm0 (pG_fc e))
theorem eH_sum (e : Nat) : eG n eNum (pSum t n e) := eG_sm0 (eH_fc e) (pG_fc e)
theorem eH_ho : ∀ e : Nat, eG n eBit (pHo t n e)
  | 0 => eG_hol eG_no pG_no eG_no (eH_sum 0) (pG_sum 0)
  | e + 1 => eG_hol (eH_ho e) (pG_ho e) (eG_ei0 (eH_ho e) (pG_ho e)) (eH_sum (e + 1)) (pG_sum (e + 1))
theorem eH_ei (e : Nat) : eG n eBit (pEi t n e) := eG_ei0 (eH_ho e) (pG_ho e)
theorem pCb_eH (c : Int) (N : Nat → Int) (hN : eNs N) (s : pQ) (hs : s.1 ≤ n) (h : (pCb t n c s).1 = true) : eSg N (pCb t n c s).2.2.2 (if c < 3 then eNum else eBit) s.2.1 (pCb t n c s).2.2.1 := by
  unfold pCb at h ⊢
  by_cases z : c < 3
  · simp only [if_pos z] at h ⊢
    exact eH_sum 8 N hN s hs h
  · simp only [if_neg z] at h ⊢
    exact eH_ei 8 N hN s hs h
theorem pWh_cls (W : rW n s) (G : pWg s b) (h : (pCls t n s b).1 = true) : pWg (pCls t n s b).2.1 (pCls t n s b).2.2 := by
  by_cases c1 : pCc t n s b
  · have V := W.a (t := t) (by have := c1.1; omega)
    by_cases c2 : (pBo t n s).1 = true
    · by_cases c3 : pK t n (pBo t n s).2.1 = 59
      · rw [pCls_t c1 c2 c3]
        have E : ∀ N, eNs N → eSg N (pBo t n s).2.2.2 (if pV t n s.1 - 13 < 3 then eNum else eBit) s.2.1 (pBo t n s).2.2.1 := fun N hN => pCb_eH (pV t n s.1 - 13) N hN (pA t n s) V.2 c2
        have g := pG_cb (t := t) (n := n) (pV t n s.1 - 13) (pA t n s) V.2
        have g3 : s.2.1 ≤ (pBo t n s).2.2.1 := g.2.2.1
        have g5 : s.2.1 < (pBo t n s).2.2.1 := (g.2.2.2.2.1 c2).2
        have g6 : ∀ i, i < s.2.1 → (pBo t n s).2.2.2 i = s.2.2 i := g.2.2.2.2.2
        obtain ⟨c11, c12, c13, c14⟩ := c1
        intro d hd
        show zu b (pV t n s.1 - 13).toNat s.2.1 d = -1 ∨ ∃ B L : Nat, zu b (pV t n s.1 - 13).toNat s.2.1 d = (B : Int) ∧ 0 < L ∧ B + L < (pBo t n s).2.2.1 + 1 ∧ zu (pBo t n s).2.2.2 (pBo t n s).2.2.1 (-21) (B + L) = -21 ∧ ∀ N, eNs N → eSg N (zu (pBo t n s).2.2.2 (pBo t n s).2.2.1 (-21)) (if (d : Int) < 3 then eNum else eBit) B (B + L)
        by_cases z : d = (pV t n s.1 - 13).toNat
        · right
          have ed : (d : Int) = pV t n s.1 - 13 := by omega
          refine ⟨s.2.1, (pBo t n s).2.2.1 - s.2.1, by rw [z, zu_eq], by omega, by omega, by rw [show s.2.1 + ((pBo t n s).2.2.1 - s.2.1) = (pBo t n s).2.2.1 by omega, zu_eq], fun N hN => ?_⟩
          rw [show s.2.1 + ((pBo t n s).2.2.1 - s.2.1) = (pBo t n s).2.2.1 by omega, ed]
          exact eSg_cg (E N hN) (fun r r1 r2 => (zu_ne (by omega)).symm)
        · rw [zu_ne z]
          rcases G d hd with y | ⟨B, L, y1, y2, y3, y4, y5⟩
          · exact Or.inl y
          · right
            refine ⟨B, L, y1, y2, by omega, by rw [zu_ne (by omega), g6 _ (by omega)]; exact y4, fun N hN => ?_⟩
            exact eSg_cg (y5 N hN) (fun r r1 r2 => by rw [zu_ne (by omega), g6 _ (by omega)])
      · rw [pCls_s c1 c2 c3] at h
        cases h
    · rw [pCls_f c1 c2] at h
      cases h
  · rw [pCls_no c1] at h
    cases h
theorem pWh_rd : ∀ (m : Nat) (s : pQ) (b : Nat → Int), rW n s → pWg s b → (pRd t n m s b).1 = true → pWg (pRd t n m s b).2.1 (pRd t n m s b).2.2 ∧ rW n (pRd t n m s b).2.1
  | 0, _, _, W, G, _ => ⟨G, W⟩
  | m + 1, s, b, W, G, h => by
    by_cases h0 : pK t n s.1 = 0
    · rw [pRd_z (Or.inr h0)]
      exact ⟨G, W⟩
    · by_cases h1 : (pCls t n s b).1 = true
      · rw [pRd_n rfl h0 h1] at h ⊢
        exact pWh_rd m _ _ (pCls_W W h1).1 (pWh_cls W G h1) h
      · rw [pRd_f rfl h0 h1] at h
        exact absurd h h1
theorem pWh_read (h0 : pSk t n 0 ≤ n) (h : pFa t n c0 = -1) : pWg (pRead t n c0).2.1 (pRead t n c0).2.2 ∧ rW n (pRead t n c0).2.1 := by
  refine pWh_rd 400 (pSk t n 0, 0, c0) (fun _ => -1) ⟨Nat.zero_le _, h0⟩ (fun d _ => Or.inl rfl) ?_
  by_cases z : (pRead t n c0).1 = true
  · exact z
  · rw [pFa_f z] at h
    omega
end WH
end
section
/-! what stays, of the tables: pure -/
section YIV
variable {S T U : zT} {a i j k l n u v m : Nat} {b c d x y : Int} {q : qT}
def yCn (S : zT) (v : Int) : Nat → Int
  | 0 => 0
  | u + 1 => if S 184 u = v then yCn S v u + 1 else yCn S v u
theorem yCn_s {w : Int} : yCn S w (m + 1) = if S 184 m = w then yCn S w m + 1 else yCn S w m := rfl
theorem yCn_b {w : Int} : ∀ m : Nat, 0 ≤ yCn S w m ∧ yCn S w m ≤ m
  | 0 => ⟨Int.le_refl _, by show (0 : Int) ≤ ((0 : Nat) : Int); omega⟩
  | m + 1 => by
    have h := yCn_b (w := w) m
    rw [yCn_s]
    split <;> omega
theorem yCn_lt {w : Int} (h : S 184 u ≠ w) : ∀ m : Nat, u < m → yCn S w m ≤ (m : Int) - 1
  | 0, z => absurd z (Nat.not_lt_zero _)
  | m + 1, z => by
    rw [yCn_s]
    by_cases e : u = m
    · subst e
      rw [if_neg h]
      have := yCn_b (S := S) (w := w) u
      omega
    · have := yCn_lt h m (by omega)
      split <;> omega
theorem yCn_ag {w : Int} (H : ∀ u, T 184 u = S 184 u) : ∀ m : Nat, yCn T w m = yCn S w m
  | 0 => rfl
  | m + 1 => by
    rw [yCn_s, yCn_s, H m, yCn_ag H m]
theorem yCn_br {w z : Int} (h : S 184 u = -1) (hw : w ≠ -1) : ∀ m : Nat, yCn (zs S 184 u z) w m = yCn S w m + (if u < m ∧ z = w then 1 else 0)
  | 0 => by
    rw [if_neg (fun t => absurd t.1 (Nat.not_lt_zero _))]
    rfl
  | m + 1 => by
    have ih := yCn_br (z := z) h hw m
    rw [yCn_s, yCn_s, ih]
    by_cases e : m = u
    · subst e
      rw [zs_eq, h, if_neg (show ¬ (-1 : Int) = w from fun t => hw t.symm), if_neg (show ¬ (m < m ∧ z = w) by omega)]
      by_cases f : z = w
      · rw [if_pos f, if_pos (show m < m + 1 ∧ z = w from ⟨by omega, f⟩)]
        omega
      · rw [if_neg f, if_neg (fun t => f t.2)]
    · rw [zs_ni e]
      by_cases g : u < m ∧ z = w
      · rw [if_pos g, if_pos (show u < m + 1 ∧ z = w from ⟨by omega, g.2⟩)]
        split <;> omega
      · rw [if_neg g, if_neg (show ¬ (u < m + 1 ∧ z = w) from fun t => g ⟨by omega, t.2⟩)]
        split <;> omega
/-- what bringing rests on -/
def yBr (S : zT) : Prop := (0 ≤ S 37 78 ∧ S 37 78 ≤ 200) ∧ (∀ v : Nat, (v : Int) < S 37 1 → (0 ≤ S 67 v ∧ 0 ≤ S 68 v) ∧ S 67 v + S 68 v ≤ 20 * yCn S v (S 37 78).toNat) ∧ (∀ u : Nat, (u : Int) < S 37 78 → (0 ≤ S 183 u ∧ S 183 u ≤ 20) ∧ (0 ≤ S 181 u ∧ S 181 u < S 37 2)) ∧ (∀ k : Nat, (k : Int) < S 37 2 → S 91 k ≤ 40 ∧ (0 ≤ S 92 k ∧ S 92 k ≤ 40))
theorem yBr.rm (B : yBr S) : yRm S := fun u v hu hv h => by
  obtain ⟨⟨b1, b2⟩, b3, b4, -⟩ := B
  obtain ⟨⟨c1, c2⟩, c3⟩ := b3 v hv
  have d := (b4 u hu).1
  have e := yCn_lt (S := S) (w := (v : Int)) (u := u) (by omega) (S 37 78).toNat (by omega)
  exact ⟨⟨c1, c2, d.1⟩, by omega⟩
theorem yBr.hb (B : yBr S) : ∀ u : Nat, (u : Int) < S 37 78 → 0 ≤ S 181 u ∧ S 181 u < S 37 2 := fun u hu => (B.2.2.1 u hu).2
def yKb (a i : Nat) : Prop := (a = 37 ∧ (i = 1 ∨ i = 2 ∨ i = 78)) ∨ a = 67 ∨ a = 68 ∨ a = 181 ∨ a = 183 ∨ a = 184 ∨ a = 91 ∨ a = 92
theorem yBr.ag (B : yBr S) (t : ∀ a i, yKb a i → T a i = S a i) : yBr T := by
  have s1 := t 37 1 (by unfold yKb; omega)
  have s2 := t 37 2 (by unfold yKb; omega)
  have s3 := t 37 78 (by unfold yKb; omega)
  have r : ∀ a i, a = 67 ∨ a = 68 ∨ a = 181 ∨ a = 183 ∨ a = 184 ∨ a = 91 ∨ a = 92 → T a i = S a i := fun a i e => t a i (by unfold yKb; omega)
  obtain ⟨b1, b2, b3, b4⟩ := B
  refine ⟨by rw [s3]; exact b1, fun v hv => ?_, fun u hu => ?_, fun k hk => ?_⟩
  · rw [r 67 v (by omega), r 68 v (by omega), s3, yCn_ag (fun u => r 184 u (by omega))]
    exact b2 v (by omega)
  · rw [r 183 u (by omega), r 181 u (by omega), s2]
    exact b3 u (by omega)
  · rw [r 91 k (by omega), r 92 k (by omega)]
    exact b4 k (by omega)
/-- the first week's price -/
def y57 (S : zT) : Prop := ∀ v : Nat, (v : Int) < S 37 1 → S 57 (157 * v) = 10
theorem y57.ag (H : y57 S) (s1 : T 37 1 = S 37 1) (t : ∀ i, T 57 i = S 57 i) : y57 T := fun v hv => by
  rw [t]
  exact H v (by omega)
def yKi (a i : Nat) : Prop := yKt a i ∨ a = 85 ∨ a = 66 ∨ a = 65 ∨ a = 206
theorem yInv.ag (V : yInv S) (t : ∀ a i, yKi a i → T a i = S a i) : yInv T := by
  obtain ⟨K, B, H, Z⟩ := V
  have s0 := t 37 0 (Or.inl (Or.inl ⟨rfl, by omega⟩))
  have s1 := t 37 1 (Or.inl (Or.inl ⟨rfl, by omega⟩))
  refine ⟨K.ag (fun a i e => t a i (Or.inl e)), B.as (fun a i e => t a i (by unfold yKi yKt; omega)) (by rw [s0]; exact B.2.2.2.1), fun v hv => ?_, fun j hj => ?_⟩
  · rw [t 65 v (by unfold yKi; omega)]
    exact H v (by omega)
  · rw [t 206 j (by unfold yKi; omega)]
    exact Z j (by rw [← s0]; exact hj)
def yIv (S : zT) : Prop := yInv S ∧ yBr S ∧ y57 S
def yKj (a i : Nat) : Prop := yKi a i ∨ yKb a i ∨ a = 57
theorem yIv.ag (V : yIv S) (t : ∀ a i, yKj a i → T a i = S a i) : yIv T := ⟨V.1.ag (fun a i e => t a i (Or.inl e)), V.2.1.ag (fun a i e => t a i (Or.inr (Or.inl e))), V.2.2.ag (t 37 1 (Or.inr (Or.inl (Or.inl ⟨rfl, by omega⟩)))) (fun i => t 57 i (Or.inr (Or.inr rfl)))⟩
theorem yIv.zss (V : yIv S) (e : ¬ yKj a i) : yIv (zs S a i x) := V.ag (fun b j hb => by
  rw [zs_if]
  refine if_neg (fun z => e ?_)
  rw [← z.1, ← z.2]
  exact hb)
theorem yKj_n (e : (a ≠ 39 ∧ a ≠ 71 ∧ a ≠ 79 ∧ a ≠ 80 ∧ a ≠ 81 ∧ a ≠ 82 ∧ a ≠ 83) ∧ (a ≠ 170 ∧ a ≠ 172 ∧ a ≠ 173 ∧ a ≠ 85 ∧ a ≠ 66 ∧ a ≠ 65 ∧ a ≠ 206) ∧ (a ≠ 67 ∧ a ≠ 68 ∧ a ≠ 181 ∧ a ≠ 183 ∧ a ≠ 184 ∧ a ≠ 91 ∧ a ≠ 92 ∧ a ≠ 57) ∧ (a ≠ 37 ∨ (i ≠ 0 ∧ i ≠ 1 ∧ i ≠ 2 ∧ i ≠ 64 ∧ i ≠ 78))) : ¬ yKj a i := by
  unfold yKj yKi yKb yKt
  omega
/-- single places -/
theorem yIv.s71 (V : yIv S) (hx : 1 ≤ x ∧ x ≤ 99) : yIv (zs S 71 v x) := by
  obtain ⟨⟨K, B, H, Z⟩, R, P⟩ := V
  refine ⟨⟨?_, B.as (fun a i e => zs_na (by omega)) (by rw [zs_na (by decide)]; exact B.2.2.2.1), fun u hu => ?_, fun j hj => ?_⟩, R.ag (fun a i e => zs_na (by unfold yKb at e; omega)), P.ag (zs_na (by decide)) (fun i => zs_na (by decide))⟩
  · refine ⟨by rw [zs_na (by decide), zs_na (by decide), zs_na (by decide), zs_na (by decide)]; exact K.1, fun k hk => ?_, fun u hu => ?_, fun l hl => ?_⟩
    · rw [zs_na (by decide)] at hk
      rw [zs_na (by decide), zs_na (by decide), zs_na (by decide), zs_na (by decide), zs_na (by decide), zs_na (by decide)]
      exact K.2.1 k hk
    · rw [zs_na (by decide)] at hu
      refine ⟨?_, fun s hs => by rw [zs_na (by decide)]; exact (K.vi hu).2 s hs⟩
      by_cases z : u = v
      · rw [z, zs_eq]
        exact hx
      · rw [zs_ni z]
        exact (K.vi hu).1
    · rw [zs_na (by decide)] at hl
      rw [zs_na (by decide), zs_na (by decide), zs_na (by decide), zs_na (by decide)]
      exact K.2.2.2 l hl
  · rw [zs_na (by decide)] at hu
    rw [zs_na (by decide)]
    exact H u hu
  · rw [zs_na (by decide)] at hj
    rw [zs_na (by decide)]
    exact Z j hj
theorem yIv.s85 (V : yIv S) (hx : 4 ≤ x ∧ x ≤ 60) : yIv (zs S 85 n x) := by
  obtain ⟨⟨K, B, H, Z⟩, R, P⟩ := V
  refine ⟨⟨K.zss (yKt_n (by decide)), ?_, fun u hu => ?_, fun j hj => ?_⟩, R.ag (fun a i e => zs_na (by unfold yKb at e; omega)), P.ag (zs_na (by decide)) (fun i => zs_na (by decide))⟩
  · obtain ⟨b1, b2, b3, b4, b5, b6⟩ := B
    refine ⟨fun k hk => ?_, fun v hv => ?_, by rw [zs_na (by decide)]; exact b3, by rw [zs_na (by decide)]; exact b4, by rw [zs_na (by decide)]; exact b5, by rw [zs_na (by decide)]; exact b6⟩
    · rw [zs_na (by decide)] at hk
      have w := b1 k hk
      rw [zs_na (a := 85) (b := 80) (by decide), zs_na (a := 85) (b := 81) (by decide), zs_na (a := 85) (b := 79) (by decide), zs_na (a := 85) (b := 37) (by decide)]
      refine ⟨w.1, w.2.1, ?_, w.2.2.2⟩
      by_cases z : k = n
      · rw [z, zs_eq]
        exact hx
      · rw [zs_ni z]
        exact w.2.2.1
    · rw [zs_na (by decide)] at hv
      refine ⟨by rw [zs_na (by decide)]; exact (b2 v hv).1, fun s hs => by rw [zs_na (by decide)]; exact (b2 v hv).2 s hs⟩
  · rw [zs_na (by decide)] at hu
    rw [zs_na (by decide)]
    exact H u hu
  · rw [zs_na (by decide)] at hj
    rw [zs_na (by decide)]
    exact Z j hj
theorem yIv.s66 (V : yIv S) (hx : 0 ≤ x ∧ x ≤ 9999) : yIv (zs S 66 n x) := by
  obtain ⟨⟨K, B, H, Z⟩, R, P⟩ := V
  refine ⟨⟨K.zss (yKt_n (by decide)), ?_, fun u hu => ?_, fun j hj => ?_⟩, R.ag (fun a i e => zs_na (by unfold yKb at e; omega)), P.ag (zs_na (by decide)) (fun i => zs_na (by decide))⟩
  · obtain ⟨b1, b2, b3, b4, b5, b6⟩ := B
    refine ⟨fun k hk => ?_, fun v hv => ?_, by rw [zs_na (by decide)]; exact b3, by rw [zs_na (by decide)]; exact b4, by rw [zs_na (by decide)]; exact b5, by rw [zs_na (by decide)]; exact b6⟩
    · rw [zs_na (by decide)] at hk
      rw [zs_na (a := 66) (b := 80) (by decide), zs_na (a := 66) (b := 81) (by decide), zs_na (a := 66) (b := 85) (by decide), zs_na (a := 66) (b := 79) (by decide), zs_na (a := 66) (b := 37) (by decide)]
      exact b1 k hk
    · rw [zs_na (by decide)] at hv
      refine ⟨?_, fun s hs => by rw [zs_na (by decide)]; exact (b2 v hv).2 s hs⟩
      by_cases z : v = n
      · rw [z, zs_eq]
        exact hx
      · rw [zs_ni z]
        exact (b2 v hv).1
  · rw [zs_na (by decide)] at hu
    rw [zs_na (by decide)]
    exact H u hu
  · rw [zs_na (by decide)] at hj
    rw [zs_na (by decide)]
    exact Z j hj
theorem yIv.s91 (V : yIv S) (hx : x ≤ 40) : yIv (zs S 91 n x) := by
  obtain ⟨W, R, P⟩ := V
  refine ⟨W.ag (fun a i e => zs_na (by unfold yKi yKt at e; omega)), ?_, P.ag (zs_na (by decide)) (fun i => zs_na (by decide))⟩
  obtain ⟨b1, b2, b3, b4⟩ := R
  refine ⟨by rw [zs_na (by decide)]; exact b1, fun v hv => ?_, fun u hu => ?_, fun k hk => ?_⟩
  · rw [zs_na (by decide)] at hv
    rw [zs_na (a := 91) (b := 67) (by decide), zs_na (a := 91) (b := 68) (by decide), zs_na (a := 91) (b := 37) (by decide), yCn_ag (S := S) (fun u => zs_na (by decide))]
    exact b2 v hv
  · rw [zs_na (by decide)] at hu
    rw [zs_na (a := 91) (b := 183) (by decide), zs_na (a := 91) (b := 181) (by decide), zs_na (a := 91) (b := 37) (by decide)]
    exact b3 u hu
  · rw [zs_na (by decide)] at hk
    rw [zs_na (a := 91) (b := 92) (by decide)]
    refine ⟨?_, (b4 k hk).2⟩
    by_cases z : k = n
    · rw [z, zs_eq]
      exact hx
    · rw [zs_ni z]
      exact (b4 k hk).1
/-- the calls that write little -/
theorem yIv.coin (V : yIv S) : yIv (yCoin S x y) := by
  unfold yCoin
  split
  · exact V.zss (yKj_n (by omega))
  · exact V
theorem yIv.mill (V : yIv S) : yIv (yMill S x y) := by
  unfold yMill
  split
  · exact V.zss (yKj_n (by omega))
  · exact V
theorem yIv.sold (V : yIv S) : yIv (ySold S x y) := by
  unfold ySold
  split
  · exact V.zss (yKj_n (by omega))
  · exact V
theorem yIv.talk (V : yIv S) : yIv (yTalk S x y) := by
  unfold yTalk
  split
  · exact V.zss (yKj_n (by omega))
  · exact V
theorem yIv.gift {z : Int} (V : yIv S) : yIv (yGift S x y z) := by
  unfold yGift
  split
  · exact (((V.zss (yKj_n (by omega))).zss (yKj_n (by omega))).zss (yKj_n (by omega))).zss (yKj_n (by omega))
  · exact V
theorem yIv.forg (V : yIv S) : yIv (yForg S) := V.zss (yKj_n (by omega))
theorem yIv.pay {z : Int} (V : yIv S) : yIv (yPay S x y z) := by
  unfold yPay
  split
  · split
    · exact ((V.zss (yKj_n (by omega))).zss (yKj_n (by omega))).zss (yKj_n (by omega))
    · exact (((V.zss (yKj_n (by omega))).zss (yKj_n (by omega))).zss (yKj_n (by omega))).zss (yKj_n (by omega))
  · exact V
theorem yIv.pric (V : yIv S) : yIv (yPric S x y) := by
  unfold yPric
  split
  · exact (V.zss (yKj_n (by omega))).s71 (by omega)
  · exact V
theorem yIv.aim (V : yIv S) : yIv (yAim S x y) := by
  unfold yAim
  split
  · exact V.s85 (by omega)
  · exact V
theorem yIv.cott (V : yIv S) : yIv (yCott S x y) := by
  unfold yCott
  split
  · rename_i h
    have w := (V.1.2.1.2.1 x.toNat (by omega)).1
    have e : w32 (S 66 x.toNat + y) = S 66 x.toNat + y := w32_id (by first | omega | exact ⟨by omega, by omega⟩)
    exact V.s66 (by omega)
  · exact V
theorem yIv.loom {z : Int} (V : yIv S) : yIv (yLoom S x y z) := by
  unfold yLoom
  split
  · exact ((V.zss (yKj_n (by omega))).zss (yKj_n (by omega))).s91 (by omega)
  · exact V
end YIV
end
section
/-! a village, a house, weaving, bringing, weeks: what stays -/
section YIW
variable {S T U : zT} {a i j k l n u v m : Nat} {b c d x y z : Int} {q : qT}
/-- a village more -/
theorem yVil_37 (e : i ≠ 1) : yVil S n x y z 37 i = S 37 i := by
  unfold yVil
  rw [zs_ni e, z57_n (by decide), yVi0_n (by decide)]
theorem yVil_1 : yVil S n x y z 37 1 = n + 1 := zs_eq
theorem yVil_n (e : a ≠ 37 ∧ a ≠ 39 ∧ a ≠ 57 ∧ a ≠ 65 ∧ a ≠ 66 ∧ a ≠ 70 ∧ a ≠ 71) : yVil S n x y z a i = S a i := by
  unfold yVil
  rw [zs_na e.1, z57_n (by omega), yVi0_n (by omega)]
theorem yVil_71 : yVil S n x y z 71 i = if i = n then 10 else S 71 i := by
  unfold yVil
  rw [zs_na (by decide), z57_n (by decide)]
  unfold yVi0
  rw [zs_if]
  by_cases h : i = n
  · rw [if_pos ⟨rfl, h⟩, if_pos h]
  · rw [if_neg (fun z => h z.2), if_neg h]
    simp (disch := decide) only [zs_na]
theorem yVil_65 : yVil S n x y z 65 i = if i = n then y else S 65 i := by
  unfold yVil
  rw [zs_na (by decide), z57_n (by decide)]
  unfold yVi0
  simp (disch := decide) only [zs_na]
  rw [zs_if]
  by_cases h : i = n
  · rw [if_pos ⟨rfl, h⟩, if_pos h]
  · rw [if_neg (fun z => h z.2), if_neg h]
    simp (disch := decide) only [zs_na]
theorem yVil_66 : yVil S n x y z 66 i = if i = n then z else S 66 i := by
  unfold yVil
  rw [zs_na (by decide), z57_n (by decide)]
  unfold yVi0
  simp (disch := decide) only [zs_na]
  rw [zs_if]
  by_cases h : i = n
  · rw [if_pos ⟨rfl, h⟩, if_pos h]
  · rw [if_neg (fun z => h z.2), if_neg h]
    simp (disch := decide) only [zs_na]
theorem yVil_39 {s : Nat} (hs : s < 4) : yVil S n x y z 39 (4 * v + s) = if v = n then zid x s else S 39 (4 * v + s) := by
  unfold yVil
  rw [zs_na (by decide), z57_n (by decide)]
  unfold yVi0
  simp (disch := decide) only [zs_na]
  rw [zs_if, zs_if, zs_if, zs_if]
  by_cases h : v = n
  · subst h
    rw [if_pos rfl]
    have w : s = 0 ∨ s = 1 ∨ s = 2 ∨ s = 3 := by omega
    rcases w with rfl | rfl | rfl | rfl
    · rw [if_neg (by omega), if_neg (by omega), if_neg (by omega), if_pos ⟨rfl, by omega⟩]
    · rw [if_neg (by omega), if_neg (by omega), if_pos ⟨rfl, by omega⟩]
    · rw [if_neg (by omega), if_pos ⟨rfl, by omega⟩]
    · rw [if_pos ⟨rfl, by omega⟩]
  · rw [if_neg (by omega), if_neg (by omega), if_neg (by omega), if_neg (by omega), if_neg h]
theorem yVil_57 : yVil S n x y z 57 (157 * v) = if v = n then 10 else S 57 (157 * v) := by
  unfold yVil
  rw [zs_na (by decide)]
  show (if 57 = 57 ∧ 157 * v / 157 = n ∧ 157 * v % 157 < (S 37 0).toNat + 1 then (10 : Int) else yVi0 S n x y z 57 (157 * v)) = _
  rw [yVi0_n (by decide)]
  by_cases h : v = n
  · rw [if_pos ⟨rfl, by omega, by omega⟩, if_pos h]
  · rw [if_neg (by omega), if_neg h]
theorem zid_b {s : Nat} (h : 0 ≤ x ∧ x / 1000000 ≤ 40 ∧ x / 10000 % 100 ≤ 40 ∧ x / 100 % 100 ≤ 40 ∧ x % 100 ≤ 40) : 0 ≤ zid x s ∧ zid x s ≤ 40 := by
  unfold zid
  split
  · omega
  · split
    · omega
    · split <;> omega
theorem yIv.vil (V : yIv S) (z7 : S 67 (S 37 1).toNat = 0) (z8 : S 68 (S 37 1).toNat = 0) : yIv (yVilF S x y z) := by
  unfold yVilF
  split
  rotate_left 1
  · exact V
  rename_i h
  obtain ⟨h8, hx, hy, hz⟩ := h
  obtain ⟨⟨K, B, H, Z⟩, ⟨r1, r2, r3, r4⟩, P⟩ := V
  have s1 := K.s.2.1.1
  have en : (((S 37 1).toNat : Nat) : Int) = S 37 1 := by omega
  generalize hn : (S 37 1).toNat = n at en z7 z8
  have t37 : ∀ i, i ≠ 1 → yVil S n x y z 37 i = S 37 i := fun i e => yVil_37 e
  have t1 : yVil S n x y z 37 1 = S 37 1 + 1 := by rw [yVil_1, en]
  have tn : ∀ a i, (a ≠ 37 ∧ a ≠ 39 ∧ a ≠ 57 ∧ a ≠ 65 ∧ a ≠ 66 ∧ a ≠ 70 ∧ a ≠ 71) → yVil S n x y z a i = S a i := fun a i e => yVil_n e
  have ho : ∀ k : Nat, (k : Int) < S 37 2 → _ := K.2.1
  refine ⟨⟨⟨?_, fun k hk => ?_, fun u hu => ?_, fun l hl => ?_⟩, ⟨fun k hk => ?_, fun u hu => ?_, ?_, ?_, ?_, ?_⟩, fun u hu => ?_, fun j hj => ?_⟩, ⟨?_, fun u hu => ?_, fun u hu => ?_, fun k hk => ?_⟩, fun u hu => ?_⟩
  · rw [t37 0 (by decide), t1, t37 2 (by decide), t37 64 (by decide)]
    exact ⟨K.1.1, by omega, K.1.2.2⟩
  · rw [t37 2 (by decide)] at hk
    rw [tn 80 k (by omega), tn 81 k (by omega), tn 82 k (by omega), tn 83 k (by omega), tn 79 k (by omega), t1]
    have w := ho k hk
    exact ⟨w.1, w.2.1, w.2.2.1, w.2.2.2.1, w.2.2.2.2.1, by omega⟩
  · rw [t1] at hu
    rw [yVil_71]
    refine ⟨?_, fun s hs => ?_⟩
    · by_cases e : u = n
      · rw [if_pos e]
        omega
      · rw [if_neg e]
        exact (K.vi (by omega)).1
    · rw [yVil_39 hs]
      by_cases e : u = n
      · rw [if_pos e]
        exact zid_b hx
      · rw [if_neg e]
        exact (K.vi (by omega)).2 s hs
  · rw [t37 64 (by decide)] at hl
    rw [tn 172 l (by omega), tn 173 l (by omega), tn 170 l (by omega), t37 2 (by decide)]
    exact K.2.2.2 l hl
  · rw [t37 2 (by decide)] at hk
    rw [tn 80 k (by omega), tn 81 k (by omega), tn 85 k (by omega), tn 79 k (by omega), t1]
    have w := B.1 k hk
    exact ⟨w.1, w.2.1, w.2.2.1, w.2.2.2.1, by omega⟩
  · rw [t1] at hu
    rw [yVil_66]
    refine ⟨?_, fun s hs => ?_⟩
    · by_cases e : u = n
      · rw [if_pos e]
        exact hz
      · rw [if_neg e]
        exact (B.2.1 u (by omega)).1
    · rw [yVil_39 hs]
      by_cases e : u = n
      · rw [if_pos e]
        exact zid_b hx
      · rw [if_neg e]
        exact (B.2.1 u (by omega)).2 s hs
  · rw [t37 64 (by decide)]
    exact B.2.2.1
  · rw [t37 0 (by decide)]
    exact B.2.2.2.1
  · rw [t1]
    omega
  · rw [t37 2 (by decide)]
    exact B.2.2.2.2.2
  · rw [t1] at hu
    rw [yVil_65]
    by_cases e : u = n
    · rw [if_pos e]
      omega
    · rw [if_neg e]
      exact H u (by omega)
  · rw [t37 0 (by decide)] at hj
    rw [tn 206 j (by omega)]
    exact Z j hj
  · rw [t37 78 (by decide)]
    exact r1
  · rw [t1] at hu
    rw [tn 67 u (by omega), tn 68 u (by omega), t37 78 (by decide), yCn_ag (S := S) (fun w => tn 184 w (by omega))]
    by_cases e : u = n
    · have w := yCn_b (S := S) (w := (u : Int)) (S 37 78).toNat
      rw [e] at w ⊢
      rw [z7, z8]
      omega
    · exact r2 u (by omega)
  · rw [t37 78 (by decide)] at hu
    rw [tn 183 u (by omega), tn 181 u (by omega), t37 2 (by decide)]
    exact r3 u hu
  · rw [t37 2 (by decide)] at hk
    rw [tn 91 k (by omega), tn 92 k (by omega)]
    exact r4 k hk
  · rw [t1] at hu
    rw [yVil_57]
    by_cases e : u = n
    · rw [if_pos e]
    · rw [if_neg e]
      exact P u (by omega)
/-- a house more -/
theorem yHou_n {w x2 x3 x4 x5 : Int} (e : (a ≠ 79 ∧ a ≠ 80 ∧ a ≠ 81 ∧ a ≠ 82 ∧ a ≠ 83 ∧ a ≠ 85) ∧ (a ≠ 37 ∨ i ≠ 2)) : yHou S n w x2 x3 x4 x5 a i = S a i := by
  obtain ⟨⟨e1, e2, e3, e4, e5, e6⟩, e7⟩ := e
  unfold yHou
  rw [zs_if, if_neg (by omega), zs_na e6, zs_na e5, zs_na e4, zs_na e3, zs_na e2, zs_na e1]
theorem yHou_2 {w x2 x3 x4 x5 : Int} : yHou S n w x2 x3 x4 x5 37 2 = n + 1 := zs_eq
theorem yHou_o {w x2 x3 x4 x5 : Int} (h : i ≠ n) (e : a ≠ 37) : yHou S n w x2 x3 x4 x5 a i = S a i := by
  unfold yHou
  rw [zs_na e, zs_ni h, zs_ni h, zs_ni h, zs_ni h, zs_ni h, zs_ni h]
theorem yHou_e {w x2 x3 x4 x5 : Int} : yHou S n w x2 x3 x4 x5 79 n = w ∧ yHou S n w x2 x3 x4 x5 80 n = x2 ∧ yHou S n w x2 x3 x4 x5 81 n = x3 ∧ yHou S n w x2 x3 x4 x5 82 n = x4 ∧ yHou S n w x2 x3 x4 x5 83 n = x5 ∧ yHou S n w x2 x3 x4 x5 85 n = 10 := by
  unfold yHou
  refine ⟨?_, ?_, ?_, ?_, ?_, ?_⟩ <;> simp (disch := decide) only [zs_na, zs_eq]
theorem yIv.hou (V : yIv S) (z1 : S 91 (S 37 2).toNat = 0) (z2 : S 92 (S 37 2).toNat = 0) : yIv (yHouF S x y) := by
  unfold yHouF
  split
  rotate_left 1
  · exact V
  rename_i h
  obtain ⟨h1, h2, h3, h4, h5, h6, h7, h8⟩ := h
  obtain ⟨⟨K, B, H, Z⟩, ⟨r1, r2, r3, r4⟩, P⟩ := V
  have s1 := K.s.2.2.1.1
  have en : (((S 37 2).toNat : Nat) : Int) = S 37 2 := by omega
  generalize hn : (S 37 2).toNat = n at en z1 z2
  have t1 : yHou S n x (y / 1000) (y / 100 % 10) (y / 10 % 10) (y % 10) 37 2 = S 37 2 + 1 := by rw [yHou_2, en]
  have tn : ∀ a i, (a ≠ 79 ∧ a ≠ 80 ∧ a ≠ 81 ∧ a ≠ 82 ∧ a ≠ 83 ∧ a ≠ 85) ∧ (a ≠ 37 ∨ i ≠ 2) → yHou S n x (y / 1000) (y / 100 % 10) (y / 10 % 10) (y % 10) a i = S a i := fun a i e => yHou_n e
  have to : ∀ a i, i ≠ n → a ≠ 37 → yHou S n x (y / 1000) (y / 100 % 10) (y / 10 % 10) (y % 10) a i = S a i := fun a i e f => yHou_o e f
  obtain ⟨e79, e80, e81, e82, e83, e85⟩ := yHou_e (S := S) (n := n) (w := x) (x2 := y / 1000) (x3 := y / 100 % 10) (x4 := y / 10 % 10) (x5 := y % 10)
  generalize hT : yHou S n x (y / 1000) (y / 100 % 10) (y / 10 % 10) (y % 10) = T at t1 tn to e79 e80 e81 e82 e83 e85
  refine ⟨⟨⟨?_, fun k hk => ?_, fun u hu => ?_, fun l hl => ?_⟩, ⟨fun k hk => ?_, fun u hu => ?_, ?_, ?_, ?_, ?_⟩, fun u hu => ?_, fun j hj => ?_⟩, ⟨?_, fun u hu => ?_, fun u hu => ?_, fun k hk => ?_⟩, fun u hu => ?_⟩
  · rw [tn 37 0 (by omega), tn 37 1 (by omega), t1, tn 37 64 (by omega)]
    exact ⟨K.1.1, K.1.2.1, by omega, K.1.2.2.2⟩
  · rw [t1] at hk
    rw [tn 37 1 (by omega)]
    by_cases e : k = n
    · rw [e, e79, e80, e81, e82, e83]
      omega
    · rw [to 80 k e (by decide), to 81 k e (by decide), to 82 k e (by decide), to 83 k e (by decide), to 79 k e (by decide)]
      exact K.ho (by omega)
  · rw [tn 37 1 (by omega)] at hu
    rw [tn 71 u (by omega)]
    exact ⟨(K.vi hu).1, fun s hs => by rw [tn 39 _ (by omega)]; exact (K.vi hu).2 s hs⟩
  · rw [tn 37 64 (by omega)] at hl
    rw [tn 172 l (by omega), tn 173 l (by omega), tn 170 l (by omega), t1]
    have w := K.2.2.2 l hl
    exact ⟨w.1, w.2.1, w.2.2.1, by omega⟩
  · rw [t1] at hk
    rw [tn 37 1 (by omega)]
    by_cases e : k = n
    · rw [e, e79, e80, e81, e85]
      omega
    · rw [to 80 k e (by decide), to 81 k e (by decide), to 85 k e (by decide), to 79 k e (by decide)]
      exact B.1 k (by omega)
  · rw [tn 37 1 (by omega)] at hu
    rw [tn 66 u (by omega)]
    exact ⟨(B.2.1 u hu).1, fun s hs => by rw [tn 39 _ (by omega)]; exact (B.2.1 u hu).2 s hs⟩
  · rw [tn 37 64 (by omega)]
    exact B.2.2.1
  · rw [tn 37 0 (by omega)]
    exact B.2.2.2.1
  · rw [tn 37 1 (by omega)]
    exact B.2.2.2.2.1
  · rw [t1]
    omega
  · rw [tn 37 1 (by omega)] at hu
    rw [tn 65 u (by omega)]
    exact H u hu
  · rw [tn 37 0 (by omega)] at hj
    rw [tn 206 j (by omega)]
    exact Z j hj
  · rw [tn 37 78 (by omega)]
    exact r1
  · rw [tn 37 1 (by omega)] at hu
    rw [tn 67 u (by omega), tn 68 u (by omega), tn 37 78 (by omega), yCn_ag (S := S) (fun w => tn 184 w (by omega))]
    exact r2 u hu
  · rw [tn 37 78 (by omega)] at hu
    rw [tn 183 u (by omega), tn 181 u (by omega), t1]
    have w := r3 u hu
    exact ⟨w.1, w.2.1, by omega⟩
  · rw [t1] at hk
    rw [tn 91 k (by omega), tn 92 k (by omega)]
    by_cases e : k = n
    · rw [e, z1, z2]
      omega
    · exact r4 k (by omega)
  · rw [tn 37 1 (by omega)] at hu
    rw [tn 57 _ (by omega)]
    exact P u hu
/-- weaving -/
theorem yWvS_n (e : (a ≠ 84 ∧ a ≠ 92 ∧ a ≠ 175) ∧ (a < 180 ∨ 185 < a) ∧ (a ≠ 37 ∨ (i ≠ 70 ∧ i ≠ 78))) : yWvS q S k l x a i = S a i := by
  obtain ⟨⟨e1, e2, e3⟩, e4, e5⟩ := e
  unfold yWvS
  rw [zs_if, if_neg (by omega), zs_if, if_neg (by omega), zs_na (by omega), zs_na (by omega), zs_na (by omega), zs_na (by omega), zs_na (by omega), zs_na (by omega), zs_na e3, zs_na e2, zs_na e1, zs_na e1]
theorem yWvS_o (h : i ≠ (S 37 78).toNat) (e : 180 ≤ a ∧ a ≤ 185) : yWvS q S k l x a i = S a i := by
  unfold yWvS
  rw [zs_na (by omega), zs_na (by omega), zs_ni h, zs_ni h, zs_ni h, zs_ni h, zs_ni h, zs_ni h, zs_na (by omega), zs_na (by omega), zs_na (by omega), zs_na (by omega)]
theorem yWvS_92 : yWvS q S k l x 92 i = if i = k then w32 (S 92 k + x) else S 92 i := by
  unfold yWvS
  simp (disch := decide) only [zs_na]
  rw [zs_if]
  by_cases h : i = k
  · rw [if_pos ⟨rfl, h⟩, if_pos h]
  · rw [if_neg (fun z => h z.2), if_neg h]
    simp (disch := decide) only [zs_na]
theorem yWvS_e : yWvS q S k l x 181 (S 37 78).toNat = k ∧ yWvS q S k l x 183 (S 37 78).toNat = x / 2 ∧ yWvS q S k l x 184 (S 37 78).toNat = -1 ∧ yWvS q S k l x 37 78 = S 37 78 + 1 := by
  unfold yWvS
  refine ⟨?_, ?_, ?_, ?_⟩ <;> simp (disch := decide) only [zs_na, zs_eq]
theorem yIv.wv (V : yIv S) : yIv (yWvF q S x y z) := by
  unfold yWvF
  split
  rotate_left 1
  · exact V
  rename_i h
  obtain ⟨⟨h1, h2, h3⟩, h4, h5, h6⟩ := h
  have h7 : z ≤ w32 (S 91 x.toNat - S 92 x.toNat) := by
    unfold yBarF at h6
    split at h6
    · omega
    · split at h6
      · omega
      · split at h6 <;> omega
  have h8 : 0 < S 91 x.toNat := by
    have w : yLbar q S x.toNat y.toNat z = 0 := by
      unfold yBarF at h6
      split at h6
      · exact h6
      · omega
    unfold yLbar at w
    split at w <;> omega
  obtain ⟨W, ⟨r1, r2, r3, r4⟩, P⟩ := V
  have b4 := r4 x.toNat (by omega)
  have w1 : w32 (S 91 x.toNat - S 92 x.toNat) ≤ 40 - S 92 x.toNat := by
    unfold w32 at h7 ⊢
    omega
  have w2 : w32 (S 92 x.toNat + z) = S 92 x.toNat + z := w32_id (by first | omega | exact ⟨by omega, by omega⟩)
  have en : (((S 37 78).toNat : Nat) : Int) = S 37 78 := by omega
  obtain ⟨f1, f3, f4, f7⟩ := yWvS_e (q := q) (S := S) (k := x.toNat) (l := y.toNat) (x := z)
  have tn : ∀ a i, (a ≠ 84 ∧ a ≠ 92 ∧ a ≠ 175) ∧ (a < 180 ∨ 185 < a) ∧ (a ≠ 37 ∨ (i ≠ 70 ∧ i ≠ 78)) → yWvS q S x.toNat y.toNat z a i = S a i := fun a i e => yWvS_n e
  have to : ∀ a i, i ≠ (S 37 78).toNat → 180 ≤ a ∧ a ≤ 185 → yWvS q S x.toNat y.toNat z a i = S a i := fun a i e f => yWvS_o e f
  have t92 : ∀ i, yWvS q S x.toNat y.toNat z 92 i = if i = x.toNat then w32 (S 92 x.toNat + z) else S 92 i := fun i => yWvS_92
  generalize hT : yWvS q S x.toNat y.toNat z = T at f1 f3 f4 f7 tn to t92
  refine ⟨W.ag (fun a i e => tn a i (by unfold yKi yKt at e; omega)), ⟨?_, fun u hu => ?_, fun u hu => ?_, fun k hk => ?_⟩, P.ag (tn 37 1 (by omega)) (fun i => tn 57 i (by omega))⟩
  · rw [f7]
    omega
  · rw [tn 37 1 (by omega)] at hu
    rw [tn 67 u (by omega), tn 68 u (by omega), f7, show (S 37 78 + 1).toNat = (S 37 78).toNat + 1 by omega]
    have c := r2 u hu
    rw [yCn_s, f4, if_neg (show ¬ (-1 : Int) = (u : Int) by omega)]
    have g : ∀ m : Nat, m ≤ (S 37 78).toNat → yCn T (u : Int) m = yCn S (u : Int) m := by
      intro m
      induction m with
      | zero => intro _; rfl
      | succ m ih =>
        intro hm
        rw [yCn_s, yCn_s, to 184 m (by omega) (by omega), ih (by omega)]
    rw [g _ (Nat.le_refl _)]
    exact c
  · rw [f7] at hu
    rw [tn 37 2 (by omega)]
    by_cases e : u = (S 37 78).toNat
    · rw [e, f3, f1]
      omega
    · rw [to 183 u e (by omega), to 181 u e (by omega)]
      exact r3 u (by omega)
  · rw [tn 37 2 (by omega)] at hk
    rw [tn 91 k (by omega), t92]
    by_cases e : k = x.toNat
    · rw [if_pos e, w2, e]
      omega
    · rw [if_neg e]
      exact r4 k hk
/-- bringing -/
theorem yBrS_n (e : a ≠ 67 ∧ a ≠ 68 ∧ a ≠ 75 ∧ a ≠ 184) : yBrS S u v a i = S a i := by
  obtain ⟨e1, e2, e3, e4⟩ := e
  unfold yBrS
  split
  · rw [zs_na e4, zs_na e2]
  · rw [zs_na e4, zs_na e3, zs_na e1]
theorem yBrS_184 : yBrS S u v 184 i = zs S 184 u v 184 i := by
  unfold yBrS
  by_cases h : i = u
  · subst h
    split <;> rw [zs_eq, zs_eq]
  · split
    · rw [zs_ni h, zs_ni h, zs_na (by decide)]
    · rw [zs_ni h, zs_ni h, zs_na (by decide), zs_na (by decide)]
theorem yBrS_o (h : i ≠ v) (e : a = 67 ∨ a = 68) : yBrS S u v a i = S a i := by
  unfold yBrS
  split
  · rw [zs_na (by omega), zs_ni h]
  · rw [zs_na (by omega), zs_na (by omega), zs_ni h]
theorem yBrS_v (h1 : 0 ≤ S 67 v ∧ 0 ≤ S 68 v) (h2 : 0 ≤ S 183 u ∧ S 183 u ≤ 20) (h3 : S 67 v + S 68 v ≤ 5000) : (0 ≤ yBrS S u v 67 v ∧ 0 ≤ yBrS S u v 68 v) ∧ yBrS S u v 67 v + yBrS S u v 68 v ≤ S 67 v + S 68 v + 20 := by
  have w1 : w32 (S 67 v + S 183 u) = S 67 v + S 183 u := w32_id (by first | omega | exact ⟨by omega, by omega⟩)
  have w2 : w32 (S 68 v + S 183 u) = S 68 v + S 183 u := w32_id (by first | omega | exact ⟨by omega, by omega⟩)
  unfold yBrS
  split
  · simp (disch := decide) only [zs_na, zs_eq]
    omega
  · simp (disch := decide) only [zs_na, zs_eq]
    omega
theorem yIv.br (V : yIv S) : yIv (yBrF S x y) := by
  unfold yBrF
  split
  rotate_left 1
  · exact V
  rename_i h
  obtain ⟨h1, h2, h3, h4⟩ := h
  obtain ⟨W, ⟨r1, r2, r3, r4⟩, P⟩ := V
  have tn : ∀ a i, (a ≠ 67 ∧ a ≠ 68 ∧ a ≠ 75 ∧ a ≠ 184) → yBrS S x.toNat y.toNat a i = S a i := fun a i e => yBrS_n e
  refine ⟨W.ag (fun a i e => tn a i (by unfold yKi yKt at e; omega)), ⟨?_, fun u hu => ?_, fun u hu => ?_, fun k hk => ?_⟩, P.ag (tn 37 1 (by omega)) (fun i => tn 57 i (by omega))⟩
  · rw [tn 37 78 (by omega)]
    exact r1
  · rw [tn 37 1 (by omega)] at hu
    rw [tn 37 78 (by omega), yCn_ag (S := zs S 184 x.toNat y.toNat) (fun w => yBrS_184), yCn_br h3 (by omega)]
    have c := r2 u hu
    have cb := yCn_b (S := S) (w := (u : Int)) (S 37 78).toNat
    by_cases e : u = y.toNat
    · have d := yBrS_v (S := S) (u := x.toNat) (v := u) c.1 (r3 x.toNat (by omega)).1 (by omega)
      rw [← e, if_pos ⟨by omega, rfl⟩]
      omega
    · rw [yBrS_o e (Or.inl rfl), yBrS_o e (Or.inr rfl), if_neg (by omega)]
      omega
  · rw [tn 37 78 (by omega)] at hu
    rw [tn 183 u (by omega), tn 181 u (by omega), tn 37 2 (by omega)]
    exact r3 u hu
  · rw [tn 37 2 (by omega)] at hk
    rw [tn 91 k (by omega), tn 92 k (by omega)]
    exact r4 k hk
/-- weeks -/
theorem ySlH_b {B : Int} (h : (0 ≤ S 67 v ∧ 0 ≤ S 68 v) ∧ S 67 v + S 68 v ≤ B) (hB : B ≤ 5000) (hp : 0 < w32 (S 67 v + S 68 v)) : (0 ≤ ySlH S v 67 v ∧ 0 ≤ ySlH S v 68 v) ∧ ySlH S v 67 v + ySlH S v 68 v ≤ B := by
  have w0 : w32 (S 67 v + S 68 v) = S 67 v + S 68 v := w32_id (by first | omega | exact ⟨by omega, by omega⟩)
  have w1 : w32 (S 67 v - 1) = S 67 v - 1 := w32_id (by first | omega | exact ⟨by omega, by omega⟩)
  have w2 : w32 (S 68 v - 1) = S 68 v - 1 := w32_id (by first | omega | exact ⟨by omega, by omega⟩)
  unfold ySlH
  split
  · simp (disch := decide) only [zs_na, zs_eq]
    omega
  · simp (disch := decide) only [zs_na, zs_eq]
    omega
theorem ySlH_o (h : v ≠ u) (e : a = 67 ∨ a = 68) : ySlH S u a v = S a v := by
  unfold ySlH
  split
  · rw [zs_na (by omega), zs_na (by omega), zs_ni h]
  · rw [zs_na (by omega), zs_ni h]
theorem yByd_b {B : Int} (h : (0 ≤ S 67 v ∧ 0 ≤ S 68 v) ∧ S 67 v + S 68 v ≤ B) (hB : B ≤ 5000) : (0 ≤ yByd S k d 67 v ∧ 0 ≤ yByd S k d 68 v) ∧ yByd S k d 67 v + yByd S k d 68 v ≤ B := by
  unfold yByd yBya
  split
  · rename_i e
    have hp : 0 < w32 (S 67 (S 79 k).toNat + S 68 (S 79 k).toNat) := by
      unfold yCho at e
      split at e
      · rename_i f
        exact f.1
      · split at e <;> omega
    rw [zs_na (a := 87) (by decide), zs_na (a := 84) (by decide), zs_na (a := 87) (by decide), zs_na (a := 84) (by decide)]
    by_cases f : v = (S 79 k).toNat
    · rw [← f] at hp ⊢
      exact ySlH_b h hB hp
    · rw [ySlH_o f (Or.inl rfl), ySlH_o f (Or.inr rfl)]
      exact h
  · split
    · rw [zs_na (a := 37) (by decide), zs_na (a := 88) (by decide), zs_na (a := 84) (by decide), ySlM_n (by decide), zs_na (a := 37) (by decide), zs_na (a := 88) (by decide), zs_na (a := 84) (by decide), ySlM_n (by decide)]
      exact h
    · rw [zs_na (a := 86) (by decide), zs_na (a := 86) (by decide)]
      exact h
theorem yBys_b {B : Int} (h : (0 ≤ S 67 v ∧ 0 ≤ S 68 v) ∧ S 67 v + S 68 v ≤ B) (hB : B ≤ 5000) : ∀ k : Nat, (0 ≤ yBys q S k 67 v ∧ 0 ≤ yBys q S k 68 v) ∧ yBys q S k 67 v + yBys q S k 68 v ≤ B
  | 0 => h
  | k + 1 => by
    have ih := yBys_b h hB k
    rw [yBys_s]
    split
    · exact yByd_b ih hB
    · exact ih
theorem yBg2_v : ∀ n : Nat, k < n → yBg2 S n 92 k = 0
  | 0, h => absurd h (Nat.not_lt_zero _)
  | n + 1, h => by
    rw [yBg2_s, zs_if]
    by_cases e : k = n
    · rw [if_pos ⟨rfl, e⟩]
    · rw [if_neg (fun z => e z.2)]
      exact yBg2_v n (by omega)
theorem yBg1_57 (h : 0 < m ∧ m < 157) : ∀ n : Nat, yBg1 S m n 57 (157 * v) = S 57 (157 * v)
  | 0 => rfl
  | n + 1 => by
    rw [yBg1_s, zs_ni (by omega)]
    exact yBg1_57 h n
theorem yWk5_b (e : (a = 37 ∧ (i = 1 ∨ i = 2 ∨ i = 78)) ∨ a = 181 ∨ a = 183 ∨ a = 184 ∨ a = 91 ∨ a = 57) : yWk5 q S a i = S a i := by
  have e3 : yWk3 q S a i = S a i := (yWrA_n (by omega)).trans ((yBys_n (by omega) _).trans (yLyN_n (by omega) _))
  unfold yWk5
  split
  · rw [ySea_n (by omega), e3]
  · exact e3
theorem yIv.wk (V : yIv S) (h : S 37 0 < 156) : yIv (yWkC q S) := by
  obtain ⟨W, ⟨r1, r2, r3, r4⟩, P⟩ := V
  have s0 := W.1.s.1.1
  have t : ∀ a i, (a = 37 ∧ (i = 1 ∨ i = 2 ∨ i = 78)) ∨ a = 181 ∨ a = 183 ∨ a = 184 ∨ a = 91 → yWkC q S a i = S a i := fun a i e => (yWkC_n (by omega)).trans (yWk5_b (by omega))
  have t67 : ∀ a v, a = 67 ∨ a = 68 → yWkC q S a v = yByA q (yLyA S) a v := fun a v e => by
    rw [yWkC_n (by omega)]
    have e3 : yWk3 q S a v = yByA q (yLyA S) a v := yWrA_n (by omega)
    unfold yWk5
    split
    · rw [ySea_n (by omega), e3]
    · exact e3
  refine ⟨W.wk h, ⟨?_, fun u hu => ?_, fun u hu => ?_, fun k hk => ?_⟩, fun u hu => ?_⟩
  · rw [t 37 78 (by omega)]
    exact r1
  · rw [t 37 1 (by omega)] at hu
    have c := r2 u hu
    have cb := yCn_b (S := S) (w := (u : Int)) (S 37 78).toNat
    have l7 : yLyA S 67 u = S 67 u := yLyN_n (by omega) _
    have l8 : yLyA S 68 u = S 68 u := yLyN_n (by omega) _
    rw [t67 67 u (by omega), t67 68 u (by omega), t 37 78 (by omega), yCn_ag (S := S) (fun w => t 184 w (by omega))]
    exact yBys_b (by rw [l7, l8]; exact c) (by omega) _
  · rw [t 37 78 (by omega)] at hu
    rw [t 183 u (by omega), t 181 u (by omega), t 37 2 (by omega)]
    exact r3 u hu
  · rw [t 37 2 (by omega)] at hk
    rw [t 91 k (by omega)]
    refine ⟨(r4 k hk).1, ?_⟩
    have e2 : yWkC q S 92 k = 0 := by
      unfold yWkC yBgA
      refine yBg2_v _ ?_
      rw [zs_ni (by decide), yClo_n (by omega), yWk5_b (by omega)]
      omega
    rw [e2]
    omega
  · rw [t 37 1 (by omega)] at hu
    have e : yWkC q S 57 (157 * u) = yWk5 q S 57 (157 * u) := by
      unfold yWkC yBgA
      have n92 : ∀ (U : zT) (n : Nat), yBg2 U n 57 (157 * u) = U 57 (157 * u) := fun U n => yBg2_n (by decide) _
      rw [n92, yBg1_57 (by rw [zs_eq, yWk5_n (by omega)]; omega), zs_na (by decide), yClo_n (by omega)]
    rw [e, yWk5_b (by omega)]
    exact P u hu
theorem yIv.go (V : yIv S) : ∀ k : Nat, yIv (yGoN q S k)
  | 0 => V
  | k + 1 => by
    rw [yGoN_s]
    split
    · exact (V.go k).wk (by assumption)
    · exact V.go k
theorem yIv.gof (V : yIv S) : yIv (yGoF q S x) := by
  unfold yGoF
  split
  · exact V.go _
  · exact V
end YIW
end
section
/-! class and model alike: all tables -/
section YREL
variable {h h1 g : Hp} {ms ms' : Zms} {c s c' s' : Int} {a i k n : Nat} {x : Int} {q : qT}
/-- what clauses answer now -/
def zQq (h : Hp) : qT := fun c w N => zTl h c w N
theorem mRq.xr (P : mRq q h) (R : zXR ms c s h g) (e : zkMq ms = true) : mRq q g := by
  obtain ⟨p1, p2, p3, p4⟩ := P
  unfold zkMq at e
  simp only [Bool.and_eq_true] at e
  obtain ⟨⟨e1, e2⟩, e3, e4, e5⟩ := e
  have f1 : fld g 37 52 = fld h 37 52 := R.f e5 (by first | decide | exact ⟨by decide, by decide⟩) (by first | decide | exact ⟨by decide, by decide⟩) (by first | decide | exact ⟨by decide, by decide⟩)
  have f2 : fld g 37 53 = fld h 37 53 := R.f e5 (by first | decide | exact ⟨by decide, by decide⟩) (by first | decide | exact ⟨by decide, by decide⟩) (by first | decide | exact ⟨by decide, by decide⟩)
  have f3 : fld g 164 = fld h 164 := R.fa (a := 164) e3 (by decide)
  have f4 : fld g 165 = fld h 165 := R.fa (a := 165) e4 (by decide)
  have r1 : ∀ r : Int, 101 ≤ r → r ≤ 148 → fld g r = fld h r := fun r u v => R.rw e1 (by decide) (by decide) u v
  have r2 : ∀ r : Int, 155 ≤ r → r ≤ 162 → fld g r = fld h r := fun r u v => R.rw e2 (by decide) (by decide) u v
  refine ⟨p1.of r1 r2 f1 p3.2, fun k hk => ?_, by omega, fun c w N c0 c1 => ?_⟩
  · rw [f3, f1]
    exact p2 k (by omega)
  · rw [← p4 c w N c0 c1]
    exact zTl_of r1 r2 f3 f4 f2 (fun k hk => by have := p2 k hk; omega) ⟨c0, c1⟩
def zkCk (ms : Zms) : Bool := zuw ms 101 148 && (zuw ms 155 162 && zqN ms 37 37 52 53)
theorem zCk.xr (K : zCk h) (R : zXR ms c s h g) (e : zkCk ms = true) (b : fld h 37 52 ≤ 8) : zCk g := by
  unfold zkCk at e
  simp only [Bool.and_eq_true] at e
  exact K.of (fun r u v => R.rw e.1 (by decide) (by decide) u v) (fun r u v => R.rw e.2.1 (by decide) (by decide) u v) (R.f e.2.2 (by first | decide | exact ⟨by decide, by decide⟩) (by first | decide | exact ⟨by decide, by decide⟩) (by first | decide | exact ⟨by decide, by decide⟩)) b
theorem zRq_q (P : zShe h) (F : zFo h) (K : zCk h) (e1 : fld h 13 1 = fld h 37 53) (e2 : fld h 14 2 = fld h 37 52) : zRq (zQq h) h := ⟨⟨P, F, K⟩, ⟨e1, e2⟩, fun _ _ _ _ _ => rfl⟩
theorem mRq_q (F : zFo h) (K : zCk h) (e1 : fld h 13 1 = fld h 37 53) (e2 : fld h 14 2 = fld h 37 52) (b : 0 ≤ fld h 37 52 ∧ fld h 37 52 ≤ 8) : mRq (zQq h) h := ⟨K, fun k hk => by have w := (F k (by omega)).1; omega, b, fun _ _ _ _ _ => rfl⟩
theorem zLw_of (P : zRO h) : zLw h := fun a b ha hb => by
  obtain ⟨p1, p2⟩ := P.2.2 a b ha hb
  have e : fld h 7 (8 * a + b) = zLa h a b := rfl
  rw [e, p1]
  by_cases z : a = b
  · rw [if_pos z]
    exact Or.inl ⟨z, rfl⟩
  · rw [if_neg z]
    right
    refine ⟨z, ?_⟩
    by_cases w : fld h (48 + (a : Int)) b = 0
    · rw [if_pos w]
      exact (by first | decide | exact ⟨by decide, by decide⟩)
    · rw [if_neg w]
      have := p2 w
      omega
theorem yF8_of (P : zRO h) : yF8 (yM h) := fun u v hu hv => by
  rw [yM_8 (by omega)]
  exact (P.2.1.1 u v hu hv).1
theorem yM_o (e1 : a ≠ 37) (e2 : a ≠ 186) (hi : ySz a ≤ i) : yM h a i = 0 := by
  unfold yM
  rw [zbq_f e1, zbq_f e2]
  simp only [cond_false]
  cases c4 : Nat.blt i (ySz a) with
  | false => rfl
  | true => exact absurd (Nat.le_of_ble_eq_true c4) (by omega)
theorem y48_of (P : zRO h) : yM h 48 i = yC h 48 i := by
  show _ = (if i < 64 then (if fld h 7 i = 1000000 then 0 else fld h 7 i) else 0)
  by_cases hi : i < 64
  · obtain ⟨v, j, hv, hj, e⟩ : ∃ v j : Nat, v < 8 ∧ j < 8 ∧ i = 8 * v + j := ⟨i / 8, i % 8, by omega, by omega, by omega⟩
    subst e
    obtain ⟨p1, p2⟩ := P.2.2 v j hv hj
    rw [yM_2 (a := 48) (w := 8) rfl hj (by show _ < 64; omega), if_pos hi, show fld h 7 (8 * v + j) = zLa h v j from rfl, p1, show ((48 + v : Nat) : Int) = 48 + (v : Int) by omega]
    by_cases z : v = j
    · rw [if_pos z, if_neg (by decide)]
      by_cases w : fld h (48 + (v : Int)) j = 0
      · exact w
      · exact absurd z (p2 w).1
    · rw [if_neg z]
      by_cases w : fld h (48 + (v : Int)) j = 0
      · rw [if_pos w, if_pos rfl, w]
      · rw [if_neg w, if_neg (by have := p2 w; omega)]
  · rw [if_neg hi]
    exact yM_o (by decide) (by decide) (by show 64 ≤ i; omega)
theorem y98_of (P : ∀ i : Nat, i < 400 → (0 ≤ fld h 10 i ∧ fld h 10 i ≤ 255) ∧ fld h 98 i = i_byt (fld h 10 i)) : yM h 98 i = yC h 98 i := by
  show _ = (if i < 400 then i_byt (fld h 10 i) else 0)
  by_cases hi : i < 400
  · rw [if_pos hi, yM_p (a := 98) (n := 400) rfl hi]
    exact (P i hi).2
  · rw [if_neg hi]
    exact yM_o (by decide) (by decide) (by show 400 ≤ i; omega)
theorem y186_of (P : zAk h) (N : ∀ i : Nat, (i : Int) < fld h 4 2 → fld h (zv h 4 i) 0 = i) (e : fld h 20 2 = fld h 37 86) : yM h 186 i = yC h 186 i := by
  show (if (i : Int) < fld h 37 86 then fld h 186 i else 0) = (if (i : Int) < fld h 20 2 then fld h (zv h 20 i) 0 else 0)
  rw [e]
  by_cases z : (i : Int) < fld h 37 86
  · obtain ⟨p1, p2, p3⟩ := P i (by omega)
    rw [if_pos z, if_pos z, p3, N _ (by omega)]
    omega
  · rw [if_neg z, if_neg z]
/-- the single numbers -/
def y37k (ms : Zms) : Bool := (zqN ms 37 37 38 39 && (zqN ms 37 37 69 72 && zqN ms 37 37 78 79)) && (zqN ms 1 1 1 2 && (zqN ms 34 34 0 3 && zun ms 5))
theorem y37_of (H : yM h = yC h) (R : zXR ms c s h g) (e : y37k ms = true) (s0 : fld g 1 0 = fld g 37 0) (s1 : fld g 2 2 = fld g 37 1) (s2 : fld g 3 2 = fld g 37 2) (s41 : fld g 9 0 = fld g 37 41) (s52 : fld g 14 2 = fld g 37 52) (s53 : fld g 13 1 = fld g 37 53) (s64 : fld g 4 2 = fld g 37 64) (s86 : fld g 20 2 = fld g 37 86) (s96 : fld g 27 0 = fld g 37 96) : yM g 37 i = yC g 37 i := by
  unfold y37k at e
  simp only [Bool.and_eq_true] at e
  obtain ⟨⟨e1, e2, e3⟩, e4, e5, e6⟩ := e
  cases c2 : ySc i with
  | false =>
    show cond (ySc i) _ _ = cond (ySc i) _ _
    rw [c2]
    rfl
  | true =>
    have key : ∀ (r j : Nat), ySr i = (r, j) → fld g 37 i = fld h 37 i → fld g (r : Int) j = fld h (r : Int) j → yM g 37 i = yC g 37 i := fun r j er f1 f2 => by
      have w := congrFun (congrFun H 37) i
      rw [yM_s c2, yC_s c2, er] at w
      rw [yM_s c2, yC_s c2, er]
      exact f1.trans (w.trans f2.symm)
    rcases ySc_of c2 with z | rfl | rfl | rfl | rfl | rfl | z | rfl | rfl | rfl
    · have z : i = 0 ∨ i = 1 ∨ i = 2 := by omega
      rcases z with rfl | rfl | rfl
      · exact s0.symm
      · exact s1.symm
      · exact s2.symm
    · exact key 1 1 rfl (R.f e1 (r := 37) (by first | decide | exact ⟨by decide, by decide⟩) (by first | decide | exact ⟨by decide, by decide⟩) (by first | decide | exact ⟨by decide, by decide⟩)) (R.f e4 (r := 1) (by first | decide | exact ⟨by decide, by decide⟩) (by first | decide | exact ⟨by decide, by decide⟩) (by first | decide | exact ⟨by decide, by decide⟩))
    · exact s41.symm
    · exact s52.symm
    · exact s53.symm
    · exact s64.symm
    · have z : i = 69 ∨ i = 70 ∨ i = 71 := by omega
      rcases z with rfl | rfl | rfl
      · exact key 34 0 rfl (R.f e2 (r := 37) (by first | decide | exact ⟨by decide, by decide⟩) (by first | decide | exact ⟨by decide, by decide⟩) (by first | decide | exact ⟨by decide, by decide⟩)) (R.f e5 (r := 34) (by first | decide | exact ⟨by decide, by decide⟩) (by first | decide | exact ⟨by decide, by decide⟩) (by first | decide | exact ⟨by decide, by decide⟩))
      · exact key 34 1 rfl (R.f e2 (r := 37) (by first | decide | exact ⟨by decide, by decide⟩) (by first | decide | exact ⟨by decide, by decide⟩) (by first | decide | exact ⟨by decide, by decide⟩)) (R.f e5 (r := 34) (by first | decide | exact ⟨by decide, by decide⟩) (by first | decide | exact ⟨by decide, by decide⟩) (by first | decide | exact ⟨by decide, by decide⟩))
      · exact key 34 2 rfl (R.f e2 (r := 37) (by first | decide | exact ⟨by decide, by decide⟩) (by first | decide | exact ⟨by decide, by decide⟩) (by first | decide | exact ⟨by decide, by decide⟩)) (R.f e5 (r := 34) (by first | decide | exact ⟨by decide, by decide⟩) (by first | decide | exact ⟨by decide, by decide⟩) (by first | decide | exact ⟨by decide, by decide⟩))
    · exact key 5 2 rfl (R.f e3 (r := 37) (by first | decide | exact ⟨by decide, by decide⟩) (by first | decide | exact ⟨by decide, by decide⟩) (by first | decide | exact ⟨by decide, by decide⟩)) (R.vz (A := 5) (by decide) e6)
    · exact s86.symm
    · exact s96.symm
/-- alike behind both calls, where few tables are touched -/
theorem yEq_t (H : yM h = yC h) (C : CI h) (R : zXR ms c s h g) (ex : List Nat) (e1 : yXo ms = true) (eA : (List.range 366).all (fun a => ex.contains a || (Nat.beq (yK a) 8 || (yCf ms a && yTf ms a))) = true) (b86 : fld h 37 86 ≤ 6) (hx : ∀ a i, ex.contains a = true → yM g a i = yC g a i) : yM g = yC g := by
  funext a i
  by_cases e : yK a = 8
  · exact (yC_8 e).symm
  cases c0 : ex.contains a with
  | true => exact hx a i c0
  | false =>
    have t : 366 ≤ a ∨ (yCf ms a = true ∧ yTf ms a = true) := by
      by_cases w : a < 366
      · right
        have q := List.all_eq_true.mp eA a (List.mem_range.mpr w)
        rw [c0, zbq_f e] at q
        simp only [Bool.false_or, Bool.and_eq_true] at q
        exact q
      · exact Or.inl (by omega)
    rw [yC_zx C R e1 (t.imp id (fun w => w.1)) e, yM_zx R (t.imp id (fun w => w.2)) b86, H]
theorem yEq_0 (H : yM h = yC h) (C : CI h) (R : zXR ms c s h g) (e1 : yXo ms = true) (eA : (List.range 366).all (fun a => ([] : List Nat).contains a || (Nat.beq (yK a) 8 || (yCf ms a && yTf ms a))) = true) (b86 : fld h 37 86 ≤ 6) : yM g = yC g := yEq_t H C R [] e1 eA b86 (fun a i z => by cases z)
/-- the TEXT, the roads, lots told -/
theorem yEq_g (H : yM h = yC h) (C : CI h) (R : zXR ms c s h g) (e1 : yXo ms = true) (eA : (List.range 366).all (fun a => [37, 48, 98, 186].contains a || (Nat.beq (yK a) 8 || (yCf ms a && yTf ms a))) = true) (e37 : y37k ms = true) (b86 : fld h 37 86 ≤ 6) (RO : zRO g) (TX : ∀ i : Nat, i < 400 → (0 ≤ fld g 10 i ∧ fld g 10 i ≤ 255) ∧ fld g 98 i = i_byt (fld g 10 i)) (AK : zAk g) (N : ∀ i : Nat, (i : Int) < fld g 4 2 → fld g (zv g 4 i) 0 = i) (s0 : fld g 1 0 = fld g 37 0) (s1 : fld g 2 2 = fld g 37 1) (s2 : fld g 3 2 = fld g 37 2) (s41 : fld g 9 0 = fld g 37 41) (s52 : fld g 14 2 = fld g 37 52) (s53 : fld g 13 1 = fld g 37 53) (s64 : fld g 4 2 = fld g 37 64) (s86 : fld g 20 2 = fld g 37 86) (s96 : fld g 27 0 = fld g 37 96) : yM g = yC g := yEq_t H C R [37, 48, 98, 186] e1 eA b86 (fun a i hc => by
  rw [List.contains_iff_mem] at hc
  simp only [List.mem_cons, List.not_mem_nil, or_false] at hc
  rcases hc with rfl | rfl | rfl | rfl
  · exact y37_of H R e37 s0 s1 s2 s41 s52 s53 s64 s86 s96
  · exact y48_of RO
  · exact y98_of TX
  · exact y186_of AK N s86)
/-- a sheet put in force -/
theorem yEq_f (H : yM h = yC h) (C : CI h) (R : zXR ms c s h g) (e1 : yXo ms = true) (eA : (List.range 366).all (fun a => [37, 164, 165].contains a || (Nat.beq (yK a) 8 || (yCf ms a && yTf ms a))) = true) (e37 : y37k ms = true) (b86 : fld h 37 86 ≤ 6) (SH : zShe g) (FO : zFo g) {va vb vz : Int} {m : Nat} (hm : m = (fld h 13 1).toNat) (hc : fld g 13 1 = fld h 13 1 + 1) (b0 : 0 ≤ fld h 13 1 ∧ fld h 13 1 < 12) (m1 : fld g 164 = zu (fld h 164) m va) (m2 : fld g 165 = zu (fld h 165) m vb) (x3 : fld g 16 = zu (fld h 16) m vz) (s0 : fld g 1 0 = fld g 37 0) (s1 : fld g 2 2 = fld g 37 1) (s2 : fld g 3 2 = fld g 37 2) (s41 : fld g 9 0 = fld g 37 41) (s52 : fld g 14 2 = fld g 37 52) (s53 : fld g 13 1 = fld g 37 53) (s64 : fld g 4 2 = fld g 37 64) (s86 : fld g 20 2 = fld g 37 86) (s96 : fld g 27 0 = fld g 37 96) : yM g = yC g := yEq_t H C R [37, 164, 165] e1 eA b86 (fun a i hc' => by
  rw [List.contains_iff_mem] at hc'
  simp only [List.mem_cons, List.not_mem_nil, or_false] at hc'
  rcases hc' with rfl | rfl | rfl
  · exact y37_of H R e37 s0 s1 s2 s41 s52 s53 s64 s86 s96
  · show _ = (if (i : Int) < fld g 13 1 then fld g (fld g 15 i) 0 else 0)
    by_cases z : (i : Int) < fld g 13 1
    · obtain ⟨⟨p0, p1⟩, p2, -, -⟩ := FO i z
      have w := (SH (fld g 164 i).toNat (by omega)).1
      have ye : yM g 164 i = fld g 164 i := yM_p (a := 164) (n := 12) rfl (by omega)
      rw [if_pos z, p2, w, ye]
      omega
    · rw [if_neg z]
      by_cases y : i < 12
      · have hh := congrFun (congrFun H 164) i
        have ch : yC h 164 i = if (i : Int) < fld h 13 1 then fld h (fld h 15 i) 0 else 0 := rfl
        rw [ch, if_neg (by omega), yM_p (a := 164) (n := 12) rfl y] at hh
        rw [yM_p (a := 164) (n := 12) rfl y, show fld g ((164 : Nat) : Int) i = zu (fld h 164) m va i from congrFun m1 i, zu_ne (by omega)]
        exact hh
      · exact yM_o (by decide) (by decide) (by show 12 ≤ i; omega)
  · show _ = (if i < 12 then fld g 16 i else 0)
    by_cases y : i < 12
    · rw [if_pos y, yM_p (a := 165) (n := 12) rfl y]
      by_cases z : (i : Int) < fld g 13 1
      · exact (FO i z).2.2.1.symm
      · have hh := congrFun (congrFun H 165) i
        have ch : yC h 165 i = if i < 12 then fld h 16 i else 0 := rfl
        rw [ch, if_pos y, yM_p (a := 165) (n := 12) rfl y] at hh
        rw [show fld g ((165 : Nat) : Int) i = zu (fld h 165) m vb i from congrFun m2 i, zu_ne (by omega), congrFun x3 i, zu_ne (by omega)]
        exact hh
    · rw [if_neg y]
      exact yM_o (by decide) (by decide) (by show 12 ≤ i; omega))
/-- numbers and references behind such calls -/
theorem yR_g (J : yR h) (C : CI h) (R : zXR ms c s h g) (e : yXo ms = true) (SH : zShe g) (AK : zAk g) (FO : zFo g) (e4 : fld g 20 2 = fld g 37 86) : yR g := by
  unfold yXo at e
  simp only [Bool.and_eq_true] at e
  obtain ⟨⟨e2, e3, e4, e5⟩, -⟩ := e
  have L : ∀ A : Nat, (A = 2 ∨ A = 3 ∨ A = 4 ∨ A = 5) → A ∈ zLis ∧ fld g A 2 = fld h A 2 ∧ ∀ i : Nat, (i : Int) < fld h A 2 → zv g A i = zv h A i := by
    intro A hA
    rcases hA with rfl | rfl | rfl | rfl
    · exact ⟨by decide, R.vz (A := 2) (by decide) e2, fun i hi => R.v C (A := 2) (by decide) e2 hi⟩
    · exact ⟨by decide, R.vz (A := 3) (by decide) e3, fun i hi => R.v C (A := 3) (by decide) e3 hi⟩
    · exact ⟨by decide, R.vz (A := 4) (by decide) e4, fun i hi => R.v C (A := 4) (by decide) e4 hi⟩
    · exact ⟨by decide, R.vz (A := 5) (by decide) e5, fun i hi => R.v C (A := 5) (by decide) e5 hi⟩
  have F : ∀ (A j : Nat), A ∈ zLis → zfin (zkd A) j = true → ∀ i : Nat, (i : Int) < fld h A 2 → fld g (zv h A i) j = fld h (zv h A i) j := by
    intro A j hA hf i hi
    obtain ⟨h1, n, h2⟩ := zv_s C hA hi
    exact R.2.2.1 _ _ n j h1 h2 hf
  obtain ⟨j1, j2, j3, j4, j5, j6⟩ := J
  refine ⟨fun A hA i hi => ?_, fun A j B hB i hi => ?_, fun i hi => ?_, fun i hi => ?_, fun i hi => ?_, fun i k hi hk e => ?_⟩
  · by_cases z : A = 14
    · subst z
      exact (SH i hi).1
    · obtain ⟨m, l, v⟩ := L A (by omega)
      rw [l] at hi
      rw [v i hi, F A 0 m (by unfold zkd; rcases (show A = 2 ∨ A = 3 ∨ A = 4 by omega) with rfl | rfl | rfl <;> rfl) i hi]
      exact j1 A hA i hi
  · obtain ⟨m, l, v⟩ := L A (by omega)
    obtain ⟨m', l', v'⟩ := L B (by omega)
    rw [l] at hi
    obtain ⟨w, w1, w2⟩ := j2 A j B hB i hi
    refine ⟨w, by rw [l']; exact w1, ?_⟩
    rw [v i hi, F A j m (by unfold zkd; rcases hB with ⟨rfl, rfl, -⟩ | ⟨rfl, rfl, -⟩ | ⟨rfl, rfl, -⟩ | ⟨rfl, rfl, -⟩ <;> rfl) i hi, v' w w1]
    exact w2
  · obtain ⟨p1, p2, p3⟩ := AK i hi
    exact ⟨(fld g 186 i).toNat, by omega, p3⟩
  · obtain ⟨⟨p0, p1⟩, p2, -, -⟩ := FO i hi
    exact ⟨(fld g 164 i).toNat, by omega, p2⟩
  · obtain ⟨m, l, v⟩ := L 2 (by omega)
    have l : fld g 2 2 = fld h 2 2 := l
    rw [l] at hi
    rw [v i hi, F 2 1 m rfl i hi]
    exact j5 i hi
  · obtain ⟨m, l, v⟩ := L 5 (by omega)
    have l : fld g 5 2 = fld h 5 2 := l
    rw [l] at hi hk
    rw [v i hi, v k hk] at e
    exact j6 i k hi hk e
/-- the bounds behind such calls -/
def yKl : List Nat := [39, 71, 79, 80, 81, 82, 83, 170, 172, 173, 85, 66, 65, 206, 67, 68, 181, 183, 184, 91, 92, 57]
def yIk (ms : Zms) : Bool := yKl.all (fun a => yTf ms a) && (zqN ms 37 37 0 3 && (zqN ms 37 37 64 65 && zqN ms 37 37 78 79))
theorem yIv.gr (V : yIv (yM h)) (R : zXR ms c s h g) (e : yIk ms = true) (b86 : fld h 37 86 ≤ 6) : yIv (yM g) := by
  unfold yIk at e
  simp only [Bool.and_eq_true] at e
  obtain ⟨e0, e1, e2, e3⟩ := e
  refine V.ag (fun a i ha => ?_)
  by_cases z : a = 37
  · subst z
    have w : i ≤ 2 ∨ i = 64 ∨ i = 78 := by unfold yKj yKi yKb yKt at ha; omega
    have sc : ySc i = true := by
      rcases (show i = 0 ∨ i = 1 ∨ i = 2 ∨ i = 64 ∨ i = 78 by omega) with rfl | rfl | rfl | rfl | rfl <;> rfl
    rw [yM_s sc, yM_s sc]
    rcases w with w | w | w
    · exact R.f e1 (r := 37) (by first | decide | exact ⟨by decide, by decide⟩) (by first | omega | exact ⟨by omega, by omega⟩) (by first | decide | exact ⟨by decide, by decide⟩)
    · exact R.f e2 (r := 37) (by first | decide | exact ⟨by decide, by decide⟩) (by first | omega | exact ⟨by omega, by omega⟩) (by first | decide | exact ⟨by decide, by decide⟩)
    · exact R.f e3 (r := 37) (by first | decide | exact ⟨by decide, by decide⟩) (by first | omega | exact ⟨by omega, by omega⟩) (by first | decide | exact ⟨by decide, by decide⟩)
  · have m : a ∈ yKl := by
      unfold yKl
      simp only [List.mem_cons, List.not_mem_nil, or_false]
      unfold yKj yKi yKb yKt at ha
      omega
    exact yM_zx R (Or.inr (List.all_eq_true.mp e0 a m)) b86
/-- what class and model have alike, with all tables -/
def wD (h : Hp) : Prop := yM h = yC h ∧ yR h ∧ yIv (yM h) ∧ zCk h ∧ zPd h
end YREL
end
section
/-! all tables as both constructors leave them -/
section YST
variable {h : Hp} {a i r : Nat}
def wkZ (h : Hp) (r : Nat) : Bool := match cel h (r : Int) with
  | some (_, l) => l.all (fun x => decide (x = 0))
  | none => false
theorem wkZ_ok (e : wkZ h r = true) : ∀ q : Nat, fld h (r : Int) q = 0 := by
  intro q
  unfold wkZ at e
  cases hc : cel h (r : Int) with
  | none => rw [hc] at e; cases e
  | some z =>
    obtain ⟨k, l⟩ := z
    rw [hc] at e
    dsimp only at e
    rw [fld_of hc, List.getD_eq_getElem?_getD]
    by_cases hq : q < l.length
    · rw [List.getElem?_eq_getElem hq]
      exact of_decide_eq_true (List.all_eq_true.mp e _ (List.getElem_mem hq))
    · rw [List.getElem?_eq_none (by omega)]
      rfl
/-- the model's rows that stay, and the class's -/
def wkZr : List (Nat × Nat) := [(10, 1), (16, 1), (28, 3), (35, 1), (39, 8), (48, 8), (57, 8), (65, 34), (164, 2), (170, 6), (180, 7), (206, 156), (363, 3)]
def wkD (h : Hp) : Bool := wkZr.all (fun e => (List.range e.2).all (fun j => wkZ h (e.1 + j))) && ((List.range 64).all (fun i => decide (fld h 7 i = 0) || decide (fld h 7 i = 1000000)) && ([0, 1, 2, 38, 41, 52, 53, 64, 69, 70, 71, 78, 86, 96].all (fun i => decide (fld h 37 i = 0) && decide (fld h ((ySr i).1 : Nat) (ySr i).2 = 0)) && ([2, 3, 4, 5, 14, 20].all (fun A => decide (fld h ((A : Nat) : Int) 2 = 0)) && decide (fld h 13 1 = 0))))
theorem wkD_ok (e : wkD h = true) : wD h := by
  unfold wkD at e
  simp only [Bool.and_eq_true, List.all_eq_true] at e
  obtain ⟨e1, e2, e3, e4, e5⟩ := e
  have e5 := of_decide_eq_true e5
  have Z : ∀ b n : Nat, (b, n) ∈ wkZr → ∀ (p : Nat) (q : Nat), b ≤ p → p < b + n → fld h (p : Int) q = 0 := fun b n m p q h1 h2 => by
    have w := e1 (b, n) m (p - b) (List.mem_range.mpr (by omega))
    have w := wkZ_ok w q
    rwa [show b + (p - b) = p by omega] at w
  have L : ∀ A : Nat, A ∈ [2, 3, 4, 5, 14, 20] → fld h (A : Int) 2 = 0 := fun A m => of_decide_eq_true (e4 A m)
  have l2 : fld h 2 2 = 0 := L 2 (by decide)
  have l3 : fld h 3 2 = 0 := L 3 (by decide)
  have l4 : fld h 4 2 = 0 := L 4 (by decide)
  have l5 : fld h 5 2 = 0 := L 5 (by decide)
  have l14 : fld h 14 2 = 0 := L 14 (by decide)
  have l20 : fld h 20 2 = 0 := L 20 (by decide)
  have S : ∀ i, i ∈ [0, 1, 2, 38, 41, 52, 53, 64, 69, 70, 71, 78, 86, 96] → fld h 37 i = 0 ∧ fld h ((ySr i).1 : Nat) (ySr i).2 = 0 := fun i m => by
    have w := e3 i m
    exact ⟨of_decide_eq_true w.1, of_decide_eq_true w.2⟩
  have sM : ∀ i, ySc i = true → i ∈ [0, 1, 2, 38, 41, 52, 53, 64, 69, 70, 71, 78, 86, 96] := fun i c => by
    simp only [List.mem_cons, List.not_mem_nil, or_false]
    have := ySc_of c
    omega
  have m86 : fld h 37 86 = 0 := (S 86 (by decide)).1
  have zM : ∀ a i, yK a ≠ 8 → a ≠ 37 → yM h a i = 0 := by
    intro a i h8 h37
    by_cases h186 : a = 186
    · rw [h186, yM_186, if_neg (by omega)]
    by_cases hi : i < ySz a
    · have w := yM_wh hi
      have key : fld h ((a + i / yWd a : Nat) : Int) (i % yWd a) = 0 := by
        have n8 : a ≠ 8 := fun z => h8 (by rw [z]; rfl)
        have n101 : a ≠ 101 := fun z => h8 (by rw [z]; rfl)
        have n155 : a ≠ 155 := fun z => h8 (by rw [z]; rfl)
        have c : (39 ≤ a + i / yWd a ∧ a + i / yWd a < 47) ∨ (48 ≤ a + i / yWd a ∧ a + i / yWd a < 56) ∨ (57 ≤ a + i / yWd a ∧ a + i / yWd a < 65) ∨ (65 ≤ a + i / yWd a ∧ a + i / yWd a < 99) ∨ (164 ≤ a + i / yWd a ∧ a + i / yWd a < 166) ∨ (170 ≤ a + i / yWd a ∧ a + i / yWd a < 176) ∨ (180 ≤ a + i / yWd a ∧ a + i / yWd a < 187) ∨ (206 ≤ a + i / yWd a ∧ a + i / yWd a < 362) ∨ (363 ≤ a + i / yWd a ∧ a + i / yWd a < 366) ∨ (166 ≤ a ∧ a < 170 ∧ ySz a = 0) ∨ (176 ≤ a ∧ a < 180 ∧ ySz a = 0) := by
          rcases w with ⟨w1, w2, ⟨w31, w32, w33, w34, w35, w36⟩, w4, w5, w6⟩ | ⟨w1, w2, w3, w4⟩
          · rcases w1 with z | z | z | z | z | z
            · have y := w31 z
              clear w31 w32 w33 w34 w35 w36 w6
              omega
            · have y := w32 z
              clear w31 w32 w33 w34 w35 w36 w6
              omega
            · have y := w33 z
              clear w31 w32 w33 w34 w35 w36 w6
              omega
            · exact absurd z n101
            · exact absurd z n155
            · have y := w36 z
              clear w31 w32 w33 w34 w35 w36 w6
              omega
          · rcases (show (65 ≤ a ∧ a < 99) ∨ (164 ≤ a ∧ a < 166) ∨ (166 ≤ a ∧ a < 170) ∨ (170 ≤ a ∧ a < 176) ∨ (176 ≤ a ∧ a < 180) ∨ (180 ≤ a ∧ a < 187) ∨ (363 ≤ a ∧ a < 366) by omega) with z | z | z | z | z | z | z
            · omega
            · omega
            · have y : a = 166 ∨ a = 167 ∨ a = 168 ∨ a = 169 := by omega
              have : ySz a = 0 := by rcases y with rfl | rfl | rfl | rfl <;> rfl
              omega
            · omega
            · have y : a = 176 ∨ a = 177 ∨ a = 178 ∨ a = 179 := by omega
              have : ySz a = 0 := by rcases y with rfl | rfl | rfl | rfl <;> rfl
              omega
            · omega
            · omega
        clear w
        rcases c with c | c | c | c | c | c | c | c | c | c | c
        · exact Z 39 8 (by decide) _ _ c.1 (by omega)
        · exact Z 48 8 (by decide) _ _ c.1 (by omega)
        · exact Z 57 8 (by decide) _ _ c.1 (by omega)
        · exact Z 65 34 (by decide) _ _ c.1 (by omega)
        · exact Z 164 2 (by decide) _ _ c.1 (by omega)
        · exact Z 170 6 (by decide) _ _ c.1 (by omega)
        · exact Z 180 7 (by decide) _ _ c.1 (by omega)
        · exact Z 206 156 (by decide) _ _ c.1 (by omega)
        · exact Z 363 3 (by decide) _ _ c.1 (by omega)
        · omega
        · omega
      unfold yM
      rw [zbq_f h37, zbq_f h186, blt_t hi]
      simp only [cond_false, cond_true]
      rw [key]
      cases c5 : Nat.beq a 93 with
      | false => rfl
      | true =>
        have hb := Nat.eq_of_beq_eq_true c5
        subst hb
        have key : fld h ((93 + i / 0 : Nat) : Int) (i % 0) = 0 := key
        rw [Nat.div_zero, Nat.mod_zero] at key
        show w32 _ = 0
        rw [show fld h 93 i = 0 from key]
        rfl
    · exact yM_o h37 h186 (by omega)
  have zC : ∀ a i, yK a ≠ 8 → a ≠ 37 → yC h a i = 0 := by
    intro a i h8 h37
    unfold yC
    split
    · rename_i hK
      exact absurd (yK_1 hK) h37
    · exact if_neg (fun z => by have := z.2; omega)
    · by_cases q : i < 64
      · rw [if_pos q]
        have w := e2 i (List.mem_range.mpr q)
        rw [Bool.or_eq_true, decide_eq_true_eq, decide_eq_true_eq] at w
        split <;> omega
      · rw [if_neg q]
    · exact if_neg (fun z => by have := z.2.1; omega)
    · by_cases q : i < 400
      · rw [if_pos q, show fld h 10 i = 0 from Z 10 1 (by decide) 10 i (by decide) (by decide)]
        rfl
      · rw [if_neg q]
    · exact if_neg (by omega)
    · exact if_neg (by omega)
    · rename_i hK
      exact absurd hK h8
    · rename_i hK
      by_cases q : i < ySz a
      · rw [if_pos q]
        rcases yK_9 hK with rfl | rfl | rfl | rfl | rfl
        · exact Z 16 1 (by decide) 16 i (by decide) (by decide)
        · exact Z 35 1 (by decide) 35 i (by decide) (by decide)
        · exact Z 28 3 (by decide) 28 i (by decide) (by decide)
        · exact Z 28 3 (by decide) 29 i (by decide) (by decide)
        · exact Z 28 3 (by decide) 30 i (by decide) (by decide)
      · rw [if_neg q]
    · rename_i hK
      refine if_neg ?_
      rcases yK_10 hK with ⟨z, -⟩ | ⟨z, -⟩ | ⟨z, -⟩ | ⟨z, -⟩ <;> rw [z]
      · show ¬ (i : Int) < fld h 3 2
        omega
      · show ¬ (i : Int) < fld h 4 2
        omega
      · show ¬ (i : Int) < fld h 5 2
        omega
      · show ¬ (i : Int) < fld h 5 2
        omega
    · rename_i hK
      refine if_neg ?_
      rcases (yF_of hK).2.2 with z | z | z | z <;> rw [z]
      · show ¬ (i : Int) < fld h 2 2
        omega
      · show ¬ (i : Int) < fld h 3 2
        omega
      · show ¬ (i : Int) < fld h 4 2
        omega
      · show ¬ (i : Int) < fld h 5 2
        omega
    · rfl
  have H : yM h = yC h := by
    funext a i
    by_cases h8 : yK a = 8
    · exact (yC_8 h8).symm
    by_cases h37 : a = 37
    · subst h37
      cases c : ySc i with
      | false =>
        show cond (ySc i) _ _ = cond (ySc i) _ _
        rw [c]
        rfl
      | true =>
        have w := S i (sM i c)
        rw [yM_s c, yC_s c, w.1, w.2]
    · rw [zM a i h8 h37, zC a i h8 h37]
  have m0 : yM h 37 0 = 0 := (S 0 (by decide)).1
  have m1 : yM h 37 1 = 0 := (S 1 (by decide)).1
  have m2 : yM h 37 2 = 0 := (S 2 (by decide)).1
  have m64 : yM h 37 64 = 0 := (S 64 (by decide)).1
  have m78 : yM h 37 78 = 0 := (S 78 (by decide)).1
  have m52 : fld h 37 52 = 0 := (S 52 (by decide)).1
  refine ⟨H, ⟨fun A hA j hj => ?_, fun A j B hB k hk => ?_, fun j hj => by omega, fun j hj => by omega, fun j hj => by omega, fun j k hj => by omega⟩, ⟨⟨⟨?_, fun k hk => by omega, fun v hv => by omega, fun l hl => by omega⟩, ⟨fun k hk => by omega, fun v hv => by omega, by omega, by omega, by omega, by omega⟩, fun v hv => by omega, fun j hj => zM 206 j (by decide) (by decide)⟩, ⟨by omega, fun v hv => by omega, fun u hu => by omega, fun k hk => by omega⟩, fun v hv => by omega⟩, fun s c s0 s1 => by omega, fun v k hv => by omega⟩
  · exfalso
    rcases hA with rfl | rfl | rfl | rfl
    · have hj : (j : Int) < fld h 2 2 := hj
      omega
    · have hj : (j : Int) < fld h 3 2 := hj
      omega
    · have hj : (j : Int) < fld h 4 2 := hj
      omega
    · have hj : (j : Int) < fld h 14 2 := hj
      omega
  · exfalso
    rcases hB with ⟨rfl, -⟩ | ⟨rfl, -⟩ | ⟨rfl, -⟩ | ⟨rfl, -⟩
    · have hk : (k : Int) < fld h 3 2 := hk
      omega
    · have hk : (k : Int) < fld h 4 2 := hk
      omega
    · have hk : (k : Int) < fld h 5 2 := hk
      omega
    · have hk : (k : Int) < fld h 5 2 := hk
      omega
  · omega
/-- bounds of the model's rows, everywhere -/
theorem yM_185 (I : zI h) (i : Nat) : 0 ≤ yM h 185 i ∧ yM h 185 i ≤ 1 := by
  by_cases q : i < 200
  · rw [yM_p (a := 185) (n := 200) rfl q]
    exact I.b (a1 := 185) (a2 := 185) (j1 := 0) (j2 := 200) (lo := 0) (hi := 1) (by decide +kernel) (r := 185) (j := i) (by decide) (by decide) (by omega) (by omega)
  · rw [yM_o (by decide) (by decide) (by show 200 ≤ i; omega)]
    exact (by first | decide | exact ⟨by decide, by decide⟩)
theorem yM_74 (I : zI h) (i : Nat) : 0 ≤ yM h 74 i ∧ yM h 74 i ≤ 9999 := by
  by_cases q : i < 8
  · rw [yM_p (a := 74) (n := 8) rfl q]
    exact I.b (a1 := 74) (a2 := 74) (j1 := 0) (j2 := 8) (lo := 0) (hi := 9999) (by decide +kernel) (r := 74) (j := i) (by decide) (by decide) (by omega) (by omega)
  · rw [yM_o (by decide) (by decide) (by show 8 ≤ i; omega)]
    exact (by first | decide | exact ⟨by decide, by decide⟩)
theorem yM_83 (I : zI h) (i : Nat) : 0 ≤ yM h 83 i ∧ yM h 83 i ≤ 9 := by
  by_cases q : i < 20
  · rw [yM_p (a := 83) (n := 20) rfl q]
    exact I.b (a1 := 83) (a2 := 83) (j1 := 0) (j2 := 20) (lo := 0) (hi := 9) (by decide +kernel) (r := 83) (j := i) (by decide) (by decide) (by omega) (by omega)
  · rw [yM_o (by decide) (by decide) (by show 20 ≤ i; omega)]
    exact (by first | decide | exact ⟨by decide, by decide⟩)
end YST
end
section
/-! the BEST heap: pure -/
section YBST
variable {h g h' h1 : Hp} {S T U : zT} {b c d x : Int} {a i j k u v n e : Nat}
def yBt (b k : Int) : Int := i_and (i_shr b k) 1
/-- a gift is given: to house b, of village c, of kind d -/
def yGv (S : zT) (b c d : Int) : zT := if d = 0 then zs S 80 b.toNat (min (S 80 b.toNat + 1) 5) else if d = 1 then zs S 81 b.toNat (min (S 81 b.toNat + 1) 9) else zs S 66 c.toNat (min (S 66 c.toNat + 5) 9999)
def yG1 (S : zT) (k : Nat) : zT := yGv S (S 364 k) (S 79 (S 364 k).toNat) (S 365 k)
def yGN (S : zT) (b : Int) : Nat → zT
  | 0 => S
  | k + 1 => if yBt b k = 0 then yGN S b k else yG1 (yGN S b k) k
def yCo (S : zT) (b : Int) : Nat → Int
  | 0 => 0
  | k + 1 => yCo S b k + (if yBt b k = 0 then 0 else S 363 k)
/-- what a heap costs, what is spun with it -/
def yCst (S : zT) (b : Int) : Int := yCo S b (S 37 96).toNat
def ySpn (S : zT) (b : Int) : Int := yTo (yGN S b (S 37 96).toNat) (yEp S) (S 37 2).toNat
/-- the best of the heaps up to n: which, and what is spun -/
def yBN (S : zT) (c : Int) : Nat → Int × Int
  | 0 => (0, ySpn S 0)
  | n + 1 => if yCst S ((n : Int) + 1) ≤ c ∧ ((yBN S c n).2 < ySpn S ((n : Int) + 1) ∨ (ySpn S ((n : Int) + 1) = (yBN S c n).2 ∧ yCst S ((n : Int) + 1) < yCst S (yBN S c n).1)) then ((n : Int) + 1, ySpn S ((n : Int) + 1)) else yBN S c n
def yBst (S : zT) (c : Int) : Int × Int := yBN S c ((i_shl 1 (S 37 96)).toNat - 1)
/-- gifts that can be given -/
def yGf (S : zT) : Prop := (0 ≤ S 37 96 ∧ S 37 96 ≤ 8) ∧ ∀ k : Nat, (k : Int) < S 37 96 → (0 ≤ S 364 k ∧ S 364 k < S 37 2) ∧ (0 ≤ S 365 k ∧ S 365 k ≤ 2) ∧ (1 ≤ S 363 k ∧ S 363 k ≤ 99)
theorem yGf.cg (F : yGf S) (t : ∀ a i, a ≠ 66 → a ≠ 80 → a ≠ 81 → T a i = S a i) : yGf T := by
  unfold yGf
  rw [t 37 96 (by decide) (by decide) (by decide), t 37 2 (by decide) (by decide) (by decide)]
  refine ⟨F.1, fun k hk => ?_⟩
  rw [t 363 k (by decide) (by decide) (by decide), t 364 k (by decide) (by decide) (by decide), t 365 k (by decide) (by decide) (by decide)]
  exact F.2 k hk
theorem yCo_s : yCo S b (n + 1) = yCo S b n + (if yBt b n = 0 then 0 else S 363 n) := rfl
theorem yCst_0 (z : ∀ k : Nat, k < 8 → yBt 0 k = 0) (F : yGf S) : yCst S 0 = 0 := by
  have w : ∀ n : Nat, n ≤ 8 → yCo S 0 n = 0 := by
    intro n
    induction n with
    | zero => intro _; rfl
    | succ n ih =>
      intro hn
      rw [yCo_s, ih (by omega), if_pos (z n (by omega))]
      rfl
  exact w _ (by have := F.1; omega)
theorem yBt_0 : ∀ k : Nat, k < 8 → yBt 0 k = 0 := by decide +kernel
theorem zBs.gv (B : zBs S) (hb : 0 ≤ b ∧ b < S 37 2) (hc : 0 ≤ c ∧ c < S 37 1) : zBs (yGv S b c d) := by
  have kb := B.1 b.toNat (by omega)
  have kc := (B.2.1 c.toNat (by omega)).1
  obtain ⟨b1, b2, b3, b4, b5, b6⟩ := B
  unfold yGv
  split
  · refine ⟨fun k hk => ?_, fun v hv => b2 v hv, b3, b4, b5, b6⟩
    have w := b1 k hk
    refine ⟨?_, w.2⟩
    rw [zs_if]
    split
    · omega
    · exact w.1
  · split
    · refine ⟨fun k hk => ?_, fun v hv => b2 v hv, b3, b4, b5, b6⟩
      have w := b1 k hk
      refine ⟨w.1, ?_, w.2.2⟩
      rw [zs_if]
      split
      · omega
      · exact w.2.1
    · refine ⟨fun k hk => b1 k hk, fun v hv => ⟨?_, (b2 v hv).2⟩, b3, b4, b5, b6⟩
      rw [zs_if]
      split
      · omega
      · exact (b2 v hv).1
theorem zAg.gv (A : zAg S T) (hb : 0 ≤ b ∧ b < S 37 2) (hc : 0 ≤ c ∧ c < S 37 1) : zAg (yGv S b c d) (yGv T b c d) := by
  obtain ⟨a1, a2, a3⟩ := A
  have kb := a2 b.toNat (by omega)
  have kc := (a3 c.toNat (by omega)).1
  unfold yGv
  by_cases z0 : d = 0
  · rw [if_pos z0, if_pos z0]
    refine ⟨a1, fun k hk => ?_, fun v hv => a3 v hv⟩
    have w := a2 k hk
    refine ⟨w.1, ?_, w.2.2⟩
    rw [zs_if, zs_if, kb.2.1, w.2.1]
  · rw [if_neg z0, if_neg z0]
    by_cases z1 : d = 1
    · rw [if_pos z1, if_pos z1]
      refine ⟨a1, fun k hk => ?_, fun v hv => a3 v hv⟩
      have w := a2 k hk
      refine ⟨w.1, w.2.1, ?_, w.2.2.2⟩
      rw [zs_if, zs_if, kb.2.2.1, w.2.2.1]
    · rw [if_neg z1, if_neg z1]
      refine ⟨a1, fun k hk => a2 k hk, fun v hv => ⟨?_, (a3 v hv).2⟩⟩
      rw [zs_if, zs_if, kc, (a3 v hv).1]
theorem yBN_s : yBN S c (n + 1) = if yCst S ((n : Int) + 1) ≤ c ∧ ((yBN S c n).2 < ySpn S ((n : Int) + 1) ∨ (ySpn S ((n : Int) + 1) = (yBN S c n).2 ∧ yCst S ((n : Int) + 1) < yCst S (yBN S c n).1)) then ((n : Int) + 1, ySpn S ((n : Int) + 1)) else yBN S c n := rfl
/-- what the class has found, of the heaps before t -/
def yBst0 (S : zT) (c t p q r : Int) : Prop := (t = 0 → p = -1 ∧ q = 0 ∧ r = 0) ∧ (0 < t → p = (yBN S c (t - 1).toNat).1 ∧ q = (yBN S c (t - 1).toNat).2 ∧ r = yCst S (yBN S c (t - 1).toNat).1)
theorem yBst0.no {t p q r s m : Int} (I : yBst0 S c t p q r) (F : yGf S) (ht : 0 ≤ t) (hc : 0 ≤ c) (hm : m = yCst S t) (hs : c < m ∨ s = ySpn S t) (h2 : c < m ∨ (p ≠ -1 ∧ s ≤ q ∧ (s ≠ q ∨ r ≤ m))) : yBst0 S c (t + 1) p q r := by
  refine ⟨fun z => by omega, fun _ => ?_⟩
  by_cases z : t = 0
  · have w := I.1 z
    have c0 := yCst_0 yBt_0 F
    rw [z, c0] at hm
    omega
  · have w := I.2 (by omega)
    have q1 : yBN S c (t + 1 - 1).toNat = yBN S c (t - 1).toNat := by
      rw [show (t + 1 - 1).toNat = (t - 1).toNat + 1 by omega, yBN_s, show (((t - 1).toNat : Nat) : Int) + 1 = t by omega]
      exact if_neg (by omega)
    rw [q1]
    exact w
section YBN
variable {t p m s r f : Int}
end YBN
theorem yBst0.end {t p q r : Int} (I : yBst0 S c t p q r) (h1 : t = i_shl 1 (S 37 96)) (h2 : 0 < t) : p = (yBst S c).1 ∧ q = (yBst S c).2 ∧ r = yCst S (yBst S c).1 := by
  have w := I.2 h2
  have e1 : ∀ s : Int, t = s → s.toNat - 1 = (t - 1).toNat := fun s hs => by omega
  unfold yBst
  rw [e1 _ h1]
  exact w
end YBST
end
section
/-! hands: all ways (the model) against each lot by itself and a search with a bound (the class): pure -/
section YHN
/-- asked, looms; needs, what a loom can; may, far -/
abbrev hD : Type := (Nat × Nat) × ((Nat → Int) × (Nat → Int)) × ((Nat → Nat → Int) × (Nat → Nat → Int))
def hn (d : hD) : Nat := d.1.1
def hm (d : hD) : Nat := d.1.2
def hN (d : hD) (k : Nat) : Int := d.2.1.1 k
def hc (d : hD) (i : Nat) : Int := d.2.1.2 i
def hy (d : hD) (k i : Nat) : Int := d.2.2.1 k i
def hf (d : hD) (k i : Nat) : Int := d.2.2.2 k i
def hu (l : Nat → Int) (k : Nat) (x : Int) : Nat → Int := fun j => if j = k then x else l j
def fo {α : Type} (f : Nat → α → α) : Nat → α → α
  | 0, s => s
  | i + 1, s => f i (fo f i s)
/-- what loom i gets of the first k lots -/
def hL (d : hD) (l : Nat → Int) (i : Nat) : Nat → Int
  | 0 => 0
  | k + 1 => hL d l i k + (if l k = (i : Int) then hN d k else 0)
def hG (d : hD) (l : Nat → Int) (i : Nat) : Nat → Int
  | 0 => 0
  | k + 1 => hG d l i k + (if l k = (i : Int) then hf d k i else 0)
def hK (d : hD) (i : Nat) (x : Int) : Int := if x = 0 then 0 else (x + hc d i - 1) / hc d i
/-- weeks, hanks, days of a way, by looms -/
def hW (d : hD) (l : Nat → Int) (k : Nat) : Nat → Int
  | 0 => 0
  | i + 1 => max (hW d l k i) (hK d i (hL d l i k))
def hH (d : hD) (l : Nat → Int) : Nat → Int
  | 0 => 0
  | i + 1 => hH d l i + hL d l i (hn d)
def hY (d : hD) (l : Nat → Int) : Nat → Int
  | 0 => 0
  | i + 1 => hY d l i + hG d l i (hn d)
abbrev hS : Type := Int × Int × Int × (Nat → Int)
abbrev hC : Type := Int × (Nat → Int)
/-- a way is looked at -/
def hLk (d : hD) (l : Nat → Int) (s : hS) : hS := if hH d l (hm d) < s.1 ∨ (hH d l (hm d) = s.1 ∧ (s.2.1 < hY d l (hm d) ∨ (hY d l (hm d) = s.2.1 ∧ s.2.2.1 ≤ hW d l (hn d) (hm d)))) then s else (hH d l (hm d), hY d l (hm d), hW d l (hn d) (hm d), l)
/-- all ways from lot k on, r lots to go -/
def hT (d : hD) : Nat → Nat → (Nat → Int) → hS → hS
  | 0, _, l, s => hLk d l s
  | r + 1, k, l, s => hT d r (k + 1) (hu l k (-1)) (fo (fun i q => if hy d k i = 0 then q else hT d r (k + 1) (hu l k i) q) (hm d) s)
/-- the class's search: e: no loom, c: the looms that are tried -/
def hX (d : hD) (e : Nat → Int) (c : Nat → Nat → Int) : Nat → Nat → Int → (Nat → Int) → (Nat → Int) → hC → hC
  | 0, _, w, l, _, s => if s.1 ≤ w then s else (w, l)
  | r + 1, k, w, l, g, s => if s.1 ≤ w then s else fo (fun i q => if c k i = 0 then q else hX d e c r (k + 1) (max w ((g i + hN d k + hc d i - 1) / hc d i)) (hu l k i) (hu g i (g i + hN d k)) q) (hm d) (if e k = 0 then hX d e c r (k + 1) w (hu l k (-1)) g s else s)
variable {d : hD} {l : Nat → Int} {i j k r n m : Nat} {x w a b : Int} {e f : Nat → Int} {c : Nat → Nat → Int} {s : hS} {q : hC}
theorem fo_s {α : Type} {f : Nat → α → α} {s : α} : fo f (i + 1) s = f i (fo f i s) := rfl
theorem fo_inv {α : Type} {f : Nat → α → α} {P : α → Prop} (h : ∀ i s, i < n → P s → P (f i s)) : ∀ {m : Nat} {s : α}, m ≤ n → P s → P (fo f m s)
  | 0, _, _, p => p
  | m + 1, s, hm, p => h m _ (by omega) (fo_inv h (by omega) p)
/-- two folds side by side -/
theorem fo_inv2 {α β : Type} {f : Nat → α → α} {g : Nat → β → β} {P : α → β → Prop} (h : ∀ i s t, i < n → P s t → P (f i s) (g i t)) : ∀ {m : Nat} {s : α} {t : β}, m ≤ n → P s t → P (fo f m s) (fo g m t)
  | 0, _, _, _, p => p
  | m + 1, s, t, hm, p => h m _ _ (by omega) (fo_inv2 h (by omega) p)
/-- what holds of the numbers -/
def hOk (d : hD) : Prop := (hn d ≤ 6 ∧ hm d ≤ 6) ∧ (∀ k, k < hn d → 0 ≤ hN d k ∧ hN d k ≤ 4000) ∧ (∀ k i, k < hn d → i < hm d → hy d k i ≠ 0 → 2 ≤ hN d k ∧ 1 ≤ hc d i ∧ (0 ≤ hf d k i ∧ hf d k i ≤ 999999))
/-- what the class has for each lot: the looms at the fewest days -/
def hCh (d : hD) (e f : Nat → Int) (c : Nat → Nat → Int) : Prop := ∀ k, k < hn d → (e k = 0 → ∀ i, i < hm d → hy d k i = 0 ∧ c k i = 0) ∧ (e k ≠ 0 → ∃ i, i < hm d ∧ c k i ≠ 0) ∧ (∀ i, i < hm d → hy d k i ≠ 0 → f k ≤ hf d k i ∧ (hf d k i = f k → c k i ≠ 0)) ∧ (∀ i, i < hm d → c k i ≠ 0 → hy d k i ≠ 0 ∧ hf d k i = f k)
/-- what can be, what the class takes -/
def hVc (d : hD) (k : Nat) (x : Int) : Prop := x = -1 ∨ ((0 ≤ x ∧ x < hm d) ∧ hy d k x.toNat ≠ 0)
def hOc (d : hD) (e : Nat → Int) (c : Nat → Nat → Int) (k : Nat) (x : Int) : Prop := (e k = 0 ∧ x = -1) ∨ ((0 ≤ x ∧ x < hm d) ∧ c k x.toNat ≠ 0)
def hV (d : hD) (l : Nat → Int) (k : Nat) : Prop := ∀ j, j < k → hVc d j (l j)
def hO (d : hD) (e : Nat → Int) (c : Nat → Nat → Int) (l : Nat → Int) (k : Nat) : Prop := ∀ j, j < k → hOc d e c j (l j)
theorem hu_e : hu l k x k = x := if_pos rfl
theorem hu_n (h : j ≠ k) : hu l k x j = l j := if_neg h
theorem hV.st (V : hV d l k) (h : hVc d k x) : hV d (hu l k x) (k + 1) := fun j hj => by
  by_cases z : j = k
  · rw [z, hu_e]
    exact h
  · rw [hu_n z]
    exact V j (by omega)
theorem hO.st (O : hO d e c l k) (h : hOc d e c k x) : hO d e c (hu l k x) (k + 1) := fun j hj => by
  by_cases z : j = k
  · rw [z, hu_e]
    exact h
  · rw [hu_n z]
    exact O j (by omega)
theorem hO.pre (O : hO d e c (hu l k x) (k + 1)) : hO d e c l k := fun j hj => by
  have w := O j (by omega)
  rwa [hu_n (by omega)] at w
theorem hO.lst (O : hO d e c (hu l k x) (k + 1)) : hOc d e c k x := by
  have w := O k (by omega)
  rwa [hu_e] at w
/-- sums by lots -/
def hS1 (d : hD) (l : Nat → Int) (m : Nat) : Nat → Int
  | 0 => 0
  | k + 1 => hS1 d l m k + (if 0 ≤ l k ∧ l k < (m : Int) then hN d k else 0)
def hS2 (d : hD) (l : Nat → Int) (m : Nat) : Nat → Int
  | 0 => 0
  | k + 1 => hS2 d l m k + (if 0 ≤ l k ∧ l k < (m : Int) then hf d k (l k).toNat else 0)
theorem hS1_s : ∀ k : Nat, hS1 d l (m + 1) k = hS1 d l m k + hL d l m k
  | 0 => rfl
  | k + 1 => by
    have w := hS1_s k
    show hS1 d l (m + 1) k + _ = (hS1 d l m k + _) + (hL d l m k + _)
    rw [w]
    by_cases z : l k = (m : Int)
    · rw [if_pos z, if_pos ⟨by omega, by omega⟩, if_neg (by omega)]
      omega
    · rw [if_neg z]
      by_cases z2 : 0 ≤ l k ∧ l k < (m : Int)
      · rw [if_pos z2, if_pos ⟨by omega, by omega⟩]
        omega
      · rw [if_neg z2, if_neg (by omega)]
        omega
theorem hS2_s : ∀ k : Nat, hS2 d l (m + 1) k = hS2 d l m k + hG d l m k
  | 0 => rfl
  | k + 1 => by
    have w := hS2_s k
    show hS2 d l (m + 1) k + _ = (hS2 d l m k + _) + (hG d l m k + _)
    rw [w]
    by_cases z : l k = (m : Int)
    · rw [if_pos z, if_pos ⟨by omega, by omega⟩, if_neg (by omega), show (l k).toNat = m by omega]
      omega
    · rw [if_neg z]
      by_cases z2 : 0 ≤ l k ∧ l k < (m : Int)
      · rw [if_pos z2, if_pos ⟨by omega, by omega⟩]
        omega
      · rw [if_neg z2, if_neg (by omega)]
        omega
theorem hS1_0 : ∀ k : Nat, hS1 d l 0 k = 0
  | 0 => rfl
  | k + 1 => by
    show hS1 d l 0 k + _ = 0
    rw [hS1_0 k, if_neg (by omega)]
    rfl
theorem hS2_0 : ∀ k : Nat, hS2 d l 0 k = 0
  | 0 => rfl
  | k + 1 => by
    show hS2 d l 0 k + _ = 0
    rw [hS2_0 k, if_neg (by omega)]
    rfl
theorem hH_e : ∀ m : Nat, hH d l m = hS1 d l m (hn d)
  | 0 => (hS1_0 _).symm
  | m + 1 => by
    show hH d l m + hL d l m (hn d) = _
    rw [hH_e m, hS1_s]
theorem hY_e : ∀ m : Nat, hY d l m = hS2 d l m (hn d)
  | 0 => (hS2_0 _).symm
  | m + 1 => by
    show hY d l m + hG d l m (hn d) = _
    rw [hY_e m, hS2_s]
/-- the most hanks, the fewest days -/
def hA (d : hD) (e : Nat → Int) : Nat → Int
  | 0 => 0
  | k + 1 => hA d e k + (if e k = 0 then 0 else hN d k)
def hB (e f : Nat → Int) : Nat → Int
  | 0 => 0
  | k + 1 => hB e f k + (if e k = 0 then 0 else f k)
theorem hCh.fb (P : hCh d e f c) (B : hOk d) (hk : k < hn d) (he : e k ≠ 0) : (0 ≤ f k ∧ f k ≤ 999999) ∧ 2 ≤ hN d k := by
  obtain ⟨_, p2, p3, p4⟩ := P k hk
  obtain ⟨i, hi, ci⟩ := p2 he
  obtain ⟨y, g⟩ := p4 i hi ci
  have w := B.2.2 k i hk hi y
  omega
theorem hAB (P : hCh d e f c) (B : hOk d) : ∀ k : Nat, k ≤ hn d → (0 ≤ hA d e k ∧ hA d e k ≤ 4000 * k) ∧ (0 ≤ hB e f k ∧ hB e f k ≤ 999999 * k)
  | 0, _ => ⟨⟨Int.le_refl _, by show (0 : Int) ≤ _; omega⟩, Int.le_refl _, by show (0 : Int) ≤ _; omega⟩
  | k + 1, hk => by
    have w := hAB P B k (by omega)
    have v := B.2.1 k (by omega)
    show (0 ≤ hA d e k + _ ∧ hA d e k + _ ≤ _) ∧ (0 ≤ hB e f k + _ ∧ hB e f k + _ ≤ _)
    by_cases z : e k = 0
    · rw [if_pos z, if_pos z]
      omega
    · have u := P.fb B (k := k) (by omega) z
      rw [if_neg z, if_neg z]
      omega
/-- one lot: what is taken against what is best -/
theorem hOne (P : hCh d e f c) (B : hOk d) (hk : k < hn d) (V : hVc d k x) : (0 ≤ (if 0 ≤ x ∧ x < (hm d : Int) then hN d k else 0) ∧ (if 0 ≤ x ∧ x < (hm d : Int) then hN d k else 0) ≤ 4000) ∧ (0 ≤ (if 0 ≤ x ∧ x < (hm d : Int) then hf d k x.toNat else 0) ∧ (if 0 ≤ x ∧ x < (hm d : Int) then hf d k x.toNat else 0) ≤ 999999) ∧
    (hOc d e c k x → (if 0 ≤ x ∧ x < (hm d : Int) then hN d k else 0) = (if e k = 0 then 0 else hN d k) ∧ (if 0 ≤ x ∧ x < (hm d : Int) then hf d k x.toNat else 0) = (if e k = 0 then 0 else f k)) ∧
    (¬ hOc d e c k x → (if e k = 0 then 0 else f k) - 10000000 * (if e k = 0 then 0 else hN d k) < (if 0 ≤ x ∧ x < (hm d : Int) then hf d k x.toNat else 0) - 10000000 * (if 0 ≤ x ∧ x < (hm d : Int) then hN d k else 0)) := by
  have nb := B.2.1 k hk
  obtain ⟨p1, p2, p3, p4⟩ := P k hk
  rcases V with z | ⟨z, y⟩
  · have nz : ¬ (0 ≤ x ∧ x < (hm d : Int)) := by omega
    rw [if_neg nz, if_neg nz]
    refine ⟨by omega, by omega, fun O => ?_, fun O => ?_⟩
    · rcases O with ⟨o, _⟩ | ⟨o, _⟩
      · rw [if_pos o, if_pos o]
        exact ⟨rfl, rfl⟩
      · exact absurd o nz
    · have ne : e k ≠ 0 := fun h => O (Or.inl ⟨h, z⟩)
      have u := P.fb B hk ne
      rw [if_neg ne, if_neg ne]
      omega
  · rw [if_pos z, if_pos z]
    have ne : e k ≠ 0 := fun h => y (p1 h x.toNat (by omega)).1
    have g := B.2.2 k x.toNat hk (by omega) y
    have q := p3 x.toNat (by omega) y
    rw [if_neg ne, if_neg ne]
    refine ⟨by omega, by omega, fun O => ?_, fun O => ?_⟩
    · rcases O with ⟨o, _⟩ | ⟨_, o⟩
      · exact absurd o ne
      · exact ⟨rfl, (p4 x.toNat (by omega) o).2⟩
    · have nq : hf d k x.toNat ≠ f k := fun h => O (Or.inr ⟨z, q.2 h⟩)
      omega
theorem hSum (P : hCh d e f c) (B : hOk d) : ∀ k : Nat, k ≤ hn d → hV d l k → (0 ≤ hS1 d l (hm d) k ∧ hS1 d l (hm d) k ≤ 4000 * k) ∧ (0 ≤ hS2 d l (hm d) k ∧ hS2 d l (hm d) k ≤ 999999 * k) ∧
    (hO d e c l k → hS1 d l (hm d) k = hA d e k ∧ hS2 d l (hm d) k = hB e f k) ∧ (hB e f k - 10000000 * hA d e k ≤ hS2 d l (hm d) k - 10000000 * hS1 d l (hm d) k) ∧ (¬ hO d e c l k → hB e f k - 10000000 * hA d e k < hS2 d l (hm d) k - 10000000 * hS1 d l (hm d) k)
  | 0, _, _ => ⟨⟨Int.le_refl _, by show (0 : Int) ≤ _; omega⟩, ⟨Int.le_refl _, by show (0 : Int) ≤ _; omega⟩, fun _ => ⟨rfl, rfl⟩, Int.le_refl _, fun h => absurd (fun j hj => absurd hj (Nat.not_lt_zero j)) h⟩
  | k + 1, hk, V => by
    obtain ⟨w1, w2, w3, w4, w5⟩ := hSum P B k (by omega) (fun j hj => V j (by omega))
    obtain ⟨o1, o2, o3, o4⟩ := hOne P B (k := k) (x := l k) (by omega) (V k (by omega))
    have e1 : hS1 d l (hm d) (k + 1) = hS1 d l (hm d) k + (if 0 ≤ l k ∧ l k < (hm d : Int) then hN d k else 0) := rfl
    have e2 : hS2 d l (hm d) (k + 1) = hS2 d l (hm d) k + (if 0 ≤ l k ∧ l k < (hm d : Int) then hf d k (l k).toNat else 0) := rfl
    have e3 : hA d e (k + 1) = hA d e k + (if e k = 0 then 0 else hN d k) := rfl
    have e4 : hB e f (k + 1) = hB e f k + (if e k = 0 then 0 else f k) := rfl
    generalize (if 0 ≤ l k ∧ l k < (hm d : Int) then hN d k else 0) = v1 at *
    generalize (if 0 ≤ l k ∧ l k < (hm d : Int) then hf d k (l k).toNat else 0) = v2 at *
    generalize (if e k = 0 then 0 else hN d k) = v3 at *
    generalize (if e k = 0 then 0 else f k) = v4 at *
    rw [e1, e2, e3, e4]
    by_cases zo : hOc d e c k (l k)
    · have o3 := o3 zo
      refine ⟨by omega, by omega, fun O => ?_, by omega, fun O => ?_⟩
      · have w3 := w3 (fun j hj => O j (by omega))
        omega
      · have w5 := w5 (fun O2 => O (fun j hj => by
          by_cases z : j = k
          · rw [z]
            exact zo
          · exact O2 j (by omega)))
        omega
    · have o4 := o4 zo
      refine ⟨by omega, by omega, fun O => absurd (O k (by omega)) zo, by omega, fun _ => by omega⟩
/-- a whole way against the best -/
theorem hWay (P : hCh d e f c) (B : hOk d) (V : hV d l (hn d)) : (hO d e c l (hn d) → hH d l (hm d) = hA d e (hn d) ∧ hY d l (hm d) = hB e f (hn d)) ∧ (¬ hO d e c l (hn d) → hH d l (hm d) < hA d e (hn d) ∨ (hH d l (hm d) = hA d e (hn d) ∧ hB e f (hn d) < hY d l (hm d))) := by
  obtain ⟨w1, w2, w3, w4, w5⟩ := hSum P B (hn d) (Nat.le_refl _) V
  have ab := hAB P B (hn d) (Nat.le_refl _)
  have b6 := B.1.1
  rw [hH_e, hY_e]
  refine ⟨w3, fun O => ?_⟩
  have w5 := w5 O
  omega
/-- what a loom gets, when one lot more is laid -/
theorem hL_u (h : j ≤ k) : hL d (hu l k x) i j = hL d l i j := by
  induction j with
  | zero => rfl
  | succ j ih =>
    show hL d (hu l k x) i j + (if hu l k x j = (i : Int) then hN d j else 0) = hL d l i j + _
    rw [ih (by omega), hu_n (by omega)]
theorem hL_k : hL d (hu l k x) i (k + 1) = hL d l i k + (if x = (i : Int) then hN d k else 0) := by
  show hL d (hu l k x) i k + (if hu l k x k = (i : Int) then hN d k else 0) = _
  rw [hL_u (Nat.le_refl _), hu_e]
theorem hL_b (B : hOk d) : ∀ k : Nat, k ≤ hn d → 0 ≤ hL d l i k ∧ hL d l i k ≤ 4000 * k
  | 0, _ => ⟨Int.le_refl _, by show (0 : Int) ≤ _; omega⟩
  | k + 1, hk => by
    have w := hL_b B k (by omega)
    have v := B.2.1 k (by omega)
    show 0 ≤ hL d l i k + _ ∧ hL d l i k + _ ≤ _
    split <;> omega
theorem hK_m (hc1 : 1 ≤ hc d i) (ha : 0 ≤ a) (hb : a ≤ b) : hK d i a ≤ hK d i b := by
  unfold hK
  by_cases z : a = 0
  · rw [if_pos z]
    split
    · omega
    · exact Int.ediv_nonneg (by omega) (by omega)
  · rw [if_neg z, if_neg (by omega)]
    exact Int.ediv_le_ediv (by omega) (by omega)
theorem hK_b (hc1 : 1 ≤ hc d i) (ha : 0 ≤ a) : 0 ≤ hK d i a ∧ hK d i a ≤ a := by
  unfold hK
  split
  · omega
  · refine ⟨Int.ediv_nonneg (by omega) (by omega), ?_⟩
    have w : (a + hc d i - 1) / hc d i < a + 1 := Int.ediv_lt_of_lt_mul (by omega) (by
      have t : (a + 1) * 1 ≤ (a + 1) * hc d i := Int.mul_le_mul_of_nonneg_left hc1 (by omega)
      have t2 : (a + 1) * hc d i = a * hc d i + hc d i := by rw [Int.add_mul, Int.one_mul]
      have t3 : a * 1 ≤ a * hc d i := Int.mul_le_mul_of_nonneg_left hc1 ha
      omega)
    omega
theorem hW_n (h : ∀ i, i < j → hL d (hu l k x) i (k + 1) = hL d l i k) : hW d (hu l k x) (k + 1) j = hW d l k j := by
  induction j with
  | zero => rfl
  | succ j ih =>
    show max (hW d (hu l k x) (k + 1) j) (hK d j (hL d (hu l k x) j (k + 1))) = max (hW d l k j) (hK d j (hL d l j k))
    rw [ih (fun i hi => h i (by omega)), h j (by omega)]
theorem hW_none : hW d (hu l k (-1)) (k + 1) j = hW d l k j := hW_n (fun i _ => by
  rw [hL_k, if_neg (by omega), Int.add_zero])
theorem hW_one (hc1 : 1 ≤ hc d i) (h0 : 0 ≤ hL d l i k) (hN0 : 0 ≤ hN d k) : ∀ j : Nat, i < j → hW d (hu l k i) (k + 1) j = max (hW d l k j) (hK d i (hL d l i k + hN d k))
  | 0, h => absurd h (Nat.not_lt_zero _)
  | j + 1, h => by
    have mo := hK_m (b := hL d l i k + hN d k) hc1 h0 (by omega)
    show max (hW d (hu l k i) (k + 1) j) (hK d j (hL d (hu l k i) j (k + 1))) = max (max (hW d l k j) (hK d j (hL d l j k))) _
    by_cases z : j = i
    · rw [z, hW_n (j := i) (fun u hu_ => by rw [hL_k, if_neg (by omega), Int.add_zero]), hL_k, if_pos rfl]
      omega
    · rw [hW_one hc1 h0 hN0 j (by omega), hL_k, if_neg (by omega), Int.add_zero]
      omega
/-- the model's best against the class's -/
def hR (d : hD) (e f : Nat → Int) (s : hS) (q : hC) : Prop := q.1 ≤ 1000000 ∧ (q.1 < 1000000 → (s.1 = hA d e (hn d) ∧ s.2.1 = hB e f (hn d) ∧ s.2.2.1 = q.1) ∧ ∀ j, j < hn d → s.2.2.2 j = q.2 j) ∧ (q.1 = 1000000 → s.1 < hA d e (hn d) ∨ (s.1 = hA d e (hn d) ∧ hB e f (hn d) < s.2.1))
/-- a way that the class doesn't take, or not any more -/
theorem hR.lk0 (P : hCh d e f c) (B : hOk d) (R : hR d e f s q) (V : hV d l (hn d)) (h : ¬ hO d e c l (hn d) ∨ (q.1 ≤ hW d l (hn d) (hm d) ∧ hW d l (hn d) (hm d) < 1000000)) : hR d e f (hLk d l s) q := by
  obtain ⟨y1, y2⟩ := hWay P B V
  obtain ⟨r1, r2, r3⟩ := R
  unfold hLk
  split
  · exact ⟨r1, r2, r3⟩
  · rename_i z
    refine ⟨r1, fun h1 => ?_, fun h1 => ?_⟩
    · obtain ⟨⟨a1, a2, a3⟩, _⟩ := r2 h1
      exfalso
      by_cases o : hO d e c l (hn d)
      · have y1 := y1 o
        rcases h with h | h
        · exact h o
        · omega
      · have y2 := y2 o
        omega
    · have r3 := r3 h1
      by_cases o : hO d e c l (hn d)
      · exfalso
        rcases h with h | h
        · exact h o
        · omega
      · exact y2 o
/-- a way that both take -/
theorem hR.lk1 (P : hCh d e f c) (B : hOk d) (R : hR d e f s q) (V : hV d l (hn d)) (O : hO d e c l (hn d)) (hw : hW d l (hn d) (hm d) < 1000000) (hq : hW d l (hn d) (hm d) < q.1) : hR d e f (hLk d l s) (hW d l (hn d) (hm d), l) := by
  obtain ⟨y1, y2⟩ := (hWay P B V).1 O
  obtain ⟨r1, r2, r3⟩ := R
  unfold hLk
  by_cases h1 : q.1 < 1000000
  · obtain ⟨⟨a1, a2, a3⟩, _⟩ := r2 h1
    rw [if_neg (by omega)]
    exact ⟨by show hW d l (hn d) (hm d) ≤ _; omega, fun _ => ⟨⟨y1, y2, rfl⟩, fun _ _ => rfl⟩, fun z => by exfalso; have z : hW d l (hn d) (hm d) = 1000000 := z; omega⟩
  · have r3 := r3 (by omega)
    rw [if_neg (by omega)]
    exact ⟨by show hW d l (hn d) (hm d) ≤ _; omega, fun _ => ⟨⟨y1, y2, rfl⟩, fun _ _ => rfl⟩, fun z => by exfalso; have z : hW d l (hn d) (hm d) = 1000000 := z; omega⟩
theorem hW_b (B : hOk d) (hk : k ≤ hn d) (V : ∀ i, i < hm d → hL d l i k ≠ 0 → 1 ≤ hc d i) : ∀ j : Nat, j ≤ hm d → 0 ≤ hW d l k j ∧ hW d l k j ≤ 24000
  | 0, _ => ⟨Int.le_refl _, by show (0 : Int) ≤ _; omega⟩
  | j + 1, hj => by
    have w := hW_b B hk V j (by omega)
    have b := hL_b B (l := l) (i := j) k hk
    have b6 := B.1.1
    show 0 ≤ max (hW d l k j) (hK d j (hL d l j k)) ∧ max (hW d l k j) (hK d j (hL d l j k)) ≤ _
    by_cases z : hL d l j k = 0
    · have t : hK d j (hL d l j k) = 0 := by unfold hK; rw [if_pos z]
      omega
    · have t := hK_b (V j (by omega) z) b.1
      omega
theorem hL_v (B : hOk d) (V : hV d l k) : k ≤ hn d → ∀ i, i < hm d → hL d l i k ≠ 0 → 1 ≤ hc d i := by
  induction k with
  | zero => intro _ i _ h; exact absurd rfl h
  | succ k ih =>
    intro hk i hi h
    by_cases z : l k = (i : Int)
    · have v := V k (by omega)
      rcases v with v | ⟨v, y⟩
      · omega
      · rw [z] at y
        exact (B.2.2 k i (by omega) hi (by simpa using y)).2.1
    · refine ih (fun j hj => V j (by omega)) (by omega) i hi (fun h2 => h ?_)
      show hL d l i k + (if l k = (i : Int) then hN d k else 0) = 0
      rw [h2, if_neg z]
      rfl
theorem hV.wb (V : hV d l k) (B : hOk d) (hk : k ≤ hn d) : 0 ≤ hW d l k (hm d) ∧ hW d l k (hm d) ≤ 24000 := hW_b B hk (hL_v B V hk) _ (Nat.le_refl _)
theorem hVc_n : hVc d k (-1) := Or.inl rfl
theorem hVc_i (hi : i < hm d) (y : hy d k i ≠ 0) : hVc d k (i : Int) := Or.inr ⟨(by first | omega | exact ⟨by omega, by omega⟩), by simpa using y⟩
theorem hW_le (B : hOk d) (V : hV d l k) (hk : k < hn d) (hx : hVc d k x) : hW d l k (hm d) ≤ hW d (hu l k x) (k + 1) (hm d) := by
  rcases hx with z | ⟨z, y⟩
  · rw [z, hW_none]
    exact Int.le_refl _
  · have b := B.2.2 k x.toNat hk (by omega) y
    have w := hW_one (d := d) (l := l) (i := x.toNat) (k := k) b.2.1 (hL_b B k (by omega)).1 (by omega) (hm d) (by omega)
    rw [show ((x.toNat : Nat) : Int) = x by omega] at w
    rw [w]
    omega
/-- ways that the class leaves out -/
theorem hR.skip (P : hCh d e f c) (B : hOk d) : ∀ (r k : Nat) (l : Nat → Int) (s : hS), k + r = hn d → hV d l k → (¬ hO d e c l k ∨ q.1 ≤ hW d l k (hm d)) → hR d e f s q → hR d e f (hT d r k l s) q
  | 0, k, l, s, hk, V, h, R => by
    have hk : k = hn d := by omega
    subst hk
    have wb := V.wb B (Nat.le_refl _)
    exact R.lk0 P B V (h.imp id (fun z => ⟨z, by omega⟩))
  | r + 1, k, l, s, hk, V, h, R => by
    have st : ∀ x : Int, hVc d k x → (¬ hO d e c (hu l k x) (k + 1) ∨ q.1 ≤ hW d (hu l k x) (k + 1) (hm d)) := fun x hx => by
      rcases h with h | h
      · exact Or.inl (fun o => h o.pre)
      · have w := hW_le B V (by omega) hx
        exact Or.inr (by omega)
    show hR d e f (hT d r (k + 1) (hu l k (-1)) _) q
    refine hR.skip P B r (k + 1) _ _ (by omega) (V.st hVc_n) (st _ hVc_n) ?_
    refine fo_inv (P := fun t => hR d e f t q) (n := hm d) (fun i t hi Rt => ?_) (Nat.le_refl _) R
    show hR d e f (if hy d k i = 0 then t else hT d r (k + 1) (hu l k i) t) q
    split
    · exact Rt
    · rename_i z
      exact hR.skip P B r (k + 1) _ _ (by omega) (V.st (hVc_i hi z)) (st _ (hVc_i hi z)) Rt
/-- all ways against the search -/
theorem hR.run (P : hCh d e f c) (B : hOk d) : ∀ (r k : Nat) (l g : Nat → Int) (s : hS) (q : hC), k + r = hn d → hV d l k → hO d e c l k → (∀ i, i < hm d → g i = hL d l i k) → hR d e f s q → hR d e f (hT d r k l s) (hX d e c r k (hW d l k (hm d)) l g q)
  | 0, k, l, g, s, q, hk, V, O, hg, R => by
    have hk : k = hn d := by omega
    subst hk
    have wb := V.wb B (Nat.le_refl _)
    show hR d e f (hLk d l s) (if q.1 ≤ hW d l (hn d) (hm d) then q else (hW d l (hn d) (hm d), l))
    split
    · rename_i z
      exact R.lk0 P B V (Or.inr ⟨z, by omega⟩)
    · exact R.lk1 P B V O (by omega) (by omega)
  | r + 1, k, l, g, s, q, hk, V, O, hg, R => by
    obtain ⟨p1, p2, p3, p4⟩ := P k (by omega)
    show hR d e f (hT d (r + 1) k l s) (if q.1 ≤ hW d l k (hm d) then q else _)
    split
    · rename_i z
      exact hR.skip P B (r + 1) k l s (by omega) V (Or.inr z) R
    · show hR d e f (hT d r (k + 1) (hu l k (-1)) (fo (fun i t => if hy d k i = 0 then t else hT d r (k + 1) (hu l k i) t) (hm d) s)) _
      by_cases ze : e k = 0
      · have f1 : ∀ (m : Nat) (t : hS), m ≤ hm d → fo (fun i t => if hy d k i = 0 then t else hT d r (k + 1) (hu l k i) t) m t = t := by
          intro m
          induction m with
          | zero => intro t _; rfl
          | succ m ih =>
            intro t hm
            show (if hy d k m = 0 then fo _ m t else _) = t
            rw [if_pos (p1 ze m (by omega)).1]
            exact ih t (by omega)
        have f2 : ∀ (m : Nat) (t : hC), m ≤ hm d → fo (fun i t => if c k i = 0 then t else hX d e c r (k + 1) (max (hW d l k (hm d)) ((g i + hN d k + hc d i - 1) / hc d i)) (hu l k i) (hu g i (g i + hN d k)) t) m t = t := by
          intro m
          induction m with
          | zero => intro t _; rfl
          | succ m ih =>
            intro t hm
            show (if c k m = 0 then fo _ m t else _) = t
            rw [if_pos (p1 ze m (by omega)).2]
            exact ih t (by omega)
        rw [f1 _ _ (Nat.le_refl _), f2 _ _ (Nat.le_refl _), if_pos ze, ← hW_none (d := d) (l := l) (k := k) (j := hm d)]
        exact hR.run P B r (k + 1) _ g s q (by omega) (V.st hVc_n) (O.st (Or.inl ⟨ze, rfl⟩)) (fun i hi => by rw [hL_k, if_neg (by omega), Int.add_zero]; exact hg i hi) R
      · rw [if_neg ze]
        refine hR.skip P B r (k + 1) _ _ (by omega) (V.st hVc_n) (Or.inl (fun o => ?_)) ?_
        · rcases o.lst with ⟨z, _⟩ | ⟨z, _⟩
          · exact ze z
          · omega
        · refine fo_inv2 (P := fun t u => hR d e f t u) (n := hm d) (fun i t u hi Rt => ?_) (Nat.le_refl _) R
          show hR d e f (if hy d k i = 0 then t else hT d r (k + 1) (hu l k i) t) (if c k i = 0 then u else hX d e c r (k + 1) (max (hW d l k (hm d)) ((g i + hN d k + hc d i - 1) / hc d i)) (hu l k i) (hu g i (g i + hN d k)) u)
          by_cases zy : hy d k i = 0
          · rw [if_pos zy, if_pos (Classical.byContradiction (fun z => (p4 i hi z).1 zy))]
            exact Rt
          · rw [if_neg zy]
            have b := B.2.2 k i (by omega) hi zy
            have lb := hL_b B (l := l) (i := i) k (by omega)
            by_cases zc : c k i = 0
            · rw [if_pos zc]
              refine hR.skip P B r (k + 1) _ _ (by omega) (V.st (hVc_i hi zy)) (Or.inl (fun o => ?_)) Rt
              rcases o.lst with ⟨z, _⟩ | ⟨_, z⟩
              · exact ze z
              · exact z (by simpa using zc)
            · rw [if_neg zc]
              have ww := hW_one (d := d) (l := l) (i := i) (k := k) b.2.1 lb.1 (by omega) (hm d) hi
              have kk : hK d i (hL d l i k + hN d k) = (g i + hN d k + hc d i - 1) / hc d i := by
                unfold hK
                rw [if_neg (by omega), hg i hi]
              rw [← kk, ← ww]
              exact hR.run P B r (k + 1) _ _ t u (by omega) (V.st (hVc_i hi zy)) (O.st (Or.inr ⟨(by first | omega | exact ⟨by omega, by omega⟩), by simpa using zc⟩)) (fun j hj => by
                rw [hL_k]
                by_cases z : j = i
                · rw [z, hu_e, if_pos rfl, hg i hi]
                · rw [hu_n z, if_neg (by omega), Int.add_zero]
                  exact hg j hj) Rt
end YHN
end
section
/-! hands: what is offered for a lot; bits; looms by their bits: pure -/
section YHO
variable {d : hD} {j k m n : Nat} {x f b : Int} {e : Nat → Int}
theorem ior_bt : ∀ x : Nat, x < 64 → ∀ k : Nat, k < 6 → ∀ j : Nat, j < 6 → yBt (i_or (x : Int) (i_shl 1 (k : Int))) (j : Int) = if j = k then 1 else yBt (x : Int) (j : Int) := by decide +kernel
theorem ior_b : ∀ x : Nat, x < 64 → ∀ k : Nat, k < 6 → 0 < i_or (x : Int) (i_shl 1 (k : Int)) ∧ i_or (x : Int) (i_shl 1 (k : Int)) < 64 := by decide +kernel
theorem yBt_z6 : ∀ j : Nat, j < 6 → yBt 0 (j : Int) = 0 := by decide +kernel
/-- looms 0 .. k-1 are looked at for lot j: the fewest days, the looms that have them -/
def hOf (d : hD) (j k : Nat) (f b : Int) : Prop := (0 ≤ b ∧ b < 64) ∧ (∀ i, k ≤ i → i < 6 → yBt b (i : Int) = 0) ∧ (b = 0 → f = -1 ∧ ∀ i, i < k → hy d j i = 0) ∧ (b ≠ 0 → 0 ≤ f ∧ ∃ i, i < k ∧ yBt b (i : Int) ≠ 0) ∧ (∀ i, i < k → hy d j i ≠ 0 → f ≤ hf d j i ∧ (hf d j i = f → yBt b (i : Int) ≠ 0)) ∧ (∀ i, i < k → yBt b (i : Int) ≠ 0 → hy d j i ≠ 0 ∧ hf d j i = f)
theorem hOf_i : hOf d j 0 (-1) 0 := ⟨by decide, fun i _ h => yBt_z6 i h, fun _ => ⟨rfl, fun i h => absurd h (Nat.not_lt_zero _)⟩, fun h => absurd rfl h, fun i h => absurd h (Nat.not_lt_zero _), fun i h => absurd h (Nat.not_lt_zero _)⟩
theorem hOf.none (O : hOf d j k f b) (hk : k < 6) (y : hy d j k = 0) : hOf d j (k + 1) f b := by
  obtain ⟨o1, o2, o3, o4, o5, o6⟩ := O
  have ok := o2 k (Nat.le_refl _) hk
  refine ⟨o1, fun i h h6 => o2 i (by omega) h6, fun h => ⟨(o3 h).1, fun i hi => ?_⟩, fun h => ⟨(o4 h).1, ?_⟩, fun i hi yi => ?_, fun i hi ci => ?_⟩
  · by_cases z : i = k
    · rw [z]
      exact y
    · exact (o3 h).2 i (by omega)
  · obtain ⟨i, hi, ci⟩ := (o4 h).2
    exact ⟨i, by omega, ci⟩
  · by_cases z : i = k
    · rw [z] at yi
      exact absurd y yi
    · exact o5 i (by omega) yi
  · by_cases z : i = k
    · rw [z] at ci
      exact absurd ok ci
    · exact o6 i (by omega) ci
theorem hOf.far (O : hOf d j k f b) (hk : k < 6) (hb : b ≠ 0) (h : f < hf d j k) : hOf d j (k + 1) f b := by
  obtain ⟨o1, o2, o3, o4, o5, o6⟩ := O
  have ok := o2 k (Nat.le_refl _) hk
  refine ⟨o1, fun i h h6 => o2 i (by omega) h6, fun h => absurd h hb, fun h => ⟨(o4 h).1, ?_⟩, fun i hi yi => ?_, fun i hi ci => ?_⟩
  · obtain ⟨i, hi, ci⟩ := (o4 h).2
    exact ⟨i, by omega, ci⟩
  · by_cases z : i = k
    · rw [z]
      exact ⟨by omega, fun q => by omega⟩
    · exact o5 i (by omega) yi
  · by_cases z : i = k
    · rw [z] at ci
      exact absurd ok ci
    · exact o6 i (by omega) ci
theorem hOf.same (O : hOf d j k f b) (hk : k < 6) (hb : b ≠ 0) (y : hy d j k ≠ 0) (h : hf d j k = f) : hOf d j (k + 1) f (i_or b (i_shl 1 (k : Int))) := by
  obtain ⟨o1, o2, o3, o4, o5, o6⟩ := O
  have bb := ior_b b.toNat (by omega) k hk
  have bt : ∀ i : Nat, i < 6 → yBt (i_or b (i_shl 1 (k : Int))) (i : Int) = if i = k then 1 else yBt b (i : Int) := fun i hi => by
    have w := ior_bt b.toNat (by omega) k hk i hi
    rwa [show ((b.toNat : Nat) : Int) = b by omega] at w
  rw [show ((b.toNat : Nat) : Int) = b by omega] at bb
  refine ⟨⟨by omega, bb.2⟩, fun i h h6 => ?_, fun h => by omega, fun _ => ⟨(o4 hb).1, k, by omega, ?_⟩, fun i hi yi => ?_, fun i hi ci => ?_⟩
  · rw [bt i h6, if_neg (by omega)]
    exact o2 i (by omega) h6
  · rw [bt k hk, if_pos rfl]
    decide
  · rw [bt i (by omega)]
    by_cases z : i = k
    · rw [if_pos z, z]
      exact ⟨by omega, fun _ => by decide⟩
    · rw [if_neg z]
      exact o5 i (by omega) yi
  · rw [bt i (by omega)] at ci
    by_cases z : i = k
    · rw [z]
      exact ⟨y, h⟩
    · rw [if_neg z] at ci
      exact o6 i (by omega) ci
theorem hOf.new (O : hOf d j k f b) (hk : k < 6) (y : hy d j k ≠ 0) (h0 : 0 ≤ hf d j k) (h : b = 0 ∨ hf d j k < f) : hOf d j (k + 1) (hf d j k) (i_or 0 (i_shl 1 (k : Int))) := by
  obtain ⟨o1, o2, o3, o4, o5, o6⟩ := O
  have bb := ior_b 0 (by decide) k hk
  rw [show ((0 : Nat) : Int) = 0 from rfl] at bb
  have bt : ∀ i : Nat, i < 6 → yBt (i_or 0 (i_shl 1 (k : Int))) (i : Int) = if i = k then 1 else 0 := fun i hi => by
    have w := ior_bt 0 (by decide) k hk i hi
    rw [show ((0 : Nat) : Int) = 0 from rfl] at w
    rw [w]
    split
    · rfl
    · exact yBt_z6 i hi
  refine ⟨⟨by have := bb.1; omega, bb.2⟩, fun i h h6 => ?_, fun h => by have := bb.1; omega, fun _ => ⟨h0, k, by omega, ?_⟩, fun i hi yi => ?_, fun i hi ci => ?_⟩
  · rw [bt i h6, if_neg (by omega)]
  · rw [bt k hk, if_pos rfl]
    decide
  · rw [bt i (by omega)]
    by_cases z : i = k
    · rw [if_pos z, z]
      exact ⟨Int.le_refl _, fun _ => by decide⟩
    · rw [if_neg z]
      have w := o5 i (by omega) yi
      rcases h with h | h
      · exact absurd ((o3 h).2 i (by omega)) yi
      · exact ⟨by omega, fun q => by omega⟩
  · rw [bt i (by omega)] at ci
    by_cases z : i = k
    · rw [z]
      exact ⟨y, rfl⟩
    · rw [if_neg z] at ci
      exact absurd rfl ci
/-- the looms that are named, by their bits: how many before house k; the house of loom i -/
def yLc (b : Int) : Nat → Nat
  | 0 => 0
  | k + 1 => yLc b k + (if yBt b k = 0 then 0 else 1)
def yLh (b : Int) : Nat → Nat → Nat
  | 0, _ => 0
  | k + 1, i => if yBt b k ≠ 0 ∧ yLc b k = i then k else yLh b k i
theorem yLc_le : yLc b k ≤ yLc b (k + 1) := by
  show yLc b k ≤ yLc b k + _
  omega
theorem yLh_n (h : ¬ (yBt b k ≠ 0 ∧ yLc b k = j)) : yLh b (k + 1) j = yLh b k j := if_neg h
theorem yLh_old (h : j < yLc b k) : yLh b (k + 1) j = yLh b k j := yLh_n (fun z => by omega)
theorem yLh_new (h : yBt b k ≠ 0) : yLh b (k + 1) (yLc b k) = k := if_pos ⟨h, rfl⟩
theorem yLc_s : yLc b (k + 1) = yLc b k + (if yBt b k = 0 then 0 else 1) := rfl
theorem yLh_b (k : Nat) : j < yLc b k → yLh b k j < k := by
  induction k with
  | zero =>
    intro h
    have h : j < 0 := h
    omega
  | succ k ih =>
    intro h
    rw [yLc_s] at h
    by_cases z : yBt b k ≠ 0 ∧ yLc b k = j
    · have w : yLh b (k + 1) j = k := if_pos z
      omega
    · rw [yLh_n z]
      by_cases z1 : yBt b k = 0
      · rw [if_pos z1] at h
        have := ih (by omega)
        omega
      · rw [if_neg z1] at h
        have := ih (Nat.lt_of_le_of_ne (by omega) (fun q => z ⟨z1, q.symm⟩))
        omega
end YHO
end
section
/-! how many bits are set: the machine's way of counting -/
section YBC
variable {a b c d m x y : Nat}
theorem land_by (hb : b < 256) (hd : d < 256) : (256 * a + b) &&& (256 * c + d) = 256 * (a &&& c) + (b &&& d) := by
  have hbd : b &&& d < 2 ^ 8 := Nat.and_lt_two_pow _ hd
  apply Nat.eq_of_testBit_eq
  intro j
  rw [Nat.testBit_and, show (256 : Nat) = 2 ^ 8 from rfl, Nat.testBit_two_pow_mul_add a hb, Nat.testBit_two_pow_mul_add c hd, Nat.testBit_two_pow_mul_add (a &&& c) hbd]
  split
  · rw [Nat.testBit_and]
  · rw [Nat.testBit_and]
theorem land3 (ha : a < 256) (hb : b < 256) (hc : c < 256) (hm : m < 256) : (65536 * c + 256 * b + a) &&& (16777216 * m + 65536 * m + 256 * m + m) = 65536 * (c &&& m) + 256 * (b &&& m) + (a &&& m) := by
  have w1 := land_by (a := 256 * c + b) (c := 65536 * m + 256 * m + m) ha hm
  have w2 := land_by (a := c) (c := 256 * m + m) hb hm
  have w3 := land_by (a := 0) (c := m) hc hm
  rw [show 256 * 0 + c = c by omega, Nat.zero_and] at w3
  rw [show 256 * (256 * m + m) + m = 65536 * m + 256 * m + m by omega] at w2
  rw [show 256 * (256 * c + b) + a = 65536 * c + 256 * b + a by omega, show 256 * (65536 * m + 256 * m + m) + m = 16777216 * m + 65536 * m + 256 * m + m by omega, w2, w3] at w1
  rw [w1]
  omega
/-- a byte's steps -/
def bS1 (a : Nat) : Nat := a - ((a / 2) &&& 85)
def bS2 (a : Nat) : Nat := (a &&& 51) + ((a / 4) &&& 51)
def bS3 (a : Nat) : Nat := (a + a / 16) &&& 15
def pcn (x : Nat) : Nat → Nat
  | 0 => 0
  | k + 1 => pcn x k + x / 2 ^ k % 2
theorem bt1 : ∀ a : Nat, a < 256 → ∀ r : Nat, r < 2 → (128 * r + a / 2) &&& 85 = (a / 2) &&& 85 := by decide +kernel
theorem bt1b : ∀ a : Nat, a < 256 → (a / 2) &&& 85 ≤ a := by decide +kernel
theorem bt2 : ∀ a : Nat, a < 256 → ∀ r : Nat, r < 4 → (64 * r + a / 4) &&& 51 = (a / 4) &&& 51 := by decide +kernel
theorem bt2b : ∀ a : Nat, a < 256 → bS2 (bS1 a) % 16 ≤ 4 ∧ bS2 (bS1 a) / 16 ≤ 4 := by decide +kernel
theorem bt3 : ∀ p : Nat, p < 5 → ∀ q : Nat, q < 5 → ∀ r : Nat, r < 5 → (16 * p + q + p + 16 * r) &&& 15 = (16 * p + q + p) &&& 15 := by decide +kernel
theorem bt4 : ∀ a : Nat, a < 256 → bS3 (bS2 (bS1 a)) = pcn a 8 := by decide +kernel
def bC1 (x : Nat) : Nat := x - ((x / 2) &&& 1431655765)
def bC2 (x : Nat) : Nat := (x &&& 858993459) + ((x / 4) &&& 858993459)
def bC3 (x : Nat) : Nat := (x + x / 16) &&& 252645135
theorem bC1_e (ha : a < 256) (hb : b < 256) (hc : c < 256) : bC1 (65536 * c + 256 * b + a) = 65536 * bS1 c + 256 * bS1 b + bS1 a := by
  have w := land3 (a := 128 * (b % 2) + a / 2) (b := 128 * (c % 2) + b / 2) (c := c / 2) (m := 85) (by omega) (by omega) (by omega) (by decide)
  rw [bt1 a ha (b % 2) (by omega), bt1 b hb (c % 2) (by omega)] at w
  have qa := bt1b a ha
  have qb := bt1b b hb
  have qc := bt1b c hc
  unfold bC1 bS1
  rw [show (65536 * c + 256 * b + a) / 2 = 65536 * (c / 2) + 256 * (128 * (c % 2) + b / 2) + (128 * (b % 2) + a / 2) by omega, show (1431655765 : Nat) = 16777216 * 85 + 65536 * 85 + 256 * 85 + 85 from rfl, w]
  generalize a / 2 &&& 85 = ra at *
  generalize b / 2 &&& 85 = rb at *
  generalize c / 2 &&& 85 = rc at *
  omega
theorem bC2_e (ha : a < 256) (hb : b < 256) (hc : c < 256) : bC2 (65536 * c + 256 * b + a) = 65536 * bS2 c + 256 * bS2 b + bS2 a := by
  have w := land3 (a := 64 * (b % 4) + a / 4) (b := 64 * (c % 4) + b / 4) (c := c / 4) (m := 51) (by omega) (by omega) (by omega) (by decide)
  rw [bt2 a ha (b % 4) (by omega), bt2 b hb (c % 4) (by omega)] at w
  have v := land3 (m := 51) ha hb hc (by decide)
  unfold bC2 bS2
  rw [show (65536 * c + 256 * b + a) / 4 = 65536 * (c / 4) + 256 * (64 * (c % 4) + b / 4) + (64 * (b % 4) + a / 4) by omega, show (858993459 : Nat) = 16777216 * 51 + 65536 * 51 + 256 * 51 + 51 from rfl, w, v]
  omega
theorem bC3_e (ha : a % 16 ≤ 4 ∧ a / 16 ≤ 4) (hb : b % 16 ≤ 4 ∧ b / 16 ≤ 4) (hc : c % 16 ≤ 4 ∧ c / 16 ≤ 4) : bC3 (65536 * c + 256 * b + a) = 65536 * bS3 c + 256 * bS3 b + bS3 a := by
  have w := land3 (a := a + a / 16 + 16 * (b % 16)) (b := b + b / 16 + 16 * (c % 16)) (c := c + c / 16) (m := 15) (by omega) (by omega) (by omega) (by decide)
  have ta := bt3 (a / 16) (by omega) (a % 16) (by omega) (b % 16) (by omega)
  have tb := bt3 (b / 16) (by omega) (b % 16) (by omega) (c % 16) (by omega)
  rw [show 16 * (a / 16) + a % 16 + a / 16 = a + a / 16 by omega] at ta
  rw [show 16 * (b / 16) + b % 16 + b / 16 = b + b / 16 by omega] at tb
  rw [ta, tb] at w
  unfold bC3 bS3
  rw [show 65536 * c + 256 * b + a + (65536 * c + 256 * b + a) / 16 = 65536 * (c + c / 16) + 256 * (b + b / 16 + 16 * (c % 16)) + (a + a / 16 + 16 * (b % 16)) by omega, show (252645135 : Nat) = 16777216 * 15 + 65536 * 15 + 256 * 15 + 15 from rfl, w]
theorem pcn_b : ∀ k : Nat, pcn x k ≤ k
  | 0 => Nat.le_refl _
  | k + 1 => by
    have w := pcn_b k
    show pcn x k + x / 2 ^ k % 2 ≤ _
    omega
theorem pcn_add (n : Nat) : ∀ k : Nat, pcn x (n + k) = pcn x n + pcn (x / 2 ^ n) k
  | 0 => rfl
  | k + 1 => by
    show pcn x (n + k) + x / 2 ^ (n + k) % 2 = pcn x n + (pcn (x / 2 ^ n) k + x / 2 ^ n / 2 ^ k % 2)
    rw [pcn_add n k, Nat.div_div_eq_div_mul, ← Nat.pow_add]
    omega
theorem pcn_low : ∀ k : Nat, k ≤ 8 → pcn (256 * y + a) k = pcn a k
  | 0, _ => rfl
  | k + 1, h => by
    show pcn (256 * y + a) k + (256 * y + a) / 2 ^ k % 2 = pcn a k + a / 2 ^ k % 2
    rw [pcn_low k (by omega)]
    have hk : k = 0 ∨ k = 1 ∨ k = 2 ∨ k = 3 ∨ k = 4 ∨ k = 5 ∨ k = 6 ∨ k = 7 := by omega
    rcases hk with rfl | rfl | rfl | rfl | rfl | rfl | rfl | rfl
    · rw [show (2 : Nat) ^ 0 = 1 from rfl]; omega
    · rw [show (2 : Nat) ^ 1 = 2 from rfl]; omega
    · rw [show (2 : Nat) ^ 2 = 4 from rfl]; omega
    · rw [show (2 : Nat) ^ 3 = 8 from rfl]; omega
    · rw [show (2 : Nat) ^ 4 = 16 from rfl]; omega
    · rw [show (2 : Nat) ^ 5 = 32 from rfl]; omega
    · rw [show (2 : Nat) ^ 6 = 64 from rfl]; omega
    · rw [show (2 : Nat) ^ 7 = 128 from rfl]; omega
theorem pcn_3 (ha : a < 256) (hb : b < 256) : pcn (65536 * c + 256 * b + a) 24 = pcn c 8 + pcn b 8 + pcn a 8 := by
  rw [show (24 : Nat) = 8 + 16 from rfl, pcn_add 8 16, show (2 : Nat) ^ 8 = 256 from rfl, show (16 : Nat) = 8 + 8 from rfl, pcn_add 8 8, show (2 : Nat) ^ 8 = 256 from rfl, show (65536 * c + 256 * b + a) / 256 = 256 * c + b by omega, show (256 * c + b) / 256 = c by omega, pcn_low 8 (Nat.le_refl _), show 65536 * c + 256 * b + a = 256 * (256 * c + b) + a by omega, pcn_low 8 (Nat.le_refl _)]
  omega
/-- what is counted -/
def bC5 (x : Nat) : Nat := (x + x / 256 + (x + x / 256) / 65536) % 64
theorem bC_ok (h : x < 16777216) : bC5 (bC3 (bC2 (bC1 x))) = pcn x 24 ∧ bC1 x < 16777216 ∧ bC2 (bC1 x) < 16777216 ∧ bC3 (bC2 (bC1 x)) < 1000000 := by
  obtain ⟨a, b, c, ha, hb, hc, e⟩ : ∃ a b c : Nat, a < 256 ∧ b < 256 ∧ c < 256 ∧ x = 65536 * c + 256 * b + a := ⟨x % 256, x / 256 % 256, x / 65536, by omega, by omega, by omega, by omega⟩
  have s1 : ∀ a : Nat, a < 256 → bS1 a < 256 := fun a ha => by unfold bS1; omega
  have s2 : ∀ a : Nat, a < 256 → bS2 (bS1 a) < 256 := fun a ha => by have := bt2b a ha; omega
  have e1 := bC1_e ha hb hc
  have e2 := bC2_e (s1 a ha) (s1 b hb) (s1 c hc)
  have e3 := bC3_e (bt2b a ha) (bt2b b hb) (bt2b c hc)
  rw [bt4 a ha, bt4 b hb, bt4 c hc] at e3
  have pa := pcn_b (x := a) 8
  have pb := pcn_b (x := b) 8
  have pc := pcn_b (x := c) 8
  have p3 := pcn_3 (c := c) ha hb
  have v1 := s1 a ha
  have v2 := s1 b hb
  have v3 := s1 c hc
  have u1 := s2 a ha
  have u2 := s2 b hb
  have u3 := s2 c hc
  rw [e, e1, e2, e3, p3]
  generalize pcn a 8 = A at *
  generalize pcn b 8 = B at *
  generalize pcn c 8 = C at *
  have q1 : (65536 * C + 256 * B + A) / 256 = 256 * C + B := by omega
  have q2 : (65536 * C + 256 * B + A + (256 * C + B)) / 65536 = C := by omega
  unfold bC5
  rw [q1, q2]
  refine ⟨by omega, by omega, by omega, by omega⟩
end YBC
end
section
/-! hands: what is chosen for each lot, what the search finds: pure -/
section YHS
variable {d : hD} {i j k l n m r : Nat} {x w b : Int} {e f : Nat → Int} {c : Nat → Nat → Int} {s : hC} {t : hS}
/-- the fewest days, and the looms that have them, of looms 0 .. k-1 for lot j -/
def hOr (d : hD) (j : Nat) : Nat → Int × Int
  | 0 => (-1, 0)
  | k + 1 => if hy d j k = 0 then hOr d j k else if (hOr d j k).1 = -1 ∨ hf d j k < (hOr d j k).1 then (hf d j k, i_or 0 (i_shl 1 (k : Int))) else if hf d j k = (hOr d j k).1 then ((hOr d j k).1, i_or (hOr d j k).2 (i_shl 1 (k : Int))) else hOr d j k
theorem hOr_0 (y : hy d j k = 0) : hOr d j (k + 1) = hOr d j k := if_pos y
theorem hOr_n (y : hy d j k ≠ 0) (z : (hOr d j k).1 = -1 ∨ hf d j k < (hOr d j k).1) : hOr d j (k + 1) = (hf d j k, i_or 0 (i_shl 1 (k : Int))) := (if_neg y).trans (if_pos z)
theorem hOr_s (y : hy d j k ≠ 0) (z : ¬ ((hOr d j k).1 = -1 ∨ hf d j k < (hOr d j k).1)) (q : hf d j k = (hOr d j k).1) : hOr d j (k + 1) = ((hOr d j k).1, i_or (hOr d j k).2 (i_shl 1 (k : Int))) := (if_neg y).trans ((if_neg z).trans (if_pos q))
theorem hOr_f (y : hy d j k ≠ 0) (z : ¬ ((hOr d j k).1 = -1 ∨ hf d j k < (hOr d j k).1)) (q : hf d j k ≠ (hOr d j k).1) : hOr d j (k + 1) = hOr d j k := (if_neg y).trans ((if_neg z).trans (if_neg q))
theorem hOr_ok (B : hOk d) (hj : j < hn d) : ∀ k : Nat, k ≤ hm d → hOf d j k (hOr d j k).1 (hOr d j k).2
  | 0, _ => hOf_i
  | k + 1, hk => by
    have O := hOr_ok B hj k (by omega)
    have k6 : k < 6 := by have := B.1.2; omega
    have o3 := O.2.2.1
    have o4 := O.2.2.2.1
    by_cases y : hy d j k = 0
    · rw [hOr_0 y]
      exact O.none k6 y
    · have g := B.2.2 j k hj (by omega) y
      by_cases z : (hOr d j k).1 = -1 ∨ hf d j k < (hOr d j k).1
      · rw [hOr_n y z]
        refine O.new k6 y g.2.2.1 ?_
        rcases z with z | z
        · by_cases zb : (hOr d j k).2 = 0
          · exact Or.inl zb
          · have := (o4 zb).1
            omega
        · exact Or.inr z
      · have nb : (hOr d j k).2 ≠ 0 := fun zb => z (Or.inl (o3 zb).1)
        by_cases q : hf d j k = (hOr d j k).1
        · rw [hOr_s y z q]
          exact O.same k6 nb y q
        · rw [hOr_f y z q]
          exact O.far k6 nb (by omega)
/-- for each lot: the looms' bits, the days; is loom i among them -/
def hBe (d : hD) (k : Nat) : Int := (hOr d k (hm d)).2
def hBf (d : hD) (k : Nat) : Int := (hOr d k (hm d)).1
def hBc (d : hD) (k i : Nat) : Int := yBt (hBe d k) (i : Int)
theorem hB_ch (B : hOk d) : hCh d (hBe d) (hBf d) (hBc d) := fun k hk => by
  obtain ⟨o1, o2, o3, o4, o5, o6⟩ := hOr_ok B hk (hm d) (Nat.le_refl _)
  refine ⟨fun h i hi => ⟨(o3 h).2 i hi, ?_⟩, fun h => (o4 h).2, o5, o6⟩
  show yBt (hBe d k) (i : Int) = 0
  rw [h]
  exact yBt_z6 i (by have := B.1.2; omega)
theorem hB_o (B : hOk d) (hk : k < hn d) (hi : i ≤ hm d) : (0 ≤ (hOr d k i).2 ∧ (hOr d k i).2 < 64) ∧ (-1 ≤ (hOr d k i).1 ∧ (hOr d k i).1 ≤ 999999) ∧ ((hOr d k i).2 = 0 → (hOr d k i).1 = -1) ∧ ((hOr d k i).2 ≠ 0 → 0 ≤ (hOr d k i).1) := by
  obtain ⟨o1, o2, o3, o4, o5, o6⟩ := hOr_ok B hk i hi
  refine ⟨o1, ?_, fun z => (o3 z).1, fun z => (o4 z).1⟩
  by_cases z : (hOr d k i).2 = 0
  · have := (o3 z).1
    omega
  · obtain ⟨a, v, hv, cv⟩ := o4 z
    have w := o6 v hv cv
    have g := B.2.2 k v hk (by omega) w.1
    omega
/-- folds -/
theorem fo_mono {f : Nat → hC → hC} (h : ∀ i s, i < n → (f i s).1 ≤ s.1) : ∀ {m : Nat} {s : hC}, m ≤ n → (fo f m s).1 ≤ s.1
  | 0, _, _ => Int.le_refl _
  | m + 1, s, hm => Int.le_trans (h m _ (by omega)) (fo_mono h (by omega))
theorem fo_ex {α : Type} {f : Nat → α → α} {P R : α → Prop} (hR : ∀ i s, i < n → R s → R (f i s)) (hP : ∀ i s, i < n → P s → P (f i s)) (h : ∀ s, R s → P (f j s)) : ∀ {m : Nat} {s : α}, m ≤ n → j < m → R s → P (fo f m s)
  | 0, _, _, h0, _ => absurd h0 (Nat.not_lt_zero _)
  | m + 1, s, hm, h1, q => by
    by_cases z : j = m
    · subst z
      exact h _ (fo_inv hR (by omega) q)
    · exact hP m _ (by omega) (fo_ex hR hP h (by omega) (by omega) q)
theorem hX_mono : ∀ (r k : Nat) (w : Int) (l g : Nat → Int) (s : hC), (hX d e c r k w l g s).1 ≤ s.1
  | 0, k, w, l, g, s => by
    show (if s.1 ≤ w then s else (w, l)).1 ≤ s.1
    split
    · exact Int.le_refl _
    · show w ≤ s.1
      omega
  | r + 1, k, w, l, g, s => by
    show (if s.1 ≤ w then s else _).1 ≤ s.1
    split
    · exact Int.le_refl _
    · refine Int.le_trans (fo_mono (n := hm d) (fun i t hi => ?_) (Nat.le_refl _)) ?_
      · show (if c k i = 0 then t else hX d e c r (k + 1) _ _ _ t).1 ≤ t.1
        split
        · exact Int.le_refl _
        · exact hX_mono r (k + 1) _ _ _ t
      · split
        · exact hX_mono r (k + 1) _ _ _ s
        · exact Int.le_refl _
theorem hQt (B : hOk d) (hk : k < hn d) (hi : i < hm d) (y : hy d k i ≠ 0) (hx : 0 ≤ x ∧ x ≤ 4000 * (k : Int)) : 0 ≤ (x + hN d k + hc d i - 1) / hc d i ∧ (x + hN d k + hc d i - 1) / hc d i ≤ 24000 := by
  have b := B.2.2 k i hk hi y
  have v := B.2.1 k hk
  have u := hK_b (d := d) (i := i) (a := x + hN d k) b.2.1 (by omega)
  have b6 := B.1.1
  unfold hK at u
  rw [if_neg (by omega)] at u
  omega
/-- something is found -/
theorem hX_fd (P : hCh d e f c) (B : hOk d) : ∀ (r k : Nat) (w : Int) (l g : Nat → Int) (s : hC), k + r = hn d → (0 ≤ w ∧ w ≤ 24000) → (∀ i, i < hm d → 0 ≤ g i ∧ g i ≤ 4000 * (k : Int)) → (hX d e c r k w l g s).1 < 1000000
  | 0, k, w, l, g, s, hk, hw, hg => by
    show (if s.1 ≤ w then s else (w, l)).1 < 1000000
    split
    · omega
    · show w < 1000000
      omega
  | r + 1, k, w, l, g, s, hk, hw, hg => by
    show (if s.1 ≤ w then s else _).1 < 1000000
    split
    · omega
    · by_cases ze : e k = 0
      · refine Int.lt_of_le_of_lt (fo_mono (n := hm d) (fun i t hi => ?_) (Nat.le_refl _)) ?_
        · show (if c k i = 0 then t else hX d e c r (k + 1) _ _ _ t).1 ≤ t.1
          split
          · exact Int.le_refl _
          · exact hX_mono r (k + 1) _ _ _ t
        · rw [if_pos ze]
          exact hX_fd P B r (k + 1) w _ g s (by omega) hw (fun i hi => by have := hg i hi; omega)
      · obtain ⟨p1, p2, p3, p4⟩ := P k (by omega)
        obtain ⟨i0, hi0, ci0⟩ := p2 ze
        refine fo_ex (n := hm d) (j := i0) (P := fun t : hC => t.1 < 1000000) (R := fun _ => True) (fun _ _ _ _ => trivial) (fun i t hi ht => ?_) (fun t _ => ?_) (Nat.le_refl _) hi0 trivial
        · show (if c k i = 0 then t else hX d e c r (k + 1) _ _ _ t).1 < 1000000
          split
          · exact ht
          · exact Int.lt_of_le_of_lt (hX_mono r (k + 1) _ _ _ t) ht
        · show (if c k i0 = 0 then t else hX d e c r (k + 1) (max w ((g i0 + hN d k + hc d i0 - 1) / hc d i0)) (hu l k i0) (hu g i0 (g i0 + hN d k)) t).1 < 1000000
          rw [if_neg ci0]
          have y := (p4 i0 hi0 ci0).1
          have gb := hg i0 hi0
          have nb := B.2.1 k (by omega)
          have qt := hQt B (k := k) (by omega) hi0 y gb
          refine hX_fd P B r (k + 1) _ _ _ t (by omega) (by omega) (fun i hi => ?_)
          by_cases z : i = i0
          · rw [z, hu_e]
            omega
          · rw [hu_n z]
            have := hg i hi
            omega
theorem hW_0 : ∀ j : Nat, hW d e 0 j = 0
  | 0 => rfl
  | j + 1 => by
    show max (hW d e 0 j) (hK d j 0) = 0
    rw [hW_0 j]
    unfold hK
    rw [if_pos rfl]
    rfl
theorem hR_0 (P : hCh d e f c) (B : hOk d) {l1 : Nat → Int} (h : t.1 = -1) : hR d e f t (1000000, l1) := by
  have w := hAB P B (hn d) (Nat.le_refl _)
  refine ⟨Int.le_refl _, fun z => ?_, fun _ => Or.inl (by omega)⟩
  have z : (1000000 : Int) < 1000000 := z
  omega
/-- all ways and the search: the same best -/
theorem hRes (P : hCh d e f c) (B : hOk d) {l0 l1 g0 : Nat → Int} (h : t.1 = -1) (hg : ∀ i, i < hm d → g0 i = 0) : ((hT d (hn d) 0 l0 t).1 = hA d e (hn d) ∧ (hT d (hn d) 0 l0 t).2.1 = hB e f (hn d) ∧ (hT d (hn d) 0 l0 t).2.2.1 = (hX d e c (hn d) 0 0 l0 g0 (1000000, l1)).1) ∧ ∀ j, j < hn d → (hT d (hn d) 0 l0 t).2.2.2 j = (hX d e c (hn d) 0 0 l0 g0 (1000000, l1)).2 j := by
  have R := hR.run P B (hn d) 0 l0 g0 t (1000000, l1) (by omega) (fun j hj => absurd hj (Nat.not_lt_zero _)) (fun j hj => absurd hj (Nat.not_lt_zero _)) (fun i hi => hg i hi) (hR_0 P B h)
  rw [hW_0] at R
  exact R.2.1 (hX_fd P B (hn d) 0 0 l0 g0 (1000000, l1) (by omega) (by decide) (fun i hi => by rw [hg i hi]; omega))
theorem hX_ind (P : hCh d e f c) (B : hOk d) {l0 l1 l2 g0 : Nat → Int} (hg : ∀ i, i < hm d → g0 i = 0) : (hX d e c (hn d) 0 0 l0 g0 (1000000, l1)).1 = (hX d e c (hn d) 0 0 l0 g0 (1000000, l2)).1 ∧ ∀ j, j < hn d → (hX d e c (hn d) 0 0 l0 g0 (1000000, l1)).2 j = (hX d e c (hn d) 0 0 l0 g0 (1000000, l2)).2 j := by
  have h1 := hRes P B (t := (-1, 0, 0, l0)) (l0 := l0) (l1 := l1) (g0 := g0) rfl hg
  have h2 := hRes P B (t := (-1, 0, 0, l0)) (l0 := l0) (l1 := l2) (g0 := g0) rfl hg
  exact ⟨h1.1.2.2.symm.trans h2.1.2.2, fun j hj => (h1.2 j hj).symm.trans (h2.2 j hj)⟩
/-- what is found is one of the looms, or none -/
def hIn (d : hD) (s : hC) : Prop := s.1 < 1000000 → ∀ j, j < hn d → s.2 j = -1 ∨ (0 ≤ s.2 j ∧ s.2 j < hm d)
theorem hX_in : ∀ (r k : Nat) (w : Int) (l g : Nat → Int) (s : hC), k + r = hn d → (∀ j, j < k → l j = -1 ∨ (0 ≤ l j ∧ l j < hm d)) → hIn d s → hIn d (hX d e c r k w l g s)
  | 0, k, w, l, g, s, hk, hl, hs => by
    show hIn d (if s.1 ≤ w then s else (w, l))
    split
    · exact hs
    · exact fun _ j hj => hl j (by omega)
  | r + 1, k, w, l, g, s, hk, hl, hs => by
    have st : ∀ x : Int, (x = -1 ∨ (0 ≤ x ∧ x < hm d)) → ∀ j, j < k + 1 → hu l k x j = -1 ∨ (0 ≤ hu l k x j ∧ hu l k x j < hm d) := fun x hx j hj => by
      by_cases z : j = k
      · rw [z, hu_e]
        exact hx
      · rw [hu_n z]
        exact hl j (by omega)
    show hIn d (if s.1 ≤ w then s else _)
    split
    · exact hs
    · refine fo_inv (P := hIn d) (n := hm d) (fun i t hi ht => ?_) (Nat.le_refl _) ?_
      · show hIn d (if c k i = 0 then t else hX d e c r (k + 1) _ _ _ t)
        split
        · exact ht
        · exact hX_in r (k + 1) _ _ _ t (by omega) (st i (Or.inr (by first | omega | exact ⟨by omega, by omega⟩))) ht
      · split
        · exact hX_in r (k + 1) _ _ _ s (by omega) (st (-1) (Or.inl rfl)) hs
        · exact hs
end YHS
end
section
/-! hands: the data of a run, out of the tables; bits as they are counted -/
section YHD
variable {S T : zT} {q : qT} {b : Int} {i j k l n m v : Nat} {x y w : Int} {h g : Hp}
/-- what is left of every lot -/
def yLf (S : zT) : Prop := ∀ l : Nat, (l : Int) < S 37 64 → 0 ≤ S 175 l ∧ S 175 l ≤ 4000
/-- lots that are asked are there -/
def yHa (S : zT) : Prop := (0 ≤ S 37 86 ∧ S 37 86 ≤ 6) ∧ ∀ k : Nat, (k : Int) < S 37 86 → 0 ≤ S 186 k ∧ S 186 k < S 37 64
def yHl (S : zT) (k : Nat) : Nat := (S 186 k).toNat
def yHh (S : zT) (b : Int) (i : Nat) : Nat := yLh b (S 37 2).toNat i
def yHm (S : zT) (b : Int) : Nat := yLc b (S 37 2).toNat
def yHN (S : zT) (k : Nat) : Int := S 175 (yHl S k) - S 175 (yHl S k) % 2
def yHy (q : qT) (S : zT) (b : Int) (k i : Nat) : Int := if 2 ≤ yHN S k ∧ yLbar q S (yHh S b i) (yHl S k) (yHN S k) = 0 then 1 else 0
def yHf (S : zT) (b : Int) (k i : Nat) : Int := yFarq S (S 79 (S 170 (yHl S k)).toNat).toNat (S 79 (yHh S b i)).toNat
def yHd (q : qT) (S : zT) (b : Int) : hD := (((S 37 86).toNat, yHm S b), ((yHN S, fun i => S 91 (yHh S b i)), (yHy q S b, yHf S b)))
theorem yHN_b (L : yLf S) (A : yHa S) (hk : (k : Int) < S 37 86) : 0 ≤ yHN S k ∧ yHN S k ≤ 4000 := by
  have a := A.2 k hk
  have w := L (yHl S k) (by unfold yHl; omega)
  unfold yHN
  omega
theorem yHh_b (hi : i < yHm S b) : yHh S b i < (S 37 2).toNat := yLh_b _ hi
theorem yHy_0 (h : yHN S k < 2) : yHy q S b k i = 0 := if_neg (fun z => by omega)
theorem yHy_z {bt : Int} (h : yLbar q S (yHh S bt i) (yHl S k) (yHN S k) ≠ 0) : hy (yHd q S bt) k i = 0 := if_neg (fun z => h z.2)
theorem yHy_y {bt : Int} (h2 : 2 ≤ yHN S k) (h : yLbar q S (yHh S bt i) (yHl S k) (yHN S k) = 0) : hy (yHd q S bt) k i ≠ 0 := by
  show (if 2 ≤ yHN S k ∧ yLbar q S (yHh S bt i) (yHl S k) (yHN S k) = 0 then (1 : Int) else 0) ≠ 0
  rw [if_pos ⟨h2, h⟩]
  decide
theorem yLbar_0 {l : Nat} {c : Int} (h : yLbar q S k l c = 0) : 0 < S 91 k ∧ yFarq S (S 79 (S 170 l).toNat).toNat (S 79 k).toNat ≠ -1 := by
  unfold yLbar at h
  by_cases h1 : S 91 k ≤ 0
  · rw [if_pos h1] at h
    exact absurd h (by decide)
  · rw [if_neg h1] at h
    by_cases h2 : S 172 l < S 89 k ∨ S 90 k < S 172 l
    · rw [if_pos h2] at h
      exact absurd h (by decide)
    · rw [if_neg h2] at h
      by_cases h3 : S 173 l < S 172 l + 30
      · rw [if_pos h3] at h
        exact absurd h (by decide)
      · rw [if_neg h3] at h
        by_cases h4 : yFarq S (S 79 (S 170 l).toNat).toNat (S 79 k).toNat = -1
        · rw [if_pos h4] at h
          exact absurd h (by decide)
        · exact ⟨by omega, h4⟩
theorem yHd_ok (K : yOK S) (F : yF8 S) (L : yLf S) (A : yHa S) (hb : yHm S b ≤ 6) : hOk (yHd q S b) := by
  have s := K.s
  refine ⟨⟨by show (S 37 86).toNat ≤ 6; have := A.1; omega, hb⟩, fun k hk => ?_, fun k i hk hi y => ?_⟩
  · have hk : k < (S 37 86).toNat := hk
    exact yHN_b L A (by omega)
  · have hk : k < (S 37 86).toNat := hk
    have hi : i < yHm S b := hi
    have y : (if 2 ≤ yHN S k ∧ yLbar q S (yHh S b i) (yHl S k) (yHN S k) = 0 then (1 : Int) else 0) ≠ 0 := y
    by_cases z : 2 ≤ yHN S k ∧ yLbar q S (yHh S b i) (yHl S k) (yHN S k) = 0
    · have w := yLbar_0 z.2
      have a := A.2 k (by omega)
      have u := yHh_b hi
      have lo := K.lo (l := yHl S k) (by unfold yHl; omega)
      have t := K.ho (k := (S 170 (yHl S k)).toNat) (by omega)
      have u2 := K.ho (k := yHh S b i) (by omega)
      have f := yFarq_b F (k := (S 79 (S 170 (yHl S k)).toNat).toNat) (l := (S 79 (yHh S b i)).toNat) (by omega) (by omega)
      refine ⟨z.1, by show 1 ≤ S 91 (yHh S b i); omega, ?_⟩
      show 0 ≤ yHf S b k i ∧ yHf S b k i ≤ 999999
      unfold yHf
      omega
    · rw [if_neg z] at y
      exact absurd rfl y
/-- names told for a lot, with up to 4000 hanks -/
theorem eNs_wm (K : yOK S) (F : yF8 S) (hk : (k : Int) < S 37 2) (hl : (l : Int) < S 37 64) (hn : 0 ≤ x ∧ x ≤ 4000) : eNs (yWN S k l x) := by
  have s := K.s
  have w := K.lo hl
  have u := K.ho hk
  have t := K.ho (k := (S 170 l).toNat) (by omega)
  have f := yFarq_b F (k := (S 79 (S 170 l).toNat).toNat) (l := (S 79 k).toNat) (by omega) (by omega)
  refine eNs_zn (eNs_zu (eNs_zu (eNs_zn (eNs_zu (eNs_nmh K (eNs_nm0 K) (by omega)) (by omega)) ?_) (by omega)) (by omega)) ?_
  · unfold eNum
    omega
  · unfold eNum
    omega
/-- hands can be: lots are told, the looms are known and one to six -/
abbrev yHok (S : zT) (b : Int) : Prop := 0 < S 37 86 ∧ (0 ≤ b ∧ b < ((2 ^ (S 37 2).toNat : Nat) : Int)) ∧ (1 ≤ yHm S b ∧ yHm S b ≤ 6)
def yHX (q : qT) (S : zT) (b : Int) : hC := hX (yHd q S b) (hBe (yHd q S b)) (hBc (yHd q S b)) (S 37 86).toNat 0 0 (fun _ => 0) (fun _ => 0) (1000000, fun _ => 0)
def yHw (q : qT) (S : zT) (b : Int) (k : Nat) : Int := if 0 ≤ (yHX q S b).2 k ∧ (yHX q S b).2 k < yHm S b then yHh S b ((yHX q S b).2 k).toNat else -1
def yHh0 (q : qT) (S : zT) (b : Int) : Int := hA (yHd q S b) (hBe (yHd q S b)) (S 37 86).toNat
def yHh1 (q : qT) (S : zT) (b : Int) : Int := hB (hBe (yHd q S b)) (hBf (yHd q S b)) (S 37 86).toNat
def yHnA (q : qT) (S : zT) (a b : Int) : Int := if yHok S a then (if 10 ≤ b ∧ b ≤ 9 + S 37 86 then yHw q S a (b - 10).toNat else if b = 0 then yHh0 q S a else if b = 1 then yHh1 q S a else if b = 2 then (yHX q S a).1 else -1) else -1
/-- the machine's bits of numbers that aren't negative -/
theorem us_n {A K : Nat} (hA : A < 2147483648) (hK : K < 32) : i_ushr (A : Int) (K : Int) = ((A / 2 ^ K : Nat) : Int) := by
  have e : ((K : Int) % 32).toNat = K := by omega
  have d : A / 2 ^ K ≤ A := Nat.div_le_self _ _
  have z : (((A / 2 ^ K : Nat) : Int)) = (A : Int) / (2 : Int) ^ K := by rw [Int.natCast_ediv, Int.natCast_pow]; rfl
  unfold i_ushr
  rw [e, show (A : Int) % 4294967296 = (A : Int) by omega, ← z]
  clear z
  generalize A / 2 ^ K = B at d ⊢
  exact w32_id (by first | omega | exact ⟨by omega, by omega⟩)
theorem an_n {A B : Nat} (hA : A < 2147483648) (hB : B < 2147483648) : i_and (A : Int) (B : Int) = ((A &&& B : Nat) : Int) := by
  have l : A &&& B ≤ A := Nat.and_le_left
  unfold i_and z32
  rw [show ((A : Int) % 4294967296).toNat = A by omega, show ((B : Int) % 4294967296).toNat = B by omega]
  exact w32_id (by first | omega | exact ⟨by omega, by omega⟩)
theorem sr_n {A K : Nat} (hK : K < 32) : i_shr (A : Int) (K : Int) = ((A / 2 ^ K : Nat) : Int) := by
  have e : ((K : Int) % 32).toNat = K := by omega
  unfold i_shr
  rw [e, Int.natCast_ediv, Int.natCast_pow]
  rfl
theorem yBt_n {A K : Nat} (hA : A < 2147483648) (hK : K < 32) : yBt (A : Int) (K : Int) = ((A / 2 ^ K % 2 : Nat) : Int) := by
  have d : A / 2 ^ K ≤ A := Nat.div_le_self _ _
  unfold yBt
  rw [sr_n hK, show (1 : Int) = ((1 : Nat) : Int) from rfl, an_n (by omega) (by decide), Nat.and_one_is_mod]
theorem yLc_n {A : Nat} (hA : A < 2147483648) : ∀ K : Nat, K ≤ 32 → yLc (A : Int) K = pcn A K
  | 0, _ => rfl
  | K + 1, hK => by
    show yLc (A : Int) K + (if yBt (A : Int) (K : Int) = 0 then 0 else 1) = pcn A K + A / 2 ^ K % 2
    rw [yLc_n hA K (by omega), yBt_n hA (by omega)]
    by_cases z : A / 2 ^ K % 2 = 0
    · rw [z]
      rfl
    · rw [show A / 2 ^ K % 2 = 1 by omega]
      rfl
theorem pcn_0 : ∀ K : Nat, pcn 0 K = 0
  | 0 => rfl
  | K + 1 => by
    show pcn 0 K + 0 / 2 ^ K % 2 = 0
    rw [pcn_0 K, Nat.zero_div]
theorem pcn_hi {A n : Nat} (hA : A < 2 ^ n) (hn : n ≤ 24) : pcn A 24 = pcn A n := by
  have w := pcn_add (x := A) n (24 - n)
  rw [show n + (24 - n) = 24 by omega, Nat.div_eq_of_lt hA, pcn_0] at w
  omega
theorem p2_b : ∀ n : Nat, n < 21 → 1 ≤ 2 ^ n ∧ 2 ^ n ≤ 1048576 := by decide +kernel
theorem yHm_c {a : Int} (ha : 0 ≤ a ∧ a < ((2 ^ n : Nat) : Int)) (hn : n < 21) : ((pcn a.toNat 24 : Nat) : Int) = ((yLc a n : Nat) : Int) := by
  have p : 2 ^ n ≤ 1048576 := (p2_b n hn).2
  obtain ⟨A, rfl⟩ : ∃ A : Nat, a = (A : Int) := ⟨a.toNat, by omega⟩
  have hA : A < 2 ^ n := Int.ofNat_lt.mp ha.2
  rw [yLc_n (by omega) n (by omega), show ((A : Int)).toNat = A from rfl, pcn_hi hA (by omega)]
theorem yLc_0 (hn : n ≤ 32) : yLc 0 n = 0 := (yLc_n (A := 0) (by decide) n hn).trans (pcn_0 n)
theorem sh1_n : ∀ n : Nat, n < 21 → i_shl 1 (n : Int) = ((2 ^ n : Nat) : Int) := by decide +kernel
/-- looms >>> houses is zero -/
theorem us_0 {a : Int} (ha : -2147483648 ≤ a ∧ a ≤ 2147483647) (hn : n < 21) : i_ushr a (n : Int) = 0 ↔ (0 ≤ a ∧ a < ((2 ^ n : Nat) : Int)) := by
  have e : ((n : Int) % 32).toNat = n := by omega
  have p := p2_b n hn
  have z : ((2 ^ n : Nat) : Int) = (2 : Int) ^ n := by rw [Int.natCast_pow]; rfl
  unfold i_ushr
  rw [e, ← z]
  clear z
  revert p
  generalize 2 ^ n = P
  intro p
  have q0 : 0 ≤ a % 4294967296 / P := Int.ediv_nonneg (by omega) (by omega)
  have q1 : a % 4294967296 / P ≤ a % 4294967296 := Int.ediv_le_self _ (by omega)
  have q2 : a % 4294967296 / P = 0 ↔ a % 4294967296 < P := by
    constructor
    · intro z
      by_cases t : a % 4294967296 < P
      · exact t
      · have u : 1 ≤ a % 4294967296 / P := (Int.le_ediv_iff_mul_le (by omega)).mpr (by omega)
        omega
    · exact fun t => Int.ediv_eq_zero_of_lt (by omega) t
  have q3 : w32 (a % 4294967296 / P) = 0 ↔ a % 4294967296 / P = 0 := by
    unfold w32
    omega
  rw [q3, q2]
  omega
end YHD
end
section
/-! hands, the class: what lies in its arrays -/
section YXH
variable {d : hD} {ll gt gu l1 l2 : Nat → Int} {hh hi : Nat → Nat} {h g : Hp} {ms : Zms} {c s x y w b : Int} {i j k m n r : Nat} {q t : hC}
def xPk (n : Nat) (ll : Nat → Int) (h : Hp) : Prop := ∀ j : Nat, j < n → fld h 25 j = ll j
def xGt (n : Nat) (gt : Nat → Int) (h : Hp) : Prop := ∀ j : Nat, j < n → fld h 24 j = gt j
def xHq (d : hD) (q : hC) (h : Hp) : Prop := fld h 19 4 = q.1 ∧ ∀ j : Nat, j < hn d → fld h 26 j = q.2 j
def xLm (n : Nat) (hh : Nat → Nat) (h : Hp) : Prop := fld h 21 2 = n ∧ ∀ i : Nat, i < n → (hh i : Int) < fld h 3 2 ∧ zv h 21 i = zv h 3 (hh i)
def xHo (d : hD) (n : Nat) (h : Hp) : Prop := (∀ k : Nat, k < n → fld h 22 k = hN d k ∧ fld h 23 k = hBe d k) ∧ fld h 19 2 = hA d (hBe d) n ∧ fld h 19 3 = hB (hBe d) (hBf d) n
def xHs (d : hD) (hh : Nat → Nat) (h : Hp) : Prop := (fld h 20 2 = hn d ∧ xLm (hm d) hh h) ∧ ∀ k : Nat, k < hn d → fld h 22 k = hN d k ∧ fld h 23 k = hBe d k
theorem xPk.fr (H : xPk n ll h) (R : zXR ms c s h g) (e : zun ms 25 = true) : xPk n ll g := fun j hj => (congrFun (R.fa (a := 25) e (by decide)) j).trans (H j hj)
theorem xGt.fr (H : xGt n gt h) (R : zXR ms c s h g) (e : zun ms 24 = true) : xGt n gt g := fun j hj => (congrFun (R.fa (a := 24) e (by decide)) j).trans (H j hj)
def zkHq (ms : Zms) : Bool := zqN ms 19 19 4 5 && zun ms 26
theorem xHq.fr (H : xHq d q h) (R : zXR ms c s h g) (e : zkHq ms = true) : xHq d q g := by
  unfold zkHq at e
  rw [Bool.and_eq_true] at e
  exact ⟨(R.f (a1 := 19) (a2 := 19) (j1 := 4) (j2 := 5) e.1 (by first | decide | exact ⟨by decide, by decide⟩) (by first | decide | exact ⟨by decide, by decide⟩) (by first | decide | exact ⟨by decide, by decide⟩)).trans H.1, fun j hj => (congrFun (R.fa (a := 26) e.2 (by decide)) j).trans (H.2 j hj)⟩
def zkLm (ms : Zms) : Bool := zun ms 21 && zun ms 3
theorem xLm.fr (H : xLm n hh h) (C : CI h) (R : zXR ms c s h g) (e : zkLm ms = true) : xLm n hh g := by
  unfold zkLm at e
  rw [Bool.and_eq_true] at e
  have z3 : fld g ((3 : Nat) : Int) 2 = fld h ((3 : Nat) : Int) 2 := R.vz (by decide) e.2
  have z21 : fld g ((21 : Nat) : Int) 2 = fld h ((21 : Nat) : Int) 2 := R.vz (by decide) e.1
  refine ⟨z21.trans H.1, fun i hi => ?_⟩
  obtain ⟨a, b⟩ := H.2 i hi
  refine ⟨?_, ?_⟩
  · show (hh i : Int) < fld g ((3 : Nat) : Int) 2
    rw [z3]
    exact a
  · rw [R.v C (A := 21) (by decide) e.1 (by show (i : Int) < fld h 21 2; rw [H.1]; omega), R.v C (A := 3) (by decide) e.2 a]
    exact b
def zkHo (ms : Zms) : Bool := (zun ms 22 && zun ms 23) && zqN ms 19 19 2 4
theorem xHo.fr (H : xHo d n h) (R : zXR ms c s h g) (e : zkHo ms = true) : xHo d n g := by
  unfold zkHo at e
  simp only [Bool.and_eq_true] at e
  obtain ⟨⟨e1, e2⟩, e3⟩ := e
  exact ⟨fun k hk => ⟨(congrFun (R.fa (a := 22) e1 (by decide)) k).trans (H.1 k hk).1, (congrFun (R.fa (a := 23) e2 (by decide)) k).trans (H.1 k hk).2⟩, (R.f (a1 := 19) (a2 := 19) (j1 := 2) (j2 := 4) e3 (by first | decide | exact ⟨by decide, by decide⟩) (by first | decide | exact ⟨by decide, by decide⟩) (by first | decide | exact ⟨by decide, by decide⟩)).trans H.2.1, (R.f (a1 := 19) (a2 := 19) (j1 := 2) (j2 := 4) e3 (by first | decide | exact ⟨by decide, by decide⟩) (by first | decide | exact ⟨by decide, by decide⟩) (by first | decide | exact ⟨by decide, by decide⟩)).trans H.2.2⟩
def zkHs (ms : Zms) : Bool := (zun ms 20 && zkLm ms) && (zun ms 22 && zun ms 23)
theorem xHs.fr (H : xHs d hh h) (C : CI h) (R : zXR ms c s h g) (e : zkHs ms = true) : xHs d hh g := by
  unfold zkHs at e
  simp only [Bool.and_eq_true] at e
  obtain ⟨⟨e0, e1⟩, e2, e3⟩ := e
  have z20 : fld g ((20 : Nat) : Int) 2 = fld h ((20 : Nat) : Int) 2 := R.vz (by decide) e0
  exact ⟨⟨z20.trans H.1.1, H.1.2.fr C R e1⟩, fun k hk => ⟨(congrFun (R.fa (a := 22) e2 (by decide)) k).trans (H.2 k hk).1, (congrFun (R.fa (a := 23) e3 (by decide)) k).trans (H.2 k hk).2⟩⟩
theorem xPk.sx (H : xPk n ll h) (e : g = wr h 25 j x) (hj : j = n) (h6 : j < 6) (s' : sh h 25 = some (20, 6)) : xPk (n + 1) (hu ll n x) g := fun i hi => by
  subst hj
  rw [fwi e s' h6 i]
  by_cases z : i = j
  · rw [if_pos z, z, hu_e]
  · rw [if_neg z, hu_n z]
    exact H i (by omega)
theorem xPk.p (H : xPk (n + 1) (hu ll n x) h) : xPk n ll h := fun i hi => (H i (by omega)).trans (hu_n (by omega))
theorem xGt.wx (H : xGt n gt h) (e : g = wr h 24 j x) (h6 : j < 6) (s' : sh h 24 = some (20, 6)) : xGt n (hu gt j x) g := fun i hi => by
  rw [fwi e s' h6 i]
  by_cases z : i = j
  · rw [if_pos z, z, hu_e]
  · rw [if_neg z, hu_n z]
    exact H i hi
theorem xGt.cg (H : xGt n gt h) (e : ∀ i, i < n → gt i = gu i) : xGt n gu h := fun i hi => (H i hi).trans (e i hi)
theorem hu_bk (h : x = gt j) : hu (hu gt j y) j x i = gt i := by
  by_cases z : i = j
  · rw [z, hu_e, h]
  · rw [hu_n z, hu_n z]
theorem hu_gb (G : ∀ i, i < m → 0 ≤ gt i ∧ gt i ≤ 4000 * (k : Int)) (hj : j < m) (hy : 0 ≤ y ∧ y ≤ 4000) : ∀ i, i < m → 0 ≤ hu gt j (gt j + y) i ∧ hu gt j (gt j + y) i ≤ 4000 * ((k + 1 : Nat) : Int) := fun i hi => by
  have a := G i hi
  have b := G j hj
  by_cases z : i = j
  · rw [z, hu_e]
    omega
  · rw [hu_n z]
    omega
/-- the search's steps -/
def hXs (d : hD) (k r : Nat) (w : Int) (l g : Nat → Int) (i : Nat) (q : hC) : hC := if hBc d k i = 0 then q else hX d (hBe d) (hBc d) r (k + 1) (max w ((g i + hN d k + hc d i - 1) / hc d i)) (hu l k i) (hu g i (g i + hN d k)) q
def hX0 (d : hD) (k r : Nat) (w : Int) (l g : Nat → Int) (q : hC) : hC := if hBe d k = 0 then hX d (hBe d) (hBc d) r (k + 1) w (hu l k (-1)) g q else q
theorem hXs_n (h : hBc d k i ≠ 0) : hXs d k r w ll gt i q = hX d (hBe d) (hBc d) r (k + 1) (max w ((gt i + hN d k + hc d i - 1) / hc d i)) (hu ll k i) (hu gt i (gt i + hN d k)) q := if_neg h
theorem hXs_z (h : hBc d k i = 0) : hXs d k r w ll gt i q = q := if_pos h
theorem hX0_z (h : hBe d k = 0) : hX0 d k r w ll gt q = hX d (hBe d) (hBc d) r (k + 1) w (hu ll k (-1)) gt q := if_pos h
theorem hX0_n (h : hBe d k ≠ 0) : hX0 d k r w ll gt q = q := if_neg h
theorem hX_s (h : ¬ q.1 ≤ w) : hX d (hBe d) (hBc d) (r + 1) k w ll gt q = fo (hXs d k r w ll gt) (hm d) (hX0 d k r w ll gt q) := if_neg h
theorem hX_lo (h : q.1 ≤ w) : hX d (hBe d) (hBc d) r k w ll gt q = q := by
  cases r with
  | zero => exact if_pos h
  | succ r => exact if_pos h
theorem hX_lf (h : ¬ q.1 ≤ w) : hX d (hBe d) (hBc d) 0 k w ll gt q = (w, ll) := if_neg h
theorem xHq.ind (B : hOk d) (H : xHq d (hX d (hBe d) (hBc d) (hn d) 0 0 (fun _ => 0) (fun _ => 0) (1000000, l1)) h) : xHq d (hX d (hBe d) (hBc d) (hn d) 0 0 (fun _ => 0) (fun _ => 0) (1000000, l2)) h := by
  have w := hX_ind (hB_ch B) B (l0 := fun _ => 0) (l1 := l1) (l2 := l2) (g0 := fun _ => 0) (fun _ _ => rfl)
  exact ⟨H.1.trans w.1, fun j hj => (H.2 j hj).trans (w.2 j hj)⟩
/-- looms are added -/
theorem xLm.add (H : xLm n hh h) (C : CI h) (D : zAdded h 21 x g) (P : x = zv h 3 k ∧ (k : Int) < fld h 3 2) : xLm (n + 1) (fun i => if i = n then k else hh i) g := by
  have R := D.2.1
  have z3 : fld g ((3 : Nat) : Int) 2 = fld h ((3 : Nat) : Int) 2 := R.vz (by decide) (by decide +kernel)
  have z3 : fld g 3 2 = fld h 3 2 := z3
  have zl : fld g 21 2 = fld h 21 2 + 1 := D.2.2.1
  have h1 := H.1
  have v3 : ∀ i : Nat, (i : Int) < fld h 3 2 → zv g 3 i = zv h 3 i := fun i hi => R.v C (A := 3) (by decide) (by decide +kernel) hi
  refine ⟨by omega, fun i hi => ?_⟩
  dsimp only
  by_cases z : i = n
  · rw [if_pos z, z3, v3 k P.2]
    refine ⟨P.2, ?_⟩
    have w : fld g (fld g 21 1) (fld h 21 2).toNat = x := D.2.2.2.2.1
    rw [show (fld h 21 2).toNat = i by omega] at w
    exact w.trans P.1
  · obtain ⟨a, b⟩ := H.2 i (by omega)
    rw [if_neg z, z3, v3 _ a]
    refine ⟨a, ?_⟩
    have w : fld g (fld g 21 1) i = fld h (fld h 21 1) i := D.2.2.2.1 i (by show (i : Int) < fld h 21 2; omega)
    exact w.trans b
theorem xLm.cg (H : xLm n hh h) (hn : n = m) (e : ∀ i, i < n → hh i = hi i) : xLm m hi h := by
  subst hn
  exact ⟨H.1, fun i hi' => by rw [← e i hi']; exact H.2 i hi'⟩
theorem xLm.z (h0 : fld h 21 2 = 0) : xLm 0 hh h := ⟨by omega, fun i hi => absurd hi (Nat.not_lt_zero _)⟩
theorem xLm.la (H : xLm (yLc b k) (yLh b k) h) (y : yBt b k = 0) : xLm (yLc b (k + 1)) (yLh b (k + 1)) h := H.cg (by have z := yLc_s (b := b) (k := k); rw [if_pos y] at z; omega) (fun i hi => (yLh_old hi).symm)
theorem xLm.lb (H : xLm (yLc b k + 1) (fun i => if i = yLc b k then k else yLh b k i) h) (y : yBt b k ≠ 0) : xLm (yLc b (k + 1)) (yLh b (k + 1)) h := H.cg (by have z := yLc_s (b := b) (k := k); rw [if_neg y] at z; omega) (fun i hi => by
  by_cases z : i = yLc b k
  · rw [if_pos z, z, yLh_new y]
  · rw [if_neg z, yLh_n (fun q => z q.2.symm)])
theorem yLc_mono : ∀ m : Nat, n ≤ m → yLc b n ≤ yLc b m
  | 0, h => by rw [show n = 0 by omega]; exact Nat.le_refl _
  | m + 1, h => by
    by_cases z : n = m + 1
    · rw [z]
      exact Nat.le_refl _
    · exact Nat.le_trans (yLc_mono m (by omega)) yLc_le
/-- one lot more is offered -/
theorem xHo.sx (H : xHo d n h) (a22 : fld g 22 = zu (fld h 22) n (hN d n)) (a23 : fld g 23 = zu (fld h 23) n (hBe d n)) (z : hBe d n = 0 → fld g 19 2 = fld h 19 2 ∧ fld g 19 3 = fld h 19 3) (z2 : hBe d n ≠ 0 → fld g 19 2 = fld h 19 2 + hN d n ∧ fld g 19 3 = fld h 19 3 + hBf d n) : xHo d (n + 1) g := by
  obtain ⟨H1, H2, H3⟩ := H
  refine ⟨fun k hk => ?_, ?_, ?_⟩
  · rw [a22, a23]
    by_cases q : k = n
    · rw [q, zu_eq, zu_eq]
      exact ⟨rfl, rfl⟩
    · rw [zu_ne q, zu_ne q]
      exact H1 k (by omega)
  · show fld g 19 2 = hA d (hBe d) n + (if hBe d n = 0 then 0 else hN d n)
    by_cases q : hBe d n = 0
    · rw [if_pos q, (z q).1]
      omega
    · rw [if_neg q, (z2 q).1]
      omega
  · show fld g 19 3 = hB (hBe d) (hBf d) n + (if hBe d n = 0 then 0 else hBf d n)
    by_cases q : hBe d n = 0
    · rw [if_pos q, (z q).2]
      omega
    · rw [if_neg q, (z2 q).2]
      omega
theorem hOr_z (h : ∀ i, i < m → hy d j i = 0) : ∀ i : Nat, i ≤ m → hOr d j i = (-1, 0)
  | 0, _ => rfl
  | i + 1, hi => (hOr_0 (h i (by omega))).trans (hOr_z h i (by omega))
/-- a lot that is asked, by its number -/
theorem yR.l20 (J : yR h) (hk : (k : Int) < fld h 20 2) : 0 ≤ yC h 186 k ∧ (((yC h 186 k).toNat : Nat) : Int) < fld h 4 2 ∧ zv h 20 k = zv h 4 (yC h 186 k).toNat := by
  obtain ⟨v, hv, e⟩ := J.2.2.1 k hk
  have w : yC h 186 k = (v : Int) := by
    show (if (k : Int) < fld h 20 2 then fld h (zv h 20 k) 0 else 0) = v
    rw [if_pos hk, e]
    exact J.1 4 (Or.inr (Or.inr (Or.inl rfl))) v hv
  rw [w, show ((v : Int)).toNat = v from rfl]
  exact ⟨by omega, hv, e⟩
theorem yR.ha (J : yR h) (b : 0 ≤ fld h 20 2 ∧ fld h 20 2 ≤ 6) : yHa (yC h) := ⟨b, fun k hk => by
  have hk : (k : Int) < fld h 20 2 := hk
  have w := J.l20 hk
  have z : yC h 37 64 = fld h 4 2 := rfl
  omega⟩
def zKH (sc : List Int) (D : Nat) (a : Int) : Prop := ∀ (h : Hp) (C : CI h) (b : Int) (q_b : -2147483648 ≤ b ∧ b ≤ 2147483647) (d : hD) (hh : Nat → Nat) (k r : Nat) (ll gt : Nat → Int) (q : hC) (J : yR h) (B : hOk d) (HU : ∀ i, i < hm d → hc d i ≤ 1000) (H : xHs d hh h) (HC : ∀ i, i < hm d → hc d i = yC h 91 (hh i)) (pa : a = (k : Int)) (pr : k + r = hn d) (L : xPk k ll h) (G : xGt (hm d) gt h) (GB : ∀ i, i < hm d → 0 ≤ gt i ∧ gt i ≤ 4000 * (k : Int)) (pb : 0 ≤ b ∧ b ≤ 24000) (QQ : xHq d q h), zwC sc D 212 [(2, 19), (0, a), (0, b)] h (zwRv (fun g => CI g ∧ zXR msxT (0) (0) h g ∧ (xHq d (hX d (hBe d) (hBc d) r k b ll gt q) g) ∧ (xGt (hm d) gt g) ∧ (xPk k ll g) ∧ (yR g)))
theorem yHX_in {S : zT} {qq : qT} {a : Int} (B : hOk (yHd qq S a)) : ∀ j, j < (S 37 86).toNat → (yHX qq S a).2 j = -1 ∨ (0 ≤ (yHX qq S a).2 j ∧ (yHX qq S a).2 j < yHm S a) := by
  have f : (yHX qq S a).1 < 1000000 := hX_fd (hB_ch B) B (S 37 86).toNat 0 0 _ _ _ (by show 0 + (S 37 86).toNat = (S 37 86).toNat; omega) (by decide) (fun i hi => ⟨Int.le_refl _, by show (0 : Int) ≤ _; omega⟩)
  exact hX_in (d := yHd qq S a) (S 37 86).toNat 0 0 _ _ _ (by show 0 + (S 37 86).toNat = (S 37 86).toNat; omega) (fun j hj => absurd hj (Nat.not_lt_zero _)) (fun z => absurd z (by decide)) f
section
variable {S : zT} {qq : qT} {a : Int}
theorem yHnA_n (h : ¬ yHok S a) : yHnA qq S a b = -1 := if_neg h
theorem yHnA_w (h : yHok S a) (hb : 10 ≤ b ∧ b ≤ 9 + S 37 86) : yHnA qq S a b = yHw qq S a (b - 10).toNat := (if_pos h).trans (if_pos hb)
theorem yHnA_0 (h : yHok S a) (hb : b = 0) : yHnA qq S a b = yHh0 qq S a := (if_pos h).trans ((if_neg (by omega)).trans (if_pos hb))
theorem yHnA_1 (h : yHok S a) (hb : b = 1) : yHnA qq S a b = yHh1 qq S a := (if_pos h).trans ((if_neg (by omega)).trans ((if_neg (by omega)).trans (if_pos hb)))
theorem yHnA_2 (h : yHok S a) (hb : b = 2) : yHnA qq S a b = (yHX qq S a).1 := (if_pos h).trans ((if_neg (by omega)).trans ((if_neg (by omega)).trans ((if_neg (by omega)).trans (if_pos hb))))
theorem yHnA_x (h : ¬ (((0 ≤ b ∧ b ≤ 2) ∨ (10 ≤ b ∧ b ≤ 9 + S 37 86)) ∧ yHok S a)) : yHnA qq S a b = -1 := by
  by_cases o : yHok S a
  · exact (if_pos o).trans ((if_neg (fun z => h ⟨Or.inr z, o⟩)).trans ((if_neg (fun z => h ⟨Or.inl (by omega), o⟩)).trans ((if_neg (fun z => h ⟨Or.inl (by omega), o⟩)).trans (if_neg (fun z => h ⟨Or.inl (by omega), o⟩)))))
  · exact if_neg o
theorem yHnA_u (hb : ¬ ((0 ≤ b ∧ b ≤ 2) ∨ (10 ≤ b ∧ b ≤ 9 + S 37 86))) : yHnA qq S a b = -1 := by
  unfold yHnA
  split
  · rw [if_neg (by omega), if_neg (by omega), if_neg (by omega), if_neg (by omega)]
  · rfl
end
end YXH
end
