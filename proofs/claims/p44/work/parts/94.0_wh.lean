/-! joined: 94.0_wh 94.a_inv 94.b_inv 94.c_rel 94.d_start -/
section
/-! what was read can be run: for any bytes -/
section WH
variable {n : Nat} {t : pT} {e : Nat} {f hol eit sum sub : pQ → pR} {o : Bool} {P : Int → Prop} {s : pQ} {b c0 : Nat → Int} {h h1 g : Hp} {ms : Zms} {c z : Int}
theorem pV_nn {p : Nat} (hk : pK t n p = 2) : 0 ≤ pV t n p := by
  have hp := pK_lt (t := t) (n := n) (p := p) (by omega)
  unfold pK at hk
  rw [if_pos hp] at hk
  by_cases h1 : pLet (t p) = true
  · rw [if_pos h1] at hk; omega
  · rw [if_neg h1] at hk
    by_cases h2 : pDig (t p) = true
    · unfold pV
      rw [if_neg h1]
      unfold pVl
      have he : pEn t n p = pRun pDig t n p := by unfold pEn; rw [if_pos hp, if_neg h1, if_pos h2]
      have hr := pRun_b (P := pDig) (t := t) (n := n) (n - p) p rfl (by omega)
      rw [he]
      have key : ∀ (f q : Nat) (v : Int), 0 ≤ v → p ≤ q → q + f ≤ pRun pDig t n p → 0 ≤ pNu t f q v := by
        intro f
        induction f with
        | zero => intro q v hv _ _; exact hv
        | succ f IH =>
          intro q v hv hq hf
          have d := pDig_t.mp (hr.2.2.1 q hq (by omega))
          exact IH (q + 1) _ (by omega) (by omega) (by omega)
      exact key _ p 0 (by omega) (Nat.le_refl _) (by omega)
    · rw [if_neg h2] at hk
      by_cases h3 : pSig (t p) = true
      · rw [if_pos h3] at hk
        have := pSig_t.mp h3
        omega
      · rw [if_neg h3] at hk; omega
theorem eH_fac (H : eG n eNum sub) (Hg : pG n sub) : eG n eNum (pFac t n o sub) := by
  intro N hN s h
  unfold pFac
  split
  · rename_i c1
    intro _
    have v0 := pV_nn (t := t) (n := n) c1.1
    show eSg N (zu s.2.2 s.2.1 (pV t n s.1)) eNum s.2.1 (s.2.1 + 1)
    refine eSg_one (by rw [zu_eq]; omega) (fun v hv => ?_)
    rw [zu_eq, if_pos v0] at hv
    rw [hv]
    unfold eNum
    omega
  · split
    · rename_i c1 c2
      intro _
      show eSg N (zu s.2.2 s.2.1 (-1 - pV t n s.1)) eNum s.2.1 (s.2.1 + 1)
      refine eSg_one (by rw [zu_eq]; omega) (fun v hv => ?_)
      rw [zu_eq, if_neg (by omega)] at hv
      rw [hv]
      exact hN _ (by omega)
    · split
      · rename_i c3
        have hp := pK_lt (t := t) (n := n) (p := s.1) (by omega)
        have b := pNx_b (t := t) (n := n) (p := s.1) h
        split
        · rename_i c4
          have g := H N hN (pA t n s) (by show pNx t n s.1 ≤ n; omega) c4
          split
          · intro _; exact g
          · intro z; cases z
        · intro z; exact absurd z ‹_›
      · intro z; cases z
theorem eH_fc : ∀ e : Nat, eG n eNum (pFc t n e)
  | 0 => eH_fac eG_no pG_no
  | e + 1 => eH_fac (eG_sm0 (eH_fc e) (pG_fc e)) (pG_sm0 (pG_fc e))
theorem eH_sum (e : Nat) : eG n eNum (pSum t n e) := eG_sm0 (eH_fc e) (pG_fc e)
theorem eH_ho : ∀ e : Nat, eG n eBit (pHo t n e)
  | 0 => eG_hol eG_no pG_no eG_no (eH_sum 0) (pG_sum 0)
  | e + 1 => eG_hol (eH_ho e) (pG_ho e) (eG_ei0 (eH_ho e) (pG_ho e)) (eH_sum (e + 1)) (pG_sum (e + 1))
theorem eH_ei (e : Nat) : eG n eBit (pEi t n e) := eG_ei0 (eH_ho e) (pG_ho e)
theorem pCb_eH (c : Int) (N : Nat → Int) (hN : eNs N) (s : pQ) (hs : s.1 ≤ n) (h : (pCb t n c s).1 = true) : eSg N (pCb t n c s).2.2.2 (if c < 3 then eNum else eBit) s.2.1 (pCb t n c s).2.2.1 := by
  unfold pCb at h ⊢
  by_cases z : c < 3
  · simp only [if_pos z] at h ⊢
    exact eH_sum 8 N hN s hs h
  · simp only [if_neg z] at h ⊢
    exact eH_ei 8 N hN s hs h
theorem pWh_cls (W : rW n s) (G : pWg s b) (h : (pCls t n s b).1 = true) : pWg (pCls t n s b).2.1 (pCls t n s b).2.2 := by
  by_cases c1 : pCc t n s b
  · have V := W.a (t := t) (by have := c1.1; omega)
    by_cases c2 : (pBo t n s).1 = true
    · by_cases c3 : pK t n (pBo t n s).2.1 = 59
      · rw [pCls_t c1 c2 c3]
        have E : ∀ N, eNs N → eSg N (pBo t n s).2.2.2 (if pV t n s.1 - 13 < 3 then eNum else eBit) s.2.1 (pBo t n s).2.2.1 := fun N hN => pCb_eH (pV t n s.1 - 13) N hN (pA t n s) V.2 c2
        have g := pG_cb (t := t) (n := n) (pV t n s.1 - 13) (pA t n s) V.2
        have g3 : s.2.1 ≤ (pBo t n s).2.2.1 := g.2.2.1
        have g5 : s.2.1 < (pBo t n s).2.2.1 := (g.2.2.2.2.1 c2).2
        have g6 : ∀ i, i < s.2.1 → (pBo t n s).2.2.2 i = s.2.2 i := g.2.2.2.2.2
        obtain ⟨c11, c12, c13, c14⟩ := c1
        intro d hd
        show zu b (pV t n s.1 - 13).toNat s.2.1 d = -1 ∨ ∃ B L : Nat, zu b (pV t n s.1 - 13).toNat s.2.1 d = (B : Int) ∧ 0 < L ∧ B + L < (pBo t n s).2.2.1 + 1 ∧ zu (pBo t n s).2.2.2 (pBo t n s).2.2.1 (-21) (B + L) = -21 ∧ ∀ N, eNs N → eSg N (zu (pBo t n s).2.2.2 (pBo t n s).2.2.1 (-21)) (if (d : Int) < 3 then eNum else eBit) B (B + L)
        by_cases z : d = (pV t n s.1 - 13).toNat
        · right
          have ed : (d : Int) = pV t n s.1 - 13 := by omega
          refine ⟨s.2.1, (pBo t n s).2.2.1 - s.2.1, by rw [z, zu_eq], by omega, by omega, by rw [show s.2.1 + ((pBo t n s).2.2.1 - s.2.1) = (pBo t n s).2.2.1 by omega, zu_eq], fun N hN => ?_⟩
          rw [show s.2.1 + ((pBo t n s).2.2.1 - s.2.1) = (pBo t n s).2.2.1 by omega, ed]
          exact eSg_cg (E N hN) (fun r r1 r2 => (zu_ne (by omega)).symm)
        · rw [zu_ne z]
          rcases G d hd with y | ⟨B, L, y1, y2, y3, y4, y5⟩
          · exact Or.inl y
          · right
            refine ⟨B, L, y1, y2, by omega, by rw [zu_ne (by omega), g6 _ (by omega)]; exact y4, fun N hN => ?_⟩
            exact eSg_cg (y5 N hN) (fun r r1 r2 => by rw [zu_ne (by omega), g6 _ (by omega)])
      · rw [pCls_s c1 c2 c3] at h
        cases h
    · rw [pCls_f c1 c2] at h
      cases h
  · rw [pCls_no c1] at h
    cases h
theorem pWh_rd : ∀ (m : Nat) (s : pQ) (b : Nat → Int), rW n s → pWg s b → (pRd t n m s b).1 = true → pWg (pRd t n m s b).2.1 (pRd t n m s b).2.2 ∧ rW n (pRd t n m s b).2.1
  | 0, _, _, W, G, _ => ⟨G, W⟩
  | m + 1, s, b, W, G, h => by
    by_cases h0 : pK t n s.1 = 0
    · rw [pRd_z (Or.inr h0)]
      exact ⟨G, W⟩
    · by_cases h1 : (pCls t n s b).1 = true
      · rw [pRd_n rfl h0 h1] at h ⊢
        exact pWh_rd m _ _ (pCls_W W h1).1 (pWh_cls W G h1) h
      · rw [pRd_f rfl h0 h1] at h
        exact absurd h h1
theorem pWh_read (h0 : pSk t n 0 ≤ n) (h : pFa t n c0 = -1) : pWg (pRead t n c0).2.1 (pRead t n c0).2.2 ∧ rW n (pRead t n c0).2.1 := by
  refine pWh_rd 400 (pSk t n 0, 0, c0) (fun _ => -1) ⟨Nat.zero_le _, h0⟩ (fun d _ => Or.inl rfl) ?_
  by_cases z : (pRead t n c0).1 = true
  · exact z
  · rw [pFa_f z] at h
    omega
end WH
end
section
/-! what stays, of the tables: pure -/
section YIV
variable {S T U : zT} {a i j k l n u v m : Nat} {b c d x y : Int} {q : qT}
def yCn (S : zT) (v : Int) : Nat → Int
  | 0 => 0
  | u + 1 => if S 184 u = v then yCn S v u + 1 else yCn S v u
theorem yCn_s {w : Int} : yCn S w (m + 1) = if S 184 m = w then yCn S w m + 1 else yCn S w m := rfl
theorem yCn_b {w : Int} : ∀ m : Nat, 0 ≤ yCn S w m ∧ yCn S w m ≤ m
  | 0 => ⟨Int.le_refl _, by show (0 : Int) ≤ ((0 : Nat) : Int); omega⟩
  | m + 1 => by
    have h := yCn_b (w := w) m
    rw [yCn_s]
    split <;> omega
theorem yCn_lt {w : Int} (h : S 184 u ≠ w) : ∀ m : Nat, u < m → yCn S w m ≤ (m : Int) - 1
  | 0, z => absurd z (Nat.not_lt_zero _)
  | m + 1, z => by
    rw [yCn_s]
    by_cases e : u = m
    · subst e
      rw [if_neg h]
      have := yCn_b (S := S) (w := w) u
      omega
    · have := yCn_lt h m (by omega)
      split <;> omega
theorem yCn_ag {w : Int} (H : ∀ u, T 184 u = S 184 u) : ∀ m : Nat, yCn T w m = yCn S w m
  | 0 => rfl
  | m + 1 => by
    rw [yCn_s, yCn_s, H m, yCn_ag H m]
theorem yCn_br {w z : Int} (h : S 184 u = -1) (hw : w ≠ -1) : ∀ m : Nat, yCn (zs S 184 u z) w m = yCn S w m + (if u < m ∧ z = w then 1 else 0)
  | 0 => by
    rw [if_neg (fun t => absurd t.1 (Nat.not_lt_zero _))]
    rfl
  | m + 1 => by
    have ih := yCn_br (z := z) h hw m
    rw [yCn_s, yCn_s, ih]
    by_cases e : m = u
    · subst e
      rw [zs_eq, h, if_neg (show ¬ (-1 : Int) = w from fun t => hw t.symm), if_neg (show ¬ (m < m ∧ z = w) by omega)]
      by_cases f : z = w
      · rw [if_pos f, if_pos (show m < m + 1 ∧ z = w from ⟨by omega, f⟩)]
        omega
      · rw [if_neg f, if_neg (fun t => f t.2)]
    · rw [zs_ni e]
      by_cases g : u < m ∧ z = w
      · rw [if_pos g, if_pos (show u < m + 1 ∧ z = w from ⟨by omega, g.2⟩)]
        split <;> omega
      · rw [if_neg g, if_neg (show ¬ (u < m + 1 ∧ z = w) from fun t => g ⟨by omega, t.2⟩)]
        split <;> omega
/-- what bringing rests on -/
def yBr (S : zT) : Prop := (0 ≤ S 37 78 ∧ S 37 78 ≤ 200) ∧ (∀ v : Nat, (v : Int) < S 37 1 → (0 ≤ S 67 v ∧ 0 ≤ S 68 v) ∧ S 67 v + S 68 v ≤ 20 * yCn S v (S 37 78).toNat) ∧ (∀ u : Nat, (u : Int) < S 37 78 → (0 ≤ S 183 u ∧ S 183 u ≤ 20) ∧ (0 ≤ S 181 u ∧ S 181 u < S 37 2)) ∧ (∀ k : Nat, (k : Int) < S 37 2 → S 91 k ≤ 40 ∧ (0 ≤ S 92 k ∧ S 92 k ≤ 40))
theorem yBr.rm (B : yBr S) : yRm S := fun u v hu hv h => by
  obtain ⟨⟨b1, b2⟩, b3, b4, -⟩ := B
  obtain ⟨⟨c1, c2⟩, c3⟩ := b3 v hv
  have d := (b4 u hu).1
  have e := yCn_lt (S := S) (w := (v : Int)) (u := u) (by omega) (S 37 78).toNat (by omega)
  exact ⟨⟨c1, c2, d.1⟩, by omega⟩
theorem yBr.hb (B : yBr S) : ∀ u : Nat, (u : Int) < S 37 78 → 0 ≤ S 181 u ∧ S 181 u < S 37 2 := fun u hu => (B.2.2.1 u hu).2
def yKb (a i : Nat) : Prop := (a = 37 ∧ (i = 1 ∨ i = 2 ∨ i = 78)) ∨ a = 67 ∨ a = 68 ∨ a = 181 ∨ a = 183 ∨ a = 184 ∨ a = 91 ∨ a = 92
theorem yBr.ag (B : yBr S) (t : ∀ a i, yKb a i → T a i = S a i) : yBr T := by
  have s1 := t 37 1 (by unfold yKb; omega)
  have s2 := t 37 2 (by unfold yKb; omega)
  have s3 := t 37 78 (by unfold yKb; omega)
  have r : ∀ a i, a = 67 ∨ a = 68 ∨ a = 181 ∨ a = 183 ∨ a = 184 ∨ a = 91 ∨ a = 92 → T a i = S a i := fun a i e => t a i (by unfold yKb; omega)
  obtain ⟨b1, b2, b3, b4⟩ := B
  refine ⟨by rw [s3]; exact b1, fun v hv => ?_, fun u hu => ?_, fun k hk => ?_⟩
  · rw [r 67 v (by omega), r 68 v (by omega), s3, yCn_ag (fun u => r 184 u (by omega))]
    exact b2 v (by omega)
  · rw [r 183 u (by omega), r 181 u (by omega), s2]
    exact b3 u (by omega)
  · rw [r 91 k (by omega), r 92 k (by omega)]
    exact b4 k (by omega)
/-- the first week's price -/
def y57 (S : zT) : Prop := ∀ v : Nat, (v : Int) < S 37 1 → S 57 (157 * v) = 10
theorem y57.ag (H : y57 S) (s1 : T 37 1 = S 37 1) (t : ∀ i, T 57 i = S 57 i) : y57 T := fun v hv => by
  rw [t]
  exact H v (by omega)
def yKi (a i : Nat) : Prop := yKt a i ∨ a = 85 ∨ a = 66 ∨ a = 65 ∨ a = 206
theorem yInv.ag (V : yInv S) (t : ∀ a i, yKi a i → T a i = S a i) : yInv T := by
  obtain ⟨K, B, H, Z⟩ := V
  have s0 := t 37 0 (Or.inl (Or.inl ⟨rfl, by omega⟩))
  have s1 := t 37 1 (Or.inl (Or.inl ⟨rfl, by omega⟩))
  refine ⟨K.ag (fun a i e => t a i (Or.inl e)), B.as (fun a i e => t a i (by unfold yKi yKt; omega)) (by rw [s0]; exact B.2.2.2.1), fun v hv => ?_, fun j hj => ?_⟩
  · rw [t 65 v (by unfold yKi; omega)]
    exact H v (by omega)
  · rw [t 206 j (by unfold yKi; omega)]
    exact Z j (by rw [← s0]; exact hj)
def yIv (S : zT) : Prop := yInv S ∧ yBr S ∧ y57 S
def yKj (a i : Nat) : Prop := yKi a i ∨ yKb a i ∨ a = 57
theorem yIv.ag (V : yIv S) (t : ∀ a i, yKj a i → T a i = S a i) : yIv T := ⟨V.1.ag (fun a i e => t a i (Or.inl e)), V.2.1.ag (fun a i e => t a i (Or.inr (Or.inl e))), V.2.2.ag (t 37 1 (Or.inr (Or.inl (Or.inl ⟨rfl, by omega⟩)))) (fun i => t 57 i (Or.inr (Or.inr rfl)))⟩
theorem yIv.zss (V : yIv S) (e : ¬ yKj a i) : yIv (zs S a i x) := V.ag (fun b j hb => by
  rw [zs_if]
  refine if_neg (fun z => e ?_)
  rw [← z.1, ← z.2]
  exact hb)
theorem yKj_n (e : (a ≠ 39 ∧ a ≠ 71 ∧ a ≠ 79 ∧ a ≠ 80 ∧ a ≠ 81 ∧ a ≠ 82 ∧ a ≠ 83) ∧ (a ≠ 170 ∧ a ≠ 172 ∧ a ≠ 173 ∧ a ≠ 85 ∧ a ≠ 66 ∧ a ≠ 65 ∧ a ≠ 206) ∧ (a ≠ 67 ∧ a ≠ 68 ∧ a ≠ 181 ∧ a ≠ 183 ∧ a ≠ 184 ∧ a ≠ 91 ∧ a ≠ 92 ∧ a ≠ 57) ∧ (a ≠ 37 ∨ (i ≠ 0 ∧ i ≠ 1 ∧ i ≠ 2 ∧ i ≠ 64 ∧ i ≠ 78))) : ¬ yKj a i := by
  unfold yKj yKi yKb yKt
  omega
/-- single places -/
theorem yIv.s71 (V : yIv S) (hx : 1 ≤ x ∧ x ≤ 99) : yIv (zs S 71 v x) := by
  obtain ⟨⟨K, B, H, Z⟩, R, P⟩ := V
  refine ⟨⟨?_, B.as (fun a i e => zs_na (by omega)) (by rw [zs_na (by decide)]; exact B.2.2.2.1), fun u hu => ?_, fun j hj => ?_⟩, R.ag (fun a i e => zs_na (by unfold yKb at e; omega)), P.ag (zs_na (by decide)) (fun i => zs_na (by decide))⟩
  · refine ⟨by rw [zs_na (by decide), zs_na (by decide), zs_na (by decide), zs_na (by decide)]; exact K.1, fun k hk => ?_, fun u hu => ?_, fun l hl => ?_⟩
    · rw [zs_na (by decide)] at hk
      rw [zs_na (by decide), zs_na (by decide), zs_na (by decide), zs_na (by decide), zs_na (by decide), zs_na (by decide)]
      exact K.2.1 k hk
    · rw [zs_na (by decide)] at hu
      refine ⟨?_, fun s hs => by rw [zs_na (by decide)]; exact (K.vi hu).2 s hs⟩
      by_cases z : u = v
      · rw [z, zs_eq]
        exact hx
      · rw [zs_ni z]
        exact (K.vi hu).1
    · rw [zs_na (by decide)] at hl
      rw [zs_na (by decide), zs_na (by decide), zs_na (by decide), zs_na (by decide)]
      exact K.2.2.2 l hl
  · rw [zs_na (by decide)] at hu
    rw [zs_na (by decide)]
    exact H u hu
  · rw [zs_na (by decide)] at hj
    rw [zs_na (by decide)]
    exact Z j hj
theorem yIv.s85 (V : yIv S) (hx : 4 ≤ x ∧ x ≤ 60) : yIv (zs S 85 n x) := by
  obtain ⟨⟨K, B, H, Z⟩, R, P⟩ := V
  refine ⟨⟨K.zss (yKt_n (by decide)), ?_, fun u hu => ?_, fun j hj => ?_⟩, R.ag (fun a i e => zs_na (by unfold yKb at e; omega)), P.ag (zs_na (by decide)) (fun i => zs_na (by decide))⟩
  · obtain ⟨b1, b2, b3, b4, b5, b6⟩ := B
    refine ⟨fun k hk => ?_, fun v hv => ?_, by rw [zs_na (by decide)]; exact b3, by rw [zs_na (by decide)]; exact b4, by rw [zs_na (by decide)]; exact b5, by rw [zs_na (by decide)]; exact b6⟩
    · rw [zs_na (by decide)] at hk
      have w := b1 k hk
      rw [zs_na (a := 85) (b := 80) (by decide), zs_na (a := 85) (b := 81) (by decide), zs_na (a := 85) (b := 79) (by decide), zs_na (a := 85) (b := 37) (by decide)]
      refine ⟨w.1, w.2.1, ?_, w.2.2.2⟩
      by_cases z : k = n
      · rw [z, zs_eq]
        exact hx
      · rw [zs_ni z]
        exact w.2.2.1
    · rw [zs_na (by decide)] at hv
      refine ⟨by rw [zs_na (by decide)]; exact (b2 v hv).1, fun s hs => by rw [zs_na (by decide)]; exact (b2 v hv).2 s hs⟩
  · rw [zs_na (by decide)] at hu
    rw [zs_na (by decide)]
    exact H u hu
  · rw [zs_na (by decide)] at hj
    rw [zs_na (by decide)]
    exact Z j hj
theorem yIv.s66 (V : yIv S) (hx : 0 ≤ x ∧ x ≤ 9999) : yIv (zs S 66 n x) := by
  obtain ⟨⟨K, B, H, Z⟩, R, P⟩ := V
  refine ⟨⟨K.zss (yKt_n (by decide)), ?_, fun u hu => ?_, fun j hj => ?_⟩, R.ag (fun a i e => zs_na (by unfold yKb at e; omega)), P.ag (zs_na (by decide)) (fun i => zs_na (by decide))⟩
  · obtain ⟨b1, b2, b3, b4, b5, b6⟩ := B
    refine ⟨fun k hk => ?_, fun v hv => ?_, by rw [zs_na (by decide)]; exact b3, by rw [zs_na (by decide)]; exact b4, by rw [zs_na (by decide)]; exact b5, by rw [zs_na (by decide)]; exact b6⟩
    · rw [zs_na (by decide)] at hk
      rw [zs_na (a := 66) (b := 80) (by decide), zs_na (a := 66) (b := 81) (by decide), zs_na (a := 66) (b := 85) (by decide), zs_na (a := 66) (b := 79) (by decide), zs_na (a := 66) (b := 37) (by decide)]
      exact b1 k hk
    · rw [zs_na (by decide)] at hv
      refine ⟨?_, fun s hs => by rw [zs_na (by decide)]; exact (b2 v hv).2 s hs⟩
      by_cases z : v = n
      · rw [z, zs_eq]
        exact hx
      · rw [zs_ni z]
        exact (b2 v hv).1
  · rw [zs_na (by decide)] at hu
    rw [zs_na (by decide)]
    exact H u hu
  · rw [zs_na (by decide)] at hj
    rw [zs_na (by decide)]
    exact Z j hj
theorem yIv.s91 (V : yIv S) (hx : x ≤ 40) : yIv (zs S 91 n x) := by
  obtain ⟨W, R, P⟩ := V
  refine ⟨W.ag (fun a i e => zs_na (by unfold yKi yKt at e; omega)), ?_, P.ag (zs_na (by decide)) (fun i => zs_na (by decide))⟩
  obtain ⟨b1, b2, b3, b4⟩ := R
  refine ⟨by rw [zs_na (by decide)]; exact b1, fun v hv => ?_, fun u hu => ?_, fun k hk => ?_⟩
  · rw [zs_na (by decide)] at hv
    rw [zs_na (a := 91) (b := 67) (by decide), zs_na (a := 91) (b := 68) (by decide), zs_na (a := 91) (b := 37) (by decide), yCn_ag (S := S) (fun u => zs_na (by decide))]
    exact b2 v hv
  · rw [zs_na (by decide)] at hu
    rw [zs_na (a := 91) (b := 183) (by decide), zs_na (a := 91) (b := 181) (by decide), zs_na (a := 91) (b := 37) (by decide)]
    exact b3 u hu
  · rw [zs_na (by decide)] at hk
    rw [zs_na (a := 91) (b := 92) (by decide)]
    refine ⟨?_, (b4 k hk).2⟩
    by_cases z : k = n
    · rw [z, zs_eq]
      exact hx
    · rw [zs_ni z]
      exact (b4 k hk).1
/-- the calls that write little -/
theorem yIv.coin (V : yIv S) : yIv (yCoin S x y) := by
  unfold yCoin
  split
  · exact V.zss (yKj_n (by omega))
  · exact V
theorem yIv.mill (V : yIv S) : yIv (yMill S x y) := by
  unfold yMill
  split
  · exact V.zss (yKj_n (by omega))
  · exact V
theorem yIv.sold (V : yIv S) : yIv (ySold S x y) := by
  unfold ySold
  split
  · exact V.zss (yKj_n (by omega))
  · exact V
theorem yIv.talk (V : yIv S) : yIv (yTalk S x y) := by
  unfold yTalk
  split
  · exact V.zss (yKj_n (by omega))
  · exact V
theorem yIv.gift {z : Int} (V : yIv S) : yIv (yGift S x y z) := by
  unfold yGift
  split
  · exact (((V.zss (yKj_n (by omega))).zss (yKj_n (by omega))).zss (yKj_n (by omega))).zss (yKj_n (by omega))
  · exact V
theorem yIv.forg (V : yIv S) : yIv (yForg S) := V.zss (yKj_n (by omega))
theorem yIv.pay {z : Int} (V : yIv S) : yIv (yPay S x y z) := by
  unfold yPay
  split
  · split
    · exact ((V.zss (yKj_n (by omega))).zss (yKj_n (by omega))).zss (yKj_n (by omega))
    · exact (((V.zss (yKj_n (by omega))).zss (yKj_n (by omega))).zss (yKj_n (by omega))).zss (yKj_n (by omega))
  · exact V
theorem yIv.pric (V : yIv S) : yIv (yPric S x y) := by
  unfold yPric
  split
  · exact (V.zss (yKj_n (by omega))).s71 (by omega)
  · exact V
theorem yIv.aim (V : yIv S) : yIv (yAim S x y) := by
  unfold yAim
  split
  · exact V.s85 (by omega)
  · exact V
theorem yIv.cott (V : yIv S) : yIv (yCott S x y) := by
  unfold yCott
  split
  · rename_i h
    have w := (V.1.2.1.2.1 x.toNat (by omega)).1
    have e : w32 (S 66 x.toNat + y) = S 66 x.toNat + y := w32_id (by first | omega | exact ⟨by omega, by omega⟩)
    exact V.s66 (by omega)
  · exact V
theorem yIv.loom {z : Int} (V : yIv S) : yIv (yLoom S x y z) := by
  unfold yLoom
  split
  · exact ((V.zss (yKj_n (by omega))).zss (yKj_n (by omega))).s91 (by omega)
  · exact V
end YIV
end
section
/-! a village, a house, weaving, bringing, weeks: what stays -/
section YIW
variable {S T U : zT} {a i j k l n u v m : Nat} {b c d x y z : Int} {q : qT}
/-- a village more -/
theorem yVil_37 (e : i ≠ 1) : yVil S n x y z 37 i = S 37 i := by
  unfold yVil
  rw [zs_ni e, z57_n (by decide), yVi0_n (by decide)]
theorem yVil_1 : yVil S n x y z 37 1 = n + 1 := zs_eq
theorem yVil_n (e : a ≠ 37 ∧ a ≠ 39 ∧ a ≠ 57 ∧ a ≠ 65 ∧ a ≠ 66 ∧ a ≠ 70 ∧ a ≠ 71) : yVil S n x y z a i = S a i := by
  unfold yVil
  rw [zs_na e.1, z57_n (by omega), yVi0_n (by omega)]
theorem yVil_71 : yVil S n x y z 71 i = if i = n then 10 else S 71 i := by
  unfold yVil
  rw [zs_na (by decide), z57_n (by decide)]
  unfold yVi0
  rw [zs_if]
  by_cases h : i = n
  · rw [if_pos ⟨rfl, h⟩, if_pos h]
  · rw [if_neg (fun z => h z.2), if_neg h]
    simp (disch := decide) only [zs_na]
theorem yVil_65 : yVil S n x y z 65 i = if i = n then y else S 65 i := by
  unfold yVil
  rw [zs_na (by decide), z57_n (by decide)]
  unfold yVi0
  simp (disch := decide) only [zs_na]
  rw [zs_if]
  by_cases h : i = n
  · rw [if_pos ⟨rfl, h⟩, if_pos h]
  · rw [if_neg (fun z => h z.2), if_neg h]
    simp (disch := decide) only [zs_na]
theorem yVil_66 : yVil S n x y z 66 i = if i = n then z else S 66 i := by
  unfold yVil
  rw [zs_na (by decide), z57_n (by decide)]
  unfold yVi0
  simp (disch := decide) only [zs_na]
  rw [zs_if]
  by_cases h : i = n
  · rw [if_pos ⟨rfl, h⟩, if_pos h]
  · rw [if_neg (fun z => h z.2), if_neg h]
    simp (disch := decide) only [zs_na]
theorem yVil_39 {s : Nat} (hs : s < 4) : yVil S n x y z 39 (4 * v + s) = if v = n then zid x s else S 39 (4 * v + s) := by
  unfold yVil
  rw [zs_na (by decide), z57_n (by decide)]
  unfold yVi0
  simp (disch := decide) only [zs_na]
  rw [zs_if, zs_if, zs_if, zs_if]
  by_cases h : v = n
  · subst h
    rw [if_pos rfl]
    have w : s = 0 ∨ s = 1 ∨ s = 2 ∨ s = 3 := by omega
    rcases w with rfl | rfl | rfl | rfl
    · rw [if_neg (by omega), if_neg (by omega), if_neg (by omega), if_pos ⟨rfl, by omega⟩]
    · rw [if_neg (by omega), if_neg (by omega), if_pos ⟨rfl, by omega⟩]
    · rw [if_neg (by omega), if_pos ⟨rfl, by omega⟩]
    · rw [if_pos ⟨rfl, by omega⟩]
  · rw [if_neg (by omega), if_neg (by omega), if_neg (by omega), if_neg (by omega), if_neg h]
theorem yVil_57 : yVil S n x y z 57 (157 * v) = if v = n then 10 else S 57 (157 * v) := by
  unfold yVil
  rw [zs_na (by decide)]
  show (if 57 = 57 ∧ 157 * v / 157 = n ∧ 157 * v % 157 < (S 37 0).toNat + 1 then (10 : Int) else yVi0 S n x y z 57 (157 * v)) = _
  rw [yVi0_n (by decide)]
  by_cases h : v = n
  · rw [if_pos ⟨rfl, by omega, by omega⟩, if_pos h]
  · rw [if_neg (by omega), if_neg h]
theorem zid_b {s : Nat} (h : 0 ≤ x ∧ x / 1000000 ≤ 40 ∧ x / 10000 % 100 ≤ 40 ∧ x / 100 % 100 ≤ 40 ∧ x % 100 ≤ 40) : 0 ≤ zid x s ∧ zid x s ≤ 40 := by
  unfold zid
  split
  · omega
  · split
    · omega
    · split <;> omega
theorem yIv.vil (V : yIv S) (z7 : S 67 (S 37 1).toNat = 0) (z8 : S 68 (S 37 1).toNat = 0) : yIv (yVilF S x y z) := by
  unfold yVilF
  split
  rotate_left 1
  · exact V
  rename_i h
  obtain ⟨h8, hx, hy, hz⟩ := h
  obtain ⟨⟨K, B, H, Z⟩, ⟨r1, r2, r3, r4⟩, P⟩ := V
  have s1 := K.s.2.1.1
  have en : (((S 37 1).toNat : Nat) : Int) = S 37 1 := by omega
  generalize hn : (S 37 1).toNat = n at en z7 z8
  have t37 : ∀ i, i ≠ 1 → yVil S n x y z 37 i = S 37 i := fun i e => yVil_37 e
  have t1 : yVil S n x y z 37 1 = S 37 1 + 1 := by rw [yVil_1, en]
  have tn : ∀ a i, (a ≠ 37 ∧ a ≠ 39 ∧ a ≠ 57 ∧ a ≠ 65 ∧ a ≠ 66 ∧ a ≠ 70 ∧ a ≠ 71) → yVil S n x y z a i = S a i := fun a i e => yVil_n e
  have ho : ∀ k : Nat, (k : Int) < S 37 2 → _ := K.2.1
  refine ⟨⟨⟨?_, fun k hk => ?_, fun u hu => ?_, fun l hl => ?_⟩, ⟨fun k hk => ?_, fun u hu => ?_, ?_, ?_, ?_, ?_⟩, fun u hu => ?_, fun j hj => ?_⟩, ⟨?_, fun u hu => ?_, fun u hu => ?_, fun k hk => ?_⟩, fun u hu => ?_⟩
  · rw [t37 0 (by decide), t1, t37 2 (by decide), t37 64 (by decide)]
    exact ⟨K.1.1, by omega, K.1.2.2⟩
  · rw [t37 2 (by decide)] at hk
    rw [tn 80 k (by omega), tn 81 k (by omega), tn 82 k (by omega), tn 83 k (by omega), tn 79 k (by omega), t1]
    have w := ho k hk
    exact ⟨w.1, w.2.1, w.2.2.1, w.2.2.2.1, w.2.2.2.2.1, by omega⟩
  · rw [t1] at hu
    rw [yVil_71]
    refine ⟨?_, fun s hs => ?_⟩
    · by_cases e : u = n
      · rw [if_pos e]
        omega
      · rw [if_neg e]
        exact (K.vi (by omega)).1
    · rw [yVil_39 hs]
      by_cases e : u = n
      · rw [if_pos e]
        exact zid_b hx
      · rw [if_neg e]
        exact (K.vi (by omega)).2 s hs
  · rw [t37 64 (by decide)] at hl
    rw [tn 172 l (by omega), tn 173 l (by omega), tn 170 l (by omega), t37 2 (by decide)]
    exact K.2.2.2 l hl
  · rw [t37 2 (by decide)] at hk
    rw [tn 80 k (by omega), tn 81 k (by omega), tn 85 k (by omega), tn 79 k (by omega), t1]
    have w := B.1 k hk
    exact ⟨w.1, w.2.1, w.2.2.1, w.2.2.2.1, by omega⟩
  · rw [t1] at hu
    rw [yVil_66]
    refine ⟨?_, fun s hs => ?_⟩
    · by_cases e : u = n
      · rw [if_pos e]
        exact hz
      · rw [if_neg e]
        exact (B.2.1 u (by omega)).1
    · rw [yVil_39 hs]
      by_cases e : u = n
      · rw [if_pos e]
        exact zid_b hx
      · rw [if_neg e]
        exact (B.2.1 u (by omega)).2 s hs
  · rw [t37 64 (by decide)]
    exact B.2.2.1
  · rw [t37 0 (by decide)]
    exact B.2.2.2.1
  · rw [t1]
    omega
  · rw [t37 2 (by decide)]
    exact B.2.2.2.2.2
  · rw [t1] at hu
    rw [yVil_65]
    by_cases e : u = n
    · rw [if_pos e]
      omega
    · rw [if_neg e]
      exact H u (by omega)
  · rw [t37 0 (by decide)] at hj
    rw [tn 206 j (by omega)]
    exact Z j hj
  · rw [t37 78 (by decide)]
    exact r1
  · rw [t1] at hu
    rw [tn 67 u (by omega), tn 68 u (by omega), t37 78 (by decide), yCn_ag (S := S) (fun w => tn 184 w (by omega))]
    by_cases e : u = n
    · have w := yCn_b (S := S) (w := (u : Int)) (S 37 78).toNat
      rw [e] at w ⊢
      rw [z7, z8]
      omega
    · exact r2 u (by omega)
  · rw [t37 78 (by decide)] at hu
    rw [tn 183 u (by omega), tn 181 u (by omega), t37 2 (by decide)]
    exact r3 u hu
  · rw [t37 2 (by decide)] at hk
    rw [tn 91 k (by omega), tn 92 k (by omega)]
    exact r4 k hk
  · rw [t1] at hu
    rw [yVil_57]
    by_cases e : u = n
    · rw [if_pos e]
    · rw [if_neg e]
      exact P u (by omega)
/-- a house more -/
theorem yHou_n {w x2 x3 x4 x5 : Int} (e : (a ≠ 79 ∧ a ≠ 80 ∧ a ≠ 81 ∧ a ≠ 82 ∧ a ≠ 83 ∧ a ≠ 85) ∧ (a ≠ 37 ∨ i ≠ 2)) : yHou S n w x2 x3 x4 x5 a i = S a i := by
  obtain ⟨⟨e1, e2, e3, e4, e5, e6⟩, e7⟩ := e
  unfold yHou
  rw [zs_if, if_neg (by omega), zs_na e6, zs_na e5, zs_na e4, zs_na e3, zs_na e2, zs_na e1]
theorem yHou_2 {w x2 x3 x4 x5 : Int} : yHou S n w x2 x3 x4 x5 37 2 = n + 1 := zs_eq
theorem yHou_o {w x2 x3 x4 x5 : Int} (h : i ≠ n) (e : a ≠ 37) : yHou S n w x2 x3 x4 x5 a i = S a i := by
  unfold yHou
  rw [zs_na e, zs_ni h, zs_ni h, zs_ni h, zs_ni h, zs_ni h, zs_ni h]
theorem yHou_e {w x2 x3 x4 x5 : Int} : yHou S n w x2 x3 x4 x5 79 n = w ∧ yHou S n w x2 x3 x4 x5 80 n = x2 ∧ yHou S n w x2 x3 x4 x5 81 n = x3 ∧ yHou S n w x2 x3 x4 x5 82 n = x4 ∧ yHou S n w x2 x3 x4 x5 83 n = x5 ∧ yHou S n w x2 x3 x4 x5 85 n = 10 := by
  unfold yHou
  refine ⟨?_, ?_, ?_, ?_, ?_, ?_⟩ <;> simp (disch := decide) only [zs_na, zs_eq]
theorem yIv.hou (V : yIv S) (z1 : S 91 (S 37 2).toNat = 0) (z2 : S 92 (S 37 2).toNat = 0) : yIv (yHouF S x y) := by
  unfold yHouF
  split
  rotate_left 1
  · exact V
  rename_i h
  obtain ⟨h1, h2, h3, h4, h5, h6, h7, h8⟩ := h
  obtain ⟨⟨K, B, H, Z⟩, ⟨r1, r2, r3, r4⟩, P⟩ := V
  have s1 := K.s.2.2.1.1
  have en : (((S 37 2).toNat : Nat) : Int) = S 37 2 := by omega
  generalize hn : (S 37 2).toNat = n at en z1 z2
  have t1 : yHou S n x (y / 1000) (y / 100 % 10) (y / 10 % 10) (y % 10) 37 2 = S 37 2 + 1 := by rw [yHou_2, en]
  have tn : ∀ a i, (a ≠ 79 ∧ a ≠ 80 ∧ a ≠ 81 ∧ a ≠ 82 ∧ a ≠ 83 ∧ a ≠ 85) ∧ (a ≠ 37 ∨ i ≠ 2) → yHou S n x (y / 1000) (y / 100 % 10) (y / 10 % 10) (y % 10) a i = S a i := fun a i e => yHou_n e
  have to : ∀ a i, i ≠ n → a ≠ 37 → yHou S n x (y / 1000) (y / 100 % 10) (y / 10 % 10) (y % 10) a i = S a i := fun a i e f => yHou_o e f
  obtain ⟨e79, e80, e81, e82, e83, e85⟩ := yHou_e (S := S) (n := n) (w := x) (x2 := y / 1000) (x3 := y / 100 % 10) (x4 := y / 10 % 10) (x5 := y % 10)
  generalize hT : yHou S n x (y / 1000) (y / 100 % 10) (y / 10 % 10) (y % 10) = T at t1 tn to e79 e80 e81 e82 e83 e85
  refine ⟨⟨⟨?_, fun k hk => ?_, fun u hu => ?_, fun l hl => ?_⟩, ⟨fun k hk => ?_, fun u hu => ?_, ?_, ?_, ?_, ?_⟩, fun u hu => ?_, fun j hj => ?_⟩, ⟨?_, fun u hu => ?_, fun u hu => ?_, fun k hk => ?_⟩, fun u hu => ?_⟩
  · rw [tn 37 0 (by omega), tn 37 1 (by omega), t1, tn 37 64 (by omega)]
    exact ⟨K.1.1, K.1.2.1, by omega, K.1.2.2.2⟩
  · rw [t1] at hk
    rw [tn 37 1 (by omega)]
    by_cases e : k = n
    · rw [e, e79, e80, e81, e82, e83]
      omega
    · rw [to 80 k e (by decide), to 81 k e (by decide), to 82 k e (by decide), to 83 k e (by decide), to 79 k e (by decide)]
      exact K.ho (by omega)
  · rw [tn 37 1 (by omega)] at hu
    rw [tn 71 u (by omega)]
    exact ⟨(K.vi hu).1, fun s hs => by rw [tn 39 _ (by omega)]; exact (K.vi hu).2 s hs⟩
  · rw [tn 37 64 (by omega)] at hl
    rw [tn 172 l (by omega), tn 173 l (by omega), tn 170 l (by omega), t1]
    have w := K.2.2.2 l hl
    exact ⟨w.1, w.2.1, w.2.2.1, by omega⟩
  · rw [t1] at hk
    rw [tn 37 1 (by omega)]
    by_cases e : k = n
    · rw [e, e79, e80, e81, e85]
      omega
    · rw [to 80 k e (by decide), to 81 k e (by decide), to 85 k e (by decide), to 79 k e (by decide)]
      exact B.1 k (by omega)
  · rw [tn 37 1 (by omega)] at hu
    rw [tn 66 u (by omega)]
    exact ⟨(B.2.1 u hu).1, fun s hs => by rw [tn 39 _ (by omega)]; exact (B.2.1 u hu).2 s hs⟩
  · rw [tn 37 64 (by omega)]
    exact B.2.2.1
  · rw [tn 37 0 (by omega)]
    exact B.2.2.2.1
  · rw [tn 37 1 (by omega)]
    exact B.2.2.2.2.1
  · rw [t1]
    omega
  · rw [tn 37 1 (by omega)] at hu
    rw [tn 65 u (by omega)]
    exact H u hu
  · rw [tn 37 0 (by omega)] at hj
    rw [tn 206 j (by omega)]
    exact Z j hj
  · rw [tn 37 78 (by omega)]
    exact r1
  · rw [tn 37 1 (by omega)] at hu
    rw [tn 67 u (by omega), tn 68 u (by omega), tn 37 78 (by omega), yCn_ag (S := S) (fun w => tn 184 w (by omega))]
    exact r2 u hu
  · rw [tn 37 78 (by omega)] at hu
    rw [tn 183 u (by omega), tn 181 u (by omega), t1]
    have w := r3 u hu
    exact ⟨w.1, w.2.1, by omega⟩
  · rw [t1] at hk
    rw [tn 91 k (by omega), tn 92 k (by omega)]
    by_cases e : k = n
    · rw [e, z1, z2]
      omega
    · exact r4 k (by omega)
  · rw [tn 37 1 (by omega)] at hu
    rw [tn 57 _ (by omega)]
    exact P u hu
/-- weaving -/
theorem yWvS_n (e : (a ≠ 84 ∧ a ≠ 92 ∧ a ≠ 175) ∧ (a < 180 ∨ 185 < a) ∧ (a ≠ 37 ∨ (i ≠ 70 ∧ i ≠ 78))) : yWvS q S k l x a i = S a i := by
  obtain ⟨⟨e1, e2, e3⟩, e4, e5⟩ := e
  unfold yWvS
  rw [zs_if, if_neg (by omega), zs_if, if_neg (by omega), zs_na (by omega), zs_na (by omega), zs_na (by omega), zs_na (by omega), zs_na (by omega), zs_na (by omega), zs_na e3, zs_na e2, zs_na e1, zs_na e1]
theorem yWvS_o (h : i ≠ (S 37 78).toNat) (e : 180 ≤ a ∧ a ≤ 185) : yWvS q S k l x a i = S a i := by
  unfold yWvS
  rw [zs_na (by omega), zs_na (by omega), zs_ni h, zs_ni h, zs_ni h, zs_ni h, zs_ni h, zs_ni h, zs_na (by omega), zs_na (by omega), zs_na (by omega), zs_na (by omega)]
theorem yWvS_92 : yWvS q S k l x 92 i = if i = k then w32 (S 92 k + x) else S 92 i := by
  unfold yWvS
  simp (disch := decide) only [zs_na]
  rw [zs_if]
  by_cases h : i = k
  · rw [if_pos ⟨rfl, h⟩, if_pos h]
  · rw [if_neg (fun z => h z.2), if_neg h]
    simp (disch := decide) only [zs_na]
theorem yWvS_e : yWvS q S k l x 181 (S 37 78).toNat = k ∧ yWvS q S k l x 183 (S 37 78).toNat = x / 2 ∧ yWvS q S k l x 184 (S 37 78).toNat = -1 ∧ yWvS q S k l x 37 78 = S 37 78 + 1 := by
  unfold yWvS
  refine ⟨?_, ?_, ?_, ?_⟩ <;> simp (disch := decide) only [zs_na, zs_eq]
theorem yIv.wv (V : yIv S) : yIv (yWvF q S x y z) := by
  unfold yWvF
  split
  rotate_left 1
  · exact V
  rename_i h
  obtain ⟨⟨h1, h2, h3⟩, h4, h5, h6⟩ := h
  have h7 : z ≤ w32 (S 91 x.toNat - S 92 x.toNat) := by
    unfold yBarF at h6
    split at h6
    · omega
    · split at h6
      · omega
      · split at h6 <;> omega
  have h8 : 0 < S 91 x.toNat := by
    have w : yLbar q S x.toNat y.toNat z = 0 := by
      unfold yBarF at h6
      split at h6
      · exact h6
      · omega
    unfold yLbar at w
    split at w <;> omega
  obtain ⟨W, ⟨r1, r2, r3, r4⟩, P⟩ := V
  have b4 := r4 x.toNat (by omega)
  have w1 : w32 (S 91 x.toNat - S 92 x.toNat) ≤ 40 - S 92 x.toNat := by
    unfold w32 at h7 ⊢
    omega
  have w2 : w32 (S 92 x.toNat + z) = S 92 x.toNat + z := w32_id (by first | omega | exact ⟨by omega, by omega⟩)
  have en : (((S 37 78).toNat : Nat) : Int) = S 37 78 := by omega
  obtain ⟨f1, f3, f4, f7⟩ := yWvS_e (q := q) (S := S) (k := x.toNat) (l := y.toNat) (x := z)
  have tn : ∀ a i, (a ≠ 84 ∧ a ≠ 92 ∧ a ≠ 175) ∧ (a < 180 ∨ 185 < a) ∧ (a ≠ 37 ∨ (i ≠ 70 ∧ i ≠ 78)) → yWvS q S x.toNat y.toNat z a i = S a i := fun a i e => yWvS_n e
  have to : ∀ a i, i ≠ (S 37 78).toNat → 180 ≤ a ∧ a ≤ 185 → yWvS q S x.toNat y.toNat z a i = S a i := fun a i e f => yWvS_o e f
  have t92 : ∀ i, yWvS q S x.toNat y.toNat z 92 i = if i = x.toNat then w32 (S 92 x.toNat + z) else S 92 i := fun i => yWvS_92
  generalize hT : yWvS q S x.toNat y.toNat z = T at f1 f3 f4 f7 tn to t92
  refine ⟨W.ag (fun a i e => tn a i (by unfold yKi yKt at e; omega)), ⟨?_, fun u hu => ?_, fun u hu => ?_, fun k hk => ?_⟩, P.ag (tn 37 1 (by omega)) (fun i => tn 57 i (by omega))⟩
  · rw [f7]
    omega
  · rw [tn 37 1 (by omega)] at hu
    rw [tn 67 u (by omega), tn 68 u (by omega), f7, show (S 37 78 + 1).toNat = (S 37 78).toNat + 1 by omega]
    have c := r2 u hu
    rw [yCn_s, f4, if_neg (show ¬ (-1 : Int) = (u : Int) by omega)]
    have g : ∀ m : Nat, m ≤ (S 37 78).toNat → yCn T (u : Int) m = yCn S (u : Int) m := by
      intro m
      induction m with
      | zero => intro _; rfl
      | succ m ih =>
        intro hm
        rw [yCn_s, yCn_s, to 184 m (by omega) (by omega), ih (by omega)]
    rw [g _ (Nat.le_refl _)]
    exact c
  · rw [f7] at hu
    rw [tn 37 2 (by omega)]
    by_cases e : u = (S 37 78).toNat
    · rw [e, f3, f1]
      omega
    · rw [to 183 u e (by omega), to 181 u e (by omega)]
      exact r3 u (by omega)
  · rw [tn 37 2 (by omega)] at hk
    rw [tn 91 k (by omega), t92]
    by_cases e : k = x.toNat
    · rw [if_pos e, w2, e]
      omega
    · rw [if_neg e]
      exact r4 k hk
/-- bringing -/
theorem yBrS_n (e : a ≠ 67 ∧ a ≠ 68 ∧ a ≠ 75 ∧ a ≠ 184) : yBrS S u v a i = S a i := by
  obtain ⟨e1, e2, e3, e4⟩ := e
  unfold yBrS
  split
  · rw [zs_na e4, zs_na e2]
  · rw [zs_na e4, zs_na e3, zs_na e1]
theorem yBrS_184 : yBrS S u v 184 i = zs S 184 u v 184 i := by
  unfold yBrS
  by_cases h : i = u
  · subst h
    split <;> rw [zs_eq, zs_eq]
  · split
    · rw [zs_ni h, zs_ni h, zs_na (by decide)]
    · rw [zs_ni h, zs_ni h, zs_na (by decide), zs_na (by decide)]
theorem yBrS_o (h : i ≠ v) (e : a = 67 ∨ a = 68) : yBrS S u v a i = S a i := by
  unfold yBrS
  split
  · rw [zs_na (by omega), zs_ni h]
  · rw [zs_na (by omega), zs_na (by omega), zs_ni h]
theorem yBrS_v (h1 : 0 ≤ S 67 v ∧ 0 ≤ S 68 v) (h2 : 0 ≤ S 183 u ∧ S 183 u ≤ 20) (h3 : S 67 v + S 68 v ≤ 5000) : (0 ≤ yBrS S u v 67 v ∧ 0 ≤ yBrS S u v 68 v) ∧ yBrS S u v 67 v + yBrS S u v 68 v ≤ S 67 v + S 68 v + 20 := by
  have w1 : w32 (S 67 v + S 183 u) = S 67 v + S 183 u := w32_id (by first | omega | exact ⟨by omega, by omega⟩)
  have w2 : w32 (S 68 v + S 183 u) = S 68 v + S 183 u := w32_id (by first | omega | exact ⟨by omega, by omega⟩)
  unfold yBrS
  split
  · simp (disch := decide) only [zs_na, zs_eq]
    omega
  · simp (disch := decide) only [zs_na, zs_eq]
    omega
theorem yIv.br (V : yIv S) : yIv (yBrF S x y) := by
  unfold yBrF
  split
  rotate_left 1
  · exact V
  rename_i h
  obtain ⟨h1, h2, h3, h4⟩ := h
  obtain ⟨W, ⟨r1, r2, r3, r4⟩, P⟩ := V
  have tn : ∀ a i, (a ≠ 67 ∧ a ≠ 68 ∧ a ≠ 75 ∧ a ≠ 184) → yBrS S x.toNat y.toNat a i = S a i := fun a i e => yBrS_n e
  refine ⟨W.ag (fun a i e => tn a i (by unfold yKi yKt at e; omega)), ⟨?_, fun u hu => ?_, fun u hu => ?_, fun k hk => ?_⟩, P.ag (tn 37 1 (by omega)) (fun i => tn 57 i (by omega))⟩
  · rw [tn 37 78 (by omega)]
    exact r1
  · rw [tn 37 1 (by omega)] at hu
    rw [tn 37 78 (by omega), yCn_ag (S := zs S 184 x.toNat y.toNat) (fun w => yBrS_184), yCn_br h3 (by omega)]
    have c := r2 u hu
    have cb := yCn_b (S := S) (w := (u : Int)) (S 37 78).toNat
    by_cases e : u = y.toNat
    · have d := yBrS_v (S := S) (u := x.toNat) (v := u) c.1 (r3 x.toNat (by omega)).1 (by omega)
      rw [← e, if_pos ⟨by omega, rfl⟩]
      omega
    · rw [yBrS_o e (Or.inl rfl), yBrS_o e (Or.inr rfl), if_neg (by omega)]
      omega
  · rw [tn 37 78 (by omega)] at hu
    rw [tn 183 u (by omega), tn 181 u (by omega), tn 37 2 (by omega)]
    exact r3 u hu
  · rw [tn 37 2 (by omega)] at hk
    rw [tn 91 k (by omega), tn 92 k (by omega)]
    exact r4 k hk
/-- weeks -/
theorem ySlH_b {B : Int} (h : (0 ≤ S 67 v ∧ 0 ≤ S 68 v) ∧ S 67 v + S 68 v ≤ B) (hB : B ≤ 5000) (hp : 0 < w32 (S 67 v + S 68 v)) : (0 ≤ ySlH S v 67 v ∧ 0 ≤ ySlH S v 68 v) ∧ ySlH S v 67 v + ySlH S v 68 v ≤ B := by
  have w0 : w32 (S 67 v + S 68 v) = S 67 v + S 68 v := w32_id (by first | omega | exact ⟨by omega, by omega⟩)
  have w1 : w32 (S 67 v - 1) = S 67 v - 1 := w32_id (by first | omega | exact ⟨by omega, by omega⟩)
  have w2 : w32 (S 68 v - 1) = S 68 v - 1 := w32_id (by first | omega | exact ⟨by omega, by omega⟩)
  unfold ySlH
  split
  · simp (disch := decide) only [zs_na, zs_eq]
    omega
  · simp (disch := decide) only [zs_na, zs_eq]
    omega
theorem ySlH_o (h : v ≠ u) (e : a = 67 ∨ a = 68) : ySlH S u a v = S a v := by
  unfold ySlH
  split
  · rw [zs_na (by omega), zs_na (by omega), zs_ni h]
  · rw [zs_na (by omega), zs_ni h]
theorem yByd_b {B : Int} (h : (0 ≤ S 67 v ∧ 0 ≤ S 68 v) ∧ S 67 v + S 68 v ≤ B) (hB : B ≤ 5000) : (0 ≤ yByd S k d 67 v ∧ 0 ≤ yByd S k d 68 v) ∧ yByd S k d 67 v + yByd S k d 68 v ≤ B := by
  unfold yByd yBya
  split
  · rename_i e
    have hp : 0 < w32 (S 67 (S 79 k).toNat + S 68 (S 79 k).toNat) := by
      unfold yCho at e
      split at e
      · rename_i f
        exact f.1
      · split at e <;> omega
    rw [zs_na (a := 87) (by decide), zs_na (a := 84) (by decide), zs_na (a := 87) (by decide), zs_na (a := 84) (by decide)]
    by_cases f : v = (S 79 k).toNat
    · rw [← f] at hp ⊢
      exact ySlH_b h hB hp
    · rw [ySlH_o f (Or.inl rfl), ySlH_o f (Or.inr rfl)]
      exact h
  · split
    · rw [zs_na (a := 37) (by decide), zs_na (a := 88) (by decide), zs_na (a := 84) (by decide), ySlM_n (by decide), zs_na (a := 37) (by decide), zs_na (a := 88) (by decide), zs_na (a := 84) (by decide), ySlM_n (by decide)]
      exact h
    · rw [zs_na (a := 86) (by decide), zs_na (a := 86) (by decide)]
      exact h
theorem yBys_b {B : Int} (h : (0 ≤ S 67 v ∧ 0 ≤ S 68 v) ∧ S 67 v + S 68 v ≤ B) (hB : B ≤ 5000) : ∀ k : Nat, (0 ≤ yBys q S k 67 v ∧ 0 ≤ yBys q S k 68 v) ∧ yBys q S k 67 v + yBys q S k 68 v ≤ B
  | 0 => h
  | k + 1 => by
    have ih := yBys_b h hB k
    rw [yBys_s]
    split
    · exact yByd_b ih hB
    · exact ih
theorem yBg2_v : ∀ n : Nat, k < n → yBg2 S n 92 k = 0
  | 0, h => absurd h (Nat.not_lt_zero _)
  | n + 1, h => by
    rw [yBg2_s, zs_if]
    by_cases e : k = n
    · rw [if_pos ⟨rfl, e⟩]
    · rw [if_neg (fun z => e z.2)]
      exact yBg2_v n (by omega)
theorem yBg1_57 (h : 0 < m ∧ m < 157) : ∀ n : Nat, yBg1 S m n 57 (157 * v) = S 57 (157 * v)
  | 0 => rfl
  | n + 1 => by
    rw [yBg1_s, zs_ni (by omega)]
    exact yBg1_57 h n
theorem yWk5_b (e : (a = 37 ∧ (i = 1 ∨ i = 2 ∨ i = 78)) ∨ a = 181 ∨ a = 183 ∨ a = 184 ∨ a = 91 ∨ a = 57) : yWk5 q S a i = S a i := by
  have e3 : yWk3 q S a i = S a i := (yWrA_n (by omega)).trans ((yBys_n (by omega) _).trans (yLyN_n (by omega) _))
  unfold yWk5
  split
  · rw [ySea_n (by omega), e3]
  · exact e3
theorem yIv.wk (V : yIv S) (h : S 37 0 < 156) : yIv (yWkC q S) := by
  obtain ⟨W, ⟨r1, r2, r3, r4⟩, P⟩ := V
  have s0 := W.1.s.1.1
  have t : ∀ a i, (a = 37 ∧ (i = 1 ∨ i = 2 ∨ i = 78)) ∨ a = 181 ∨ a = 183 ∨ a = 184 ∨ a = 91 → yWkC q S a i = S a i := fun a i e => (yWkC_n (by omega)).trans (yWk5_b (by omega))
  have t67 : ∀ a v, a = 67 ∨ a = 68 → yWkC q S a v = yByA q (yLyA S) a v := fun a v e => by
    rw [yWkC_n (by omega)]
    have e3 : yWk3 q S a v = yByA q (yLyA S) a v := yWrA_n (by omega)
    unfold yWk5
    split
    · rw [ySea_n (by omega), e3]
    · exact e3
  refine ⟨W.wk h, ⟨?_, fun u hu => ?_, fun u hu => ?_, fun k hk => ?_⟩, fun u hu => ?_⟩
  · rw [t 37 78 (by omega)]
    exact r1
  · rw [t 37 1 (by omega)] at hu
    have c := r2 u hu
    have cb := yCn_b (S := S) (w := (u : Int)) (S 37 78).toNat
    have l7 : yLyA S 67 u = S 67 u := yLyN_n (by omega) _
    have l8 : yLyA S 68 u = S 68 u := yLyN_n (by omega) _
    rw [t67 67 u (by omega), t67 68 u (by omega), t 37 78 (by omega), yCn_ag (S := S) (fun w => t 184 w (by omega))]
    exact yBys_b (by rw [l7, l8]; exact c) (by omega) _
  · rw [t 37 78 (by omega)] at hu
    rw [t 183 u (by omega), t 181 u (by omega), t 37 2 (by omega)]
    exact r3 u hu
  · rw [t 37 2 (by omega)] at hk
    rw [t 91 k (by omega)]
    refine ⟨(r4 k hk).1, ?_⟩
    have e2 : yWkC q S 92 k = 0 := by
      unfold yWkC yBgA
      refine yBg2_v _ ?_
      rw [zs_ni (by decide), yClo_n (by omega), yWk5_b (by omega)]
      omega
    rw [e2]
    omega
  · rw [t 37 1 (by omega)] at hu
    have e : yWkC q S 57 (157 * u) = yWk5 q S 57 (157 * u) := by
      unfold yWkC yBgA
      have n92 : ∀ (U : zT) (n : Nat), yBg2 U n 57 (157 * u) = U 57 (157 * u) := fun U n => yBg2_n (by decide) _
      rw [n92, yBg1_57 (by rw [zs_eq, yWk5_n (by omega)]; omega), zs_na (by decide), yClo_n (by omega)]
    rw [e, yWk5_b (by omega)]
    exact P u hu
theorem yIv.go (V : yIv S) : ∀ k : Nat, yIv (yGoN q S k)
  | 0 => V
  | k + 1 => by
    rw [yGoN_s]
    split
    · exact (V.go k).wk (by assumption)
    · exact V.go k
theorem yIv.gof (V : yIv S) : yIv (yGoF q S x) := by
  unfold yGoF
  split
  · exact V.go _
  · exact V
end YIW
end
section
/-! class and model alike: all tables -/
section YREL
variable {h h1 g : Hp} {ms ms' : Zms} {c s c' s' : Int} {a i k n : Nat} {x : Int} {q : qT}
/-- what clauses answer now -/
def zQq (h : Hp) : qT := fun c w N => zTl h c w N
theorem mRq.xr (P : mRq q h) (R : zXR ms c s h g) (e : zkMq ms = true) : mRq q g := by
  obtain ⟨p1, p2, p3, p4⟩ := P
  unfold zkMq at e
  simp only [Bool.and_eq_true] at e
  obtain ⟨⟨e1, e2⟩, e3, e4, e5⟩ := e
  have f1 : fld g 37 52 = fld h 37 52 := R.f e5 (by first | decide | exact ⟨by decide, by decide⟩) (by first | decide | exact ⟨by decide, by decide⟩) (by first | decide | exact ⟨by decide, by decide⟩)
  have f2 : fld g 37 53 = fld h 37 53 := R.f e5 (by first | decide | exact ⟨by decide, by decide⟩) (by first | decide | exact ⟨by decide, by decide⟩) (by first | decide | exact ⟨by decide, by decide⟩)
  have f3 : fld g 164 = fld h 164 := R.fa (a := 164) e3 (by decide)
  have f4 : fld g 165 = fld h 165 := R.fa (a := 165) e4 (by decide)
  have r1 : ∀ r : Int, 101 ≤ r → r ≤ 148 → fld g r = fld h r := fun r u v => R.rw e1 (by decide) (by decide) u v
  have r2 : ∀ r : Int, 155 ≤ r → r ≤ 162 → fld g r = fld h r := fun r u v => R.rw e2 (by decide) (by decide) u v
  refine ⟨p1.of r1 r2 f1 p3.2, fun k hk => ?_, by omega, fun c w N c0 c1 => ?_⟩
  · rw [f3, f1]
    exact p2 k (by omega)
  · rw [← p4 c w N c0 c1]
    exact zTl_of r1 r2 f3 f4 f2 (fun k hk => by have := p2 k hk; omega) ⟨c0, c1⟩
def zkCk (ms : Zms) : Bool := zuw ms 101 148 && (zuw ms 155 162 && zqN ms 37 37 52 53)
theorem zCk.xr (K : zCk h) (R : zXR ms c s h g) (e : zkCk ms = true) (b : fld h 37 52 ≤ 8) : zCk g := by
  unfold zkCk at e
  simp only [Bool.and_eq_true] at e
  exact K.of (fun r u v => R.rw e.1 (by decide) (by decide) u v) (fun r u v => R.rw e.2.1 (by decide) (by decide) u v) (R.f e.2.2 (by first | decide | exact ⟨by decide, by decide⟩) (by first | decide | exact ⟨by decide, by decide⟩) (by first | decide | exact ⟨by decide, by decide⟩)) b
theorem zRq_q (P : zShe h) (F : zFo h) (K : zCk h) (e1 : fld h 13 1 = fld h 37 53) (e2 : fld h 14 2 = fld h 37 52) : zRq (zQq h) h := ⟨⟨P, F, K⟩, ⟨e1, e2⟩, fun _ _ _ _ _ => rfl⟩
theorem mRq_q (F : zFo h) (K : zCk h) (e1 : fld h 13 1 = fld h 37 53) (e2 : fld h 14 2 = fld h 37 52) (b : 0 ≤ fld h 37 52 ∧ fld h 37 52 ≤ 8) : mRq (zQq h) h := ⟨K, fun k hk => by have w := (F k (by omega)).1; omega, b, fun _ _ _ _ _ => rfl⟩
theorem zLw_of (P : zRO h) : zLw h := fun a b ha hb => by
  obtain ⟨p1, p2⟩ := P.2.2 a b ha hb
  have e : fld h 7 (8 * a + b) = zLa h a b := rfl
  rw [e, p1]
  by_cases z : a = b
  · rw [if_pos z]
    exact Or.inl ⟨z, rfl⟩
  · rw [if_neg z]
    right
    refine ⟨z, ?_⟩
    by_cases w : fld h (48 + (a : Int)) b = 0
    · rw [if_pos w]
      exact (by first | decide | exact ⟨by decide, by decide⟩)
    · rw [if_neg w]
      have := p2 w
      omega
theorem yF8_of (P : zRO h) : yF8 (yM h) := fun u v hu hv => by
  rw [yM_8 (by omega)]
  exact (P.2.1.1 u v hu hv).1
theorem yM_o (e1 : a ≠ 37) (e2 : a ≠ 186) (hi : ySz a ≤ i) : yM h a i = 0 := by
  unfold yM
  rw [zbq_f e1, zbq_f e2]
  simp only [cond_false]
  cases c4 : Nat.blt i (ySz a) with
  | false => rfl
  | true => exact absurd (Nat.le_of_ble_eq_true c4) (by omega)
theorem y48_of (P : zRO h) : yM h 48 i = yC h 48 i := by
  show _ = (if i < 64 then (if fld h 7 i = 1000000 then 0 else fld h 7 i) else 0)
  by_cases hi : i < 64
  · obtain ⟨v, j, hv, hj, e⟩ : ∃ v j : Nat, v < 8 ∧ j < 8 ∧ i = 8 * v + j := ⟨i / 8, i % 8, by omega, by omega, by omega⟩
    subst e
    obtain ⟨p1, p2⟩ := P.2.2 v j hv hj
    rw [yM_2 (a := 48) (w := 8) rfl hj (by show _ < 64; omega), if_pos hi, show fld h 7 (8 * v + j) = zLa h v j from rfl, p1, show ((48 + v : Nat) : Int) = 48 + (v : Int) by omega]
    by_cases z : v = j
    · rw [if_pos z, if_neg (by decide)]
      by_cases w : fld h (48 + (v : Int)) j = 0
      · exact w
      · exact absurd z (p2 w).1
    · rw [if_neg z]
      by_cases w : fld h (48 + (v : Int)) j = 0
      · rw [if_pos w, if_pos rfl, w]
      · rw [if_neg w, if_neg (by have := p2 w; omega)]
  · rw [if_neg hi]
    exact yM_o (by decide) (by decide) (by show 64 ≤ i; omega)
theorem y98_of (P : ∀ i : Nat, i < 400 → (0 ≤ fld h 10 i ∧ fld h 10 i ≤ 255) ∧ fld h 98 i = i_byt (fld h 10 i)) : yM h 98 i = yC h 98 i := by
  show _ = (if i < 400 then i_byt (fld h 10 i) else 0)
  by_cases hi : i < 400
  · rw [if_pos hi, yM_p (a := 98) (n := 400) rfl hi]
    exact (P i hi).2
  · rw [if_neg hi]
    exact yM_o (by decide) (by decide) (by show 400 ≤ i; omega)
theorem y186_of (P : zAk h) (N : ∀ i : Nat, (i : Int) < fld h 4 2 → fld h (zv h 4 i) 0 = i) (e : fld h 20 2 = fld h 37 86) : yM h 186 i = yC h 186 i := by
  show (if (i : Int) < fld h 37 86 then fld h 186 i else 0) = (if (i : Int) < fld h 20 2 then fld h (zv h 20 i) 0 else 0)
  rw [e]
  by_cases z : (i : Int) < fld h 37 86
  · obtain ⟨p1, p2, p3⟩ := P i (by omega)
    rw [if_pos z, if_pos z, p3, N _ (by omega)]
    omega
  · rw [if_neg z, if_neg z]
/-- the single numbers -/
def y37k (ms : Zms) : Bool := (zqN ms 37 37 38 39 && (zqN ms 37 37 69 72 && zqN ms 37 37 78 79)) && (zqN ms 1 1 1 2 && (zqN ms 34 34 0 3 && zun ms 5))
theorem y37_of (H : yM h = yC h) (R : zXR ms c s h g) (e : y37k ms = true) (s0 : fld g 1 0 = fld g 37 0) (s1 : fld g 2 2 = fld g 37 1) (s2 : fld g 3 2 = fld g 37 2) (s41 : fld g 9 0 = fld g 37 41) (s52 : fld g 14 2 = fld g 37 52) (s53 : fld g 13 1 = fld g 37 53) (s64 : fld g 4 2 = fld g 37 64) (s86 : fld g 20 2 = fld g 37 86) (s96 : fld g 27 0 = fld g 37 96) : yM g 37 i = yC g 37 i := by
  unfold y37k at e
  simp only [Bool.and_eq_true] at e
  obtain ⟨⟨e1, e2, e3⟩, e4, e5, e6⟩ := e
  cases c2 : ySc i with
  | false =>
    show cond (ySc i) _ _ = cond (ySc i) _ _
    rw [c2]
    rfl
  | true =>
    have key : ∀ (r j : Nat), ySr i = (r, j) → fld g 37 i = fld h 37 i → fld g (r : Int) j = fld h (r : Int) j → yM g 37 i = yC g 37 i := fun r j er f1 f2 => by
      have w := congrFun (congrFun H 37) i
      rw [yM_s c2, yC_s c2, er] at w
      rw [yM_s c2, yC_s c2, er]
      exact f1.trans (w.trans f2.symm)
    rcases ySc_of c2 with z | rfl | rfl | rfl | rfl | rfl | z | rfl | rfl | rfl
    · have z : i = 0 ∨ i = 1 ∨ i = 2 := by omega
      rcases z with rfl | rfl | rfl
      · exact s0.symm
      · exact s1.symm
      · exact s2.symm
    · exact key 1 1 rfl (R.f e1 (r := 37) (by first | decide | exact ⟨by decide, by decide⟩) (by first | decide | exact ⟨by decide, by decide⟩) (by first | decide | exact ⟨by decide, by decide⟩)) (R.f e4 (r := 1) (by first | decide | exact ⟨by decide, by decide⟩) (by first | decide | exact ⟨by decide, by decide⟩) (by first | decide | exact ⟨by decide, by decide⟩))
    · exact s41.symm
    · exact s52.symm
    · exact s53.symm
    · exact s64.symm
    · have z : i = 69 ∨ i = 70 ∨ i = 71 := by omega
      rcases z with rfl | rfl | rfl
      · exact key 34 0 rfl (R.f e2 (r := 37) (by first | decide | exact ⟨by decide, by decide⟩) (by first | decide | exact ⟨by decide, by decide⟩) (by first | decide | exact ⟨by decide, by decide⟩)) (R.f e5 (r := 34) (by first | decide | exact ⟨by decide, by decide⟩) (by first | decide | exact ⟨by decide, by decide⟩) (by first | decide | exact ⟨by decide, by decide⟩))
      · exact key 34 1 rfl (R.f e2 (r := 37) (by first | decide | exact ⟨by decide, by decide⟩) (by first | decide | exact ⟨by decide, by decide⟩) (by first | decide | exact ⟨by decide, by decide⟩)) (R.f e5 (r := 34) (by first | decide | exact ⟨by decide, by decide⟩) (by first | decide | exact ⟨by decide, by decide⟩) (by first | decide | exact ⟨by decide, by decide⟩))
      · exact key 34 2 rfl (R.f e2 (r := 37) (by first | decide | exact ⟨by decide, by decide⟩) (by first | decide | exact ⟨by decide, by decide⟩) (by first | decide | exact ⟨by decide, by decide⟩)) (R.f e5 (r := 34) (by first | decide | exact ⟨by decide, by decide⟩) (by first | decide | exact ⟨by decide, by decide⟩) (by first | decide | exact ⟨by decide, by decide⟩))
    · exact key 5 2 rfl (R.f e3 (r := 37) (by first | decide | exact ⟨by decide, by decide⟩) (by first | decide | exact ⟨by decide, by decide⟩) (by first | decide | exact ⟨by decide, by decide⟩)) (R.vz (A := 5) (by decide) e6)
    · exact s86.symm
    · exact s96.symm
/-- alike behind both calls, where few tables are touched -/
theorem yEq_t (H : yM h = yC h) (C : CI h) (R : zXR ms c s h g) (ex : List Nat) (e1 : yXo ms = true) (eA : (List.range 366).all (fun a => ex.contains a || (Nat.beq (yK a) 8 || (yCf ms a && yTf ms a))) = true) (b86 : fld h 37 86 ≤ 6) (hx : ∀ a i, ex.contains a = true → yM g a i = yC g a i) : yM g = yC g := by
  funext a i
  by_cases e : yK a = 8
  · exact (yC_8 e).symm
  cases c0 : ex.contains a with
  | true => exact hx a i c0
  | false =>
    have t : 366 ≤ a ∨ (yCf ms a = true ∧ yTf ms a = true) := by
      by_cases w : a < 366
      · right
        have q := List.all_eq_true.mp eA a (List.mem_range.mpr w)
        rw [c0, zbq_f e] at q
        simp only [Bool.false_or, Bool.and_eq_true] at q
        exact q
      · exact Or.inl (by omega)
    rw [yC_zx C R e1 (t.imp id (fun w => w.1)) e, yM_zx R (t.imp id (fun w => w.2)) b86, H]
theorem yEq_0 (H : yM h = yC h) (C : CI h) (R : zXR ms c s h g) (e1 : yXo ms = true) (eA : (List.range 366).all (fun a => ([] : List Nat).contains a || (Nat.beq (yK a) 8 || (yCf ms a && yTf ms a))) = true) (b86 : fld h 37 86 ≤ 6) : yM g = yC g := yEq_t H C R [] e1 eA b86 (fun a i z => by cases z)
/-- the TEXT, the roads, lots told -/
theorem yEq_g (H : yM h = yC h) (C : CI h) (R : zXR ms c s h g) (e1 : yXo ms = true) (eA : (List.range 366).all (fun a => [37, 48, 98, 186].contains a || (Nat.beq (yK a) 8 || (yCf ms a && yTf ms a))) = true) (e37 : y37k ms = true) (b86 : fld h 37 86 ≤ 6) (RO : zRO g) (TX : ∀ i : Nat, i < 400 → (0 ≤ fld g 10 i ∧ fld g 10 i ≤ 255) ∧ fld g 98 i = i_byt (fld g 10 i)) (AK : zAk g) (N : ∀ i : Nat, (i : Int) < fld g 4 2 → fld g (zv g 4 i) 0 = i) (s0 : fld g 1 0 = fld g 37 0) (s1 : fld g 2 2 = fld g 37 1) (s2 : fld g 3 2 = fld g 37 2) (s41 : fld g 9 0 = fld g 37 41) (s52 : fld g 14 2 = fld g 37 52) (s53 : fld g 13 1 = fld g 37 53) (s64 : fld g 4 2 = fld g 37 64) (s86 : fld g 20 2 = fld g 37 86) (s96 : fld g 27 0 = fld g 37 96) : yM g = yC g := yEq_t H C R [37, 48, 98, 186] e1 eA b86 (fun a i hc => by
  rw [List.contains_iff_mem] at hc
  simp only [List.mem_cons, List.not_mem_nil, or_false] at hc
  rcases hc with rfl | rfl | rfl | rfl
  · exact y37_of H R e37 s0 s1 s2 s41 s52 s53 s64 s86 s96
  · exact y48_of RO
  · exact y98_of TX
  · exact y186_of AK N s86)
/-- a sheet put in force -/
theorem yEq_f (H : yM h = yC h) (C : CI h) (R : zXR ms c s h g) (e1 : yXo ms = true) (eA : (List.range 366).all (fun a => [37, 164, 165].contains a || (Nat.beq (yK a) 8 || (yCf ms a && yTf ms a))) = true) (e37 : y37k ms = true) (b86 : fld h 37 86 ≤ 6) (SH : zShe g) (FO : zFo g) {va vb vz : Int} {m : Nat} (hm : m = (fld h 13 1).toNat) (hc : fld g 13 1 = fld h 13 1 + 1) (b0 : 0 ≤ fld h 13 1 ∧ fld h 13 1 < 12) (m1 : fld g 164 = zu (fld h 164) m va) (m2 : fld g 165 = zu (fld h 165) m vb) (x3 : fld g 16 = zu (fld h 16) m vz) (s0 : fld g 1 0 = fld g 37 0) (s1 : fld g 2 2 = fld g 37 1) (s2 : fld g 3 2 = fld g 37 2) (s41 : fld g 9 0 = fld g 37 41) (s52 : fld g 14 2 = fld g 37 52) (s53 : fld g 13 1 = fld g 37 53) (s64 : fld g 4 2 = fld g 37 64) (s86 : fld g 20 2 = fld g 37 86) (s96 : fld g 27 0 = fld g 37 96) : yM g = yC g := yEq_t H C R [37, 164, 165] e1 eA b86 (fun a i hc' => by
  rw [List.contains_iff_mem] at hc'
  simp only [List.mem_cons, List.not_mem_nil, or_false] at hc'
  rcases hc' with rfl | rfl | rfl
  · exact y37_of H R e37 s0 s1 s2 s41 s52 s53 s64 s86 s96
  · show _ = (if (i : Int) < fld g 13 1 then fld g (fld g 15 i) 0 else 0)
    by_cases z : (i : Int) < fld g 13 1
    · obtain ⟨⟨p0, p1⟩, p2, -, -⟩ := FO i z
      have w := (SH (fld g 164 i).toNat (by omega)).1
      have ye : yM g 164 i = fld g 164 i := yM_p (a := 164) (n := 12) rfl (by omega)
      rw [if_pos z, p2, w, ye]
      omega
    · rw [if_neg z]
      by_cases y : i < 12
      · have hh := congrFun (congrFun H 164) i
        have ch : yC h 164 i = if (i : Int) < fld h 13 1 then fld h (fld h 15 i) 0 else 0 := rfl
        rw [ch, if_neg (by omega), yM_p (a := 164) (n := 12) rfl y] at hh
        rw [yM_p (a := 164) (n := 12) rfl y, show fld g ((164 : Nat) : Int) i = zu (fld h 164) m va i from congrFun m1 i, zu_ne (by omega)]
        exact hh
      · exact yM_o (by decide) (by decide) (by show 12 ≤ i; omega)
  · show _ = (if i < 12 then fld g 16 i else 0)
    by_cases y : i < 12
    · rw [if_pos y, yM_p (a := 165) (n := 12) rfl y]
      by_cases z : (i : Int) < fld g 13 1
      · exact (FO i z).2.2.1.symm
      · have hh := congrFun (congrFun H 165) i
        have ch : yC h 165 i = if i < 12 then fld h 16 i else 0 := rfl
        rw [ch, if_pos y, yM_p (a := 165) (n := 12) rfl y] at hh
        rw [show fld g ((165 : Nat) : Int) i = zu (fld h 165) m vb i from congrFun m2 i, zu_ne (by omega), congrFun x3 i, zu_ne (by omega)]
        exact hh
    · rw [if_neg y]
      exact yM_o (by decide) (by decide) (by show 12 ≤ i; omega))
/-- numbers and references behind such calls -/
theorem yR_g (J : yR h) (C : CI h) (R : zXR ms c s h g) (e : yXo ms = true) (SH : zShe g) (AK : zAk g) (FO : zFo g) (e4 : fld g 20 2 = fld g 37 86) : yR g := by
  unfold yXo at e
  simp only [Bool.and_eq_true] at e
  obtain ⟨⟨e2, e3, e4, e5⟩, -⟩ := e
  have L : ∀ A : Nat, (A = 2 ∨ A = 3 ∨ A = 4 ∨ A = 5) → A ∈ zLis ∧ fld g A 2 = fld h A 2 ∧ ∀ i : Nat, (i : Int) < fld h A 2 → zv g A i = zv h A i := by
    intro A hA
    rcases hA with rfl | rfl | rfl | rfl
    · exact ⟨by decide, R.vz (A := 2) (by decide) e2, fun i hi => R.v C (A := 2) (by decide) e2 hi⟩
    · exact ⟨by decide, R.vz (A := 3) (by decide) e3, fun i hi => R.v C (A := 3) (by decide) e3 hi⟩
    · exact ⟨by decide, R.vz (A := 4) (by decide) e4, fun i hi => R.v C (A := 4) (by decide) e4 hi⟩
    · exact ⟨by decide, R.vz (A := 5) (by decide) e5, fun i hi => R.v C (A := 5) (by decide) e5 hi⟩
  have F : ∀ (A j : Nat), A ∈ zLis → zfin (zkd A) j = true → ∀ i : Nat, (i : Int) < fld h A 2 → fld g (zv h A i) j = fld h (zv h A i) j := by
    intro A j hA hf i hi
    obtain ⟨h1, n, h2⟩ := zv_s C hA hi
    exact R.2.2.1 _ _ n j h1 h2 hf
  obtain ⟨j1, j2, j3, j4, j5, j6⟩ := J
  refine ⟨fun A hA i hi => ?_, fun A j B hB i hi => ?_, fun i hi => ?_, fun i hi => ?_, fun i hi => ?_, fun i k hi hk e => ?_⟩
  · by_cases z : A = 14
    · subst z
      exact (SH i hi).1
    · obtain ⟨m, l, v⟩ := L A (by omega)
      rw [l] at hi
      rw [v i hi, F A 0 m (by unfold zkd; rcases (show A = 2 ∨ A = 3 ∨ A = 4 by omega) with rfl | rfl | rfl <;> rfl) i hi]
      exact j1 A hA i hi
  · obtain ⟨m, l, v⟩ := L A (by omega)
    obtain ⟨m', l', v'⟩ := L B (by omega)
    rw [l] at hi
    obtain ⟨w, w1, w2⟩ := j2 A j B hB i hi
    refine ⟨w, by rw [l']; exact w1, ?_⟩
    rw [v i hi, F A j m (by unfold zkd; rcases hB with ⟨rfl, rfl, -⟩ | ⟨rfl, rfl, -⟩ | ⟨rfl, rfl, -⟩ | ⟨rfl, rfl, -⟩ <;> rfl) i hi, v' w w1]
    exact w2
  · obtain ⟨p1, p2, p3⟩ := AK i hi
    exact ⟨(fld g 186 i).toNat, by omega, p3⟩
  · obtain ⟨⟨p0, p1⟩, p2, -, -⟩ := FO i hi
    exact ⟨(fld g 164 i).toNat, by omega, p2⟩
  · obtain ⟨m, l, v⟩ := L 2 (by omega)
    have l : fld g 2 2 = fld h 2 2 := l
    rw [l] at hi
    rw [v i hi, F 2 1 m rfl i hi]
    exact j5 i hi
  · obtain ⟨m, l, v⟩ := L 5 (by omega)
    have l : fld g 5 2 = fld h 5 2 := l
    rw [l] at hi hk
    rw [v i hi, v k hk] at e
    exact j6 i k hi hk e
/-- the bounds behind such calls -/
def yKl : List Nat := [39, 71, 79, 80, 81, 82, 83, 170, 172, 173, 85, 66, 65, 206, 67, 68, 181, 183, 184, 91, 92, 57]
def yIk (ms : Zms) : Bool := yKl.all (fun a => yTf ms a) && (zqN ms 37 37 0 3 && (zqN ms 37 37 64 65 && zqN ms 37 37 78 79))
theorem yIv.gr (V : yIv (yM h)) (R : zXR ms c s h g) (e : yIk ms = true) (b86 : fld h 37 86 ≤ 6) : yIv (yM g) := by
  unfold yIk at e
  simp only [Bool.and_eq_true] at e
  obtain ⟨e0, e1, e2, e3⟩ := e
  refine V.ag (fun a i ha => ?_)
  by_cases z : a = 37
  · subst z
    have w : i ≤ 2 ∨ i = 64 ∨ i = 78 := by unfold yKj yKi yKb yKt at ha; omega
    have sc : ySc i = true := by
      rcases (show i = 0 ∨ i = 1 ∨ i = 2 ∨ i = 64 ∨ i = 78 by omega) with rfl | rfl | rfl | rfl | rfl <;> rfl
    rw [yM_s sc, yM_s sc]
    rcases w with w | w | w
    · exact R.f e1 (r := 37) (by first | decide | exact ⟨by decide, by decide⟩) (by first | omega | exact ⟨by omega, by omega⟩) (by first | decide | exact ⟨by decide, by decide⟩)
    · exact R.f e2 (r := 37) (by first | decide | exact ⟨by decide, by decide⟩) (by first | omega | exact ⟨by omega, by omega⟩) (by first | decide | exact ⟨by decide, by decide⟩)
    · exact R.f e3 (r := 37) (by first | decide | exact ⟨by decide, by decide⟩) (by first | omega | exact ⟨by omega, by omega⟩) (by first | decide | exact ⟨by decide, by decide⟩)
  · have m : a ∈ yKl := by
      unfold yKl
      simp only [List.mem_cons, List.not_mem_nil, or_false]
      unfold yKj yKi yKb yKt at ha
      omega
    exact yM_zx R (Or.inr (List.all_eq_true.mp e0 a m)) b86
/-- what class and model have alike, with all tables -/
def wD (h : Hp) : Prop := yM h = yC h ∧ yR h ∧ yIv (yM h) ∧ zCk h ∧ zPd h
end YREL
end
section
/-! all tables as both constructors leave them -/
section YST
variable {h : Hp} {a i r : Nat}
def wkZ (h : Hp) (r : Nat) : Bool := match cel h (r : Int) with
  | some (_, l) => l.all (fun x => decide (x = 0))
  | none => false
theorem wkZ_ok (e : wkZ h r = true) : ∀ q : Nat, fld h (r : Int) q = 0 := by
  intro q
  unfold wkZ at e
  cases hc : cel h (r : Int) with
  | none => rw [hc] at e; cases e
  | some z =>
    obtain ⟨k, l⟩ := z
    rw [hc] at e
    dsimp only at e
    rw [fld_of hc, List.getD_eq_getElem?_getD]
    by_cases hq : q < l.length
    · rw [List.getElem?_eq_getElem hq]
      exact of_decide_eq_true (List.all_eq_true.mp e _ (List.getElem_mem hq))
    · rw [List.getElem?_eq_none (by omega)]
      rfl
/-- the model's rows that stay, and the class's -/
def wkZr : List (Nat × Nat) := [(10, 1), (16, 1), (28, 3), (35, 1), (39, 8), (48, 8), (57, 8), (65, 34), (164, 2), (170, 6), (180, 7), (206, 156), (363, 3)]
def wkD (h : Hp) : Bool := wkZr.all (fun e => (List.range e.2).all (fun j => wkZ h (e.1 + j))) && ((List.range 64).all (fun i => decide (fld h 7 i = 0) || decide (fld h 7 i = 1000000)) && ([0, 1, 2, 38, 41, 52, 53, 64, 69, 70, 71, 78, 86, 96].all (fun i => decide (fld h 37 i = 0) && decide (fld h ((ySr i).1 : Nat) (ySr i).2 = 0)) && ([2, 3, 4, 5, 14, 20].all (fun A => decide (fld h ((A : Nat) : Int) 2 = 0)) && decide (fld h 13 1 = 0))))
theorem wkD_ok (e : wkD h = true) : wD h := by
  unfold wkD at e
  simp only [Bool.and_eq_true, List.all_eq_true] at e
  obtain ⟨e1, e2, e3, e4, e5⟩ := e
  have e5 := of_decide_eq_true e5
  have Z : ∀ b n : Nat, (b, n) ∈ wkZr → ∀ (p : Nat) (q : Nat), b ≤ p → p < b + n → fld h (p : Int) q = 0 := fun b n m p q h1 h2 => by
    have w := e1 (b, n) m (p - b) (List.mem_range.mpr (by omega))
    have w := wkZ_ok w q
    rwa [show b + (p - b) = p by omega] at w
  have L : ∀ A : Nat, A ∈ [2, 3, 4, 5, 14, 20] → fld h (A : Int) 2 = 0 := fun A m => of_decide_eq_true (e4 A m)
  have l2 : fld h 2 2 = 0 := L 2 (by decide)
  have l3 : fld h 3 2 = 0 := L 3 (by decide)
  have l4 : fld h 4 2 = 0 := L 4 (by decide)
  have l5 : fld h 5 2 = 0 := L 5 (by decide)
  have l14 : fld h 14 2 = 0 := L 14 (by decide)
  have l20 : fld h 20 2 = 0 := L 20 (by decide)
  have S : ∀ i, i ∈ [0, 1, 2, 38, 41, 52, 53, 64, 69, 70, 71, 78, 86, 96] → fld h 37 i = 0 ∧ fld h ((ySr i).1 : Nat) (ySr i).2 = 0 := fun i m => by
    have w := e3 i m
    exact ⟨of_decide_eq_true w.1, of_decide_eq_true w.2⟩
  have sM : ∀ i, ySc i = true → i ∈ [0, 1, 2, 38, 41, 52, 53, 64, 69, 70, 71, 78, 86, 96] := fun i c => by
    simp only [List.mem_cons, List.not_mem_nil, or_false]
    have := ySc_of c
    omega
  have m86 : fld h 37 86 = 0 := (S 86 (by decide)).1
  have zM : ∀ a i, yK a ≠ 8 → a ≠ 37 → yM h a i = 0 := by
    intro a i h8 h37
    by_cases h186 : a = 186
    · rw [h186, yM_186, if_neg (by omega)]
    by_cases hi : i < ySz a
    · have w := yM_wh hi
      have key : fld h ((a + i / yWd a : Nat) : Int) (i % yWd a) = 0 := by
        have n8 : a ≠ 8 := fun z => h8 (by rw [z]; rfl)
        have n101 : a ≠ 101 := fun z => h8 (by rw [z]; rfl)
        have n155 : a ≠ 155 := fun z => h8 (by rw [z]; rfl)
        have c : (39 ≤ a + i / yWd a ∧ a + i / yWd a < 47) ∨ (48 ≤ a + i / yWd a ∧ a + i / yWd a < 56) ∨ (57 ≤ a + i / yWd a ∧ a + i / yWd a < 65) ∨ (65 ≤ a + i / yWd a ∧ a + i / yWd a < 99) ∨ (164 ≤ a + i / yWd a ∧ a + i / yWd a < 166) ∨ (170 ≤ a + i / yWd a ∧ a + i / yWd a < 176) ∨ (180 ≤ a + i / yWd a ∧ a + i / yWd a < 187) ∨ (206 ≤ a + i / yWd a ∧ a + i / yWd a < 362) ∨ (363 ≤ a + i / yWd a ∧ a + i / yWd a < 366) ∨ (166 ≤ a ∧ a < 170 ∧ ySz a = 0) ∨ (176 ≤ a ∧ a < 180 ∧ ySz a = 0) := by
          rcases w with ⟨w1, w2, ⟨w31, w32, w33, w34, w35, w36⟩, w4, w5, w6⟩ | ⟨w1, w2, w3, w4⟩
          · rcases w1 with z | z | z | z | z | z
            · have y := w31 z
              clear w31 w32 w33 w34 w35 w36 w6
              omega
            · have y := w32 z
              clear w31 w32 w33 w34 w35 w36 w6
              omega
            · have y := w33 z
              clear w31 w32 w33 w34 w35 w36 w6
              omega
            · exact absurd z n101
            · exact absurd z n155
            · have y := w36 z
              clear w31 w32 w33 w34 w35 w36 w6
              omega
          · rcases (show (65 ≤ a ∧ a < 99) ∨ (164 ≤ a ∧ a < 166) ∨ (166 ≤ a ∧ a < 170) ∨ (170 ≤ a ∧ a < 176) ∨ (176 ≤ a ∧ a < 180) ∨ (180 ≤ a ∧ a < 187) ∨ (363 ≤ a ∧ a < 366) by omega) with z | z | z | z | z | z | z
            · omega
            · omega
            · have y : a = 166 ∨ a = 167 ∨ a = 168 ∨ a = 169 := by omega
              have : ySz a = 0 := by rcases y with rfl | rfl | rfl | rfl <;> rfl
              omega
            · omega
            · have y : a = 176 ∨ a = 177 ∨ a = 178 ∨ a = 179 := by omega
              have : ySz a = 0 := by rcases y with rfl | rfl | rfl | rfl <;> rfl
              omega
            · omega
            · omega
        clear w
        rcases c with c | c | c | c | c | c | c | c | c | c | c
        · exact Z 39 8 (by decide) _ _ c.1 (by omega)
        · exact Z 48 8 (by decide) _ _ c.1 (by omega)
        · exact Z 57 8 (by decide) _ _ c.1 (by omega)
        · exact Z 65 34 (by decide) _ _ c.1 (by omega)
        · exact Z 164 2 (by decide) _ _ c.1 (by omega)
        · exact Z 170 6 (by decide) _ _ c.1 (by omega)
        · exact Z 180 7 (by decide) _ _ c.1 (by omega)
        · exact Z 206 156 (by decide) _ _ c.1 (by omega)
        · exact Z 363 3 (by decide) _ _ c.1 (by omega)
        · omega
        · omega
      unfold yM
      rw [zbq_f h37, zbq_f h186, blt_t hi]
      simp only [cond_false, cond_true]
      rw [key]
      cases c5 : Nat.beq a 93 with
      | false => rfl
      | true =>
        have hb := Nat.eq_of_beq_eq_true c5
        subst hb
        have key : fld h ((93 + i / 0 : Nat) : Int) (i % 0) = 0 := key
        rw [Nat.div_zero, Nat.mod_zero] at key
        show w32 _ = 0
        rw [show fld h 93 i = 0 from key]
        rfl
    · exact yM_o h37 h186 (by omega)
  have zC : ∀ a i, yK a ≠ 8 → a ≠ 37 → yC h a i = 0 := by
    intro a i h8 h37
    unfold yC
    split
    · rename_i hK
      exact absurd (yK_1 hK) h37
    · exact if_neg (fun z => by have := z.2; omega)
    · by_cases q : i < 64
      · rw [if_pos q]
        have w := e2 i (List.mem_range.mpr q)
        rw [Bool.or_eq_true, decide_eq_true_eq, decide_eq_true_eq] at w
        split <;> omega
      · rw [if_neg q]
    · exact if_neg (fun z => by have := z.2.1; omega)
    · by_cases q : i < 400
      · rw [if_pos q, show fld h 10 i = 0 from Z 10 1 (by decide) 10 i (by decide) (by decide)]
        rfl
      · rw [if_neg q]
    · exact if_neg (by omega)
    · exact if_neg (by omega)
    · rename_i hK
      exact absurd hK h8
    · rename_i hK
      by_cases q : i < ySz a
      · rw [if_pos q]
        rcases yK_9 hK with rfl | rfl | rfl | rfl | rfl
        · exact Z 16 1 (by decide) 16 i (by decide) (by decide)
        · exact Z 35 1 (by decide) 35 i (by decide) (by decide)
        · exact Z 28 3 (by decide) 28 i (by decide) (by decide)
        · exact Z 28 3 (by decide) 29 i (by decide) (by decide)
        · exact Z 28 3 (by decide) 30 i (by decide) (by decide)
      · rw [if_neg q]
    · rename_i hK
      refine if_neg ?_
      rcases yK_10 hK with ⟨z, -⟩ | ⟨z, -⟩ | ⟨z, -⟩ | ⟨z, -⟩ <;> rw [z]
      · show ¬ (i : Int) < fld h 3 2
        omega
      · show ¬ (i : Int) < fld h 4 2
        omega
      · show ¬ (i : Int) < fld h 5 2
        omega
      · show ¬ (i : Int) < fld h 5 2
        omega
    · rename_i hK
      refine if_neg ?_
      rcases (yF_of hK).2.2 with z | z | z | z <;> rw [z]
      · show ¬ (i : Int) < fld h 2 2
        omega
      · show ¬ (i : Int) < fld h 3 2
        omega
      · show ¬ (i : Int) < fld h 4 2
        omega
      · show ¬ (i : Int) < fld h 5 2
        omega
    · rfl
  have H : yM h = yC h := by
    funext a i
    by_cases h8 : yK a = 8
    · exact (yC_8 h8).symm
    by_cases h37 : a = 37
    · subst h37
      cases c : ySc i with
      | false =>
        show cond (ySc i) _ _ = cond (ySc i) _ _
        rw [c]
        rfl
      | true =>
        have w := S i (sM i c)
        rw [yM_s c, yC_s c, w.1, w.2]
    · rw [zM a i h8 h37, zC a i h8 h37]
  have m0 : yM h 37 0 = 0 := (S 0 (by decide)).1
  have m1 : yM h 37 1 = 0 := (S 1 (by decide)).1
  have m2 : yM h 37 2 = 0 := (S 2 (by decide)).1
  have m64 : yM h 37 64 = 0 := (S 64 (by decide)).1
  have m78 : yM h 37 78 = 0 := (S 78 (by decide)).1
  have m52 : fld h 37 52 = 0 := (S 52 (by decide)).1
  refine ⟨H, ⟨fun A hA j hj => ?_, fun A j B hB k hk => ?_, fun j hj => by omega, fun j hj => by omega, fun j hj => by omega, fun j k hj => by omega⟩, ⟨⟨⟨?_, fun k hk => by omega, fun v hv => by omega, fun l hl => by omega⟩, ⟨fun k hk => by omega, fun v hv => by omega, by omega, by omega, by omega, by omega⟩, fun v hv => by omega, fun j hj => zM 206 j (by decide) (by decide)⟩, ⟨by omega, fun v hv => by omega, fun u hu => by omega, fun k hk => by omega⟩, fun v hv => by omega⟩, fun s c s0 s1 => by omega, fun v k hv => by omega⟩
  · exfalso
    rcases hA with rfl | rfl | rfl | rfl
    · have hj : (j : Int) < fld h 2 2 := hj
      omega
    · have hj : (j : Int) < fld h 3 2 := hj
      omega
    · have hj : (j : Int) < fld h 4 2 := hj
      omega
    · have hj : (j : Int) < fld h 14 2 := hj
      omega
  · exfalso
    rcases hB with ⟨rfl, -⟩ | ⟨rfl, -⟩ | ⟨rfl, -⟩ | ⟨rfl, -⟩
    · have hk : (k : Int) < fld h 3 2 := hk
      omega
    · have hk : (k : Int) < fld h 4 2 := hk
      omega
    · have hk : (k : Int) < fld h 5 2 := hk
      omega
    · have hk : (k : Int) < fld h 5 2 := hk
      omega
  · omega
/-- bounds of the model's rows, everywhere -/
theorem yM_185 (I : zI h) (i : Nat) : 0 ≤ yM h 185 i ∧ yM h 185 i ≤ 1 := by
  by_cases q : i < 200
  · rw [yM_p (a := 185) (n := 200) rfl q]
    exact I.b (a1 := 185) (a2 := 185) (j1 := 0) (j2 := 200) (lo := 0) (hi := 1) (by decide +kernel) (r := 185) (j := i) (by decide) (by decide) (by omega) (by omega)
  · rw [yM_o (by decide) (by decide) (by show 200 ≤ i; omega)]
    exact (by first | decide | exact ⟨by decide, by decide⟩)
theorem yM_74 (I : zI h) (i : Nat) : 0 ≤ yM h 74 i ∧ yM h 74 i ≤ 9999 := by
  by_cases q : i < 8
  · rw [yM_p (a := 74) (n := 8) rfl q]
    exact I.b (a1 := 74) (a2 := 74) (j1 := 0) (j2 := 8) (lo := 0) (hi := 9999) (by decide +kernel) (r := 74) (j := i) (by decide) (by decide) (by omega) (by omega)
  · rw [yM_o (by decide) (by decide) (by show 8 ≤ i; omega)]
    exact (by first | decide | exact ⟨by decide, by decide⟩)
theorem yM_83 (I : zI h) (i : Nat) : 0 ≤ yM h 83 i ∧ yM h 83 i ≤ 9 := by
  by_cases q : i < 20
  · rw [yM_p (a := 83) (n := 20) rfl q]
    exact I.b (a1 := 83) (a2 := 83) (j1 := 0) (j2 := 20) (lo := 0) (hi := 9) (by decide +kernel) (r := 83) (j := i) (by decide) (by decide) (by omega) (by omega)
  · rw [yM_o (by decide) (by decide) (by show 20 ≤ i; omega)]
    exact (by first | decide | exact ⟨by decide, by decide⟩)
end YST
end
