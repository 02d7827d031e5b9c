/-! what was read can be run: for any bytes -/
section WH
variable {n : Nat} {t : pT} {e : Nat} {f hol eit sum sub : pQ → pR} {o : Bool} {P : Int → Prop} {s : pQ} {b c0 : Nat → Int} {h h1 g : Hp} {ms : Zms} {c z : Int}
theorem pV_nn {p : Nat} (hk : pK t n p = 2) : 0 ≤ pV t n p := by
  have hp := pK_lt (t := t) (n := n) (p := p) (by omega)
  unfold pK at hk
  rw [if_pos hp] at hk
  by_cases h1 : pLet (t p) = true
  · rw [if_pos h1] at hk; omega
  · rw [if_neg h1] at hk
    by_cases h2 : pDig (t p) = true
    · unfold pV
      rw [if_neg h1]
      unfold pVl
      have he : pEn t n p = pRun pDig t n p := by unfold pEn; rw [if_pos hp, if_neg h1, if_pos h2]
      have hr := pRun_b (P := pDig) (t := t) (n := n) (n - p) p rfl (by omega)
      rw [he]
      have key : ∀ (f q : Nat) (v : Int), 0 ≤ v → p ≤ q → q + f ≤ pRun pDig t n p → 0 ≤ pNu t f q v := by
        intro f
        induction f with
        | zero => intro q v hv _ _; exact hv
        | succ f IH =>
          intro q v hv hq hf
          have d := pDig_t.mp (hr.2.2.1 q hq (by omega))
          exact IH (q + 1) _ (by omega) (by omega) (by omega)
      exact key _ p 0 (by omega) (Nat.le_refl _) (by omega)
    · rw [if_neg h2] at hk
      by_cases h3 : pSig (t p) = true
      · rw [if_pos h3] at hk
        have := pSig_t.mp h3
        omega
      · rw [if_neg h3] at hk; omega
theorem eH_fac (H : eG n eNum sub) (Hg : pG n sub) : eG n eNum (pFac t n o sub) := by
  intro N hN s h
  unfold pFac
  split
  · rename_i c1
    intro _
    have v0 := pV_nn (t := t) (n := n) c1.1
    show eSg N (zu s.2.2 s.2.1 (pV t n s.1)) eNum s.2.1 (s.2.1 + 1)
    refine eSg_one (by rw [zu_eq]; omega) (fun v hv => ?_)
    rw [zu_eq, if_pos v0] at hv
    rw [hv]
    unfold eNum
    omega
  · split
    · rename_i c1 c2
      intro _
      show eSg N (zu s.2.2 s.2.1 (-1 - pV t n s.1)) eNum s.2.1 (s.2.1 + 1)
      refine eSg_one (by rw [zu_eq]; omega) (fun v hv => ?_)
      rw [zu_eq, if_neg (by omega)] at hv
      rw [hv]
      exact hN _ (by omega)
    · split
      · rename_i c3
        have hp := pK_lt (t := t) (n := n) (p := s.1) (by omega)
        have b := pNx_b (t := t) (n := n) (p := s.1) h
        split
        · rename_i c4
          have g := H N hN (pA t n s) (by show pNx t n s.1 ≤ n; omega) c4
          split
          · intro _; exact g
          · intro z; cases z
        · intro z; exact absurd z ‹_›
      · intro z; cases z
theorem eH_fc : ∀ e : Nat, eG n eNum (pFc t n e)
  | 0 => eH_fac eG_no pG_no
  | e + 1 => eH_fac (eG_sm0 (eH_fc e) (pG_fc e)) (pG_sm0 (pG_fc e))
theorem eH_sum (e : Nat) : eG n eNum (pSum t n e) := eG_sm0 (eH_fc e) (pG_fc e)
theorem eH_ho : ∀ e : Nat, eG n eBit (pHo t n e)
  | 0 => eG_hol eG_no pG_no eG_no (eH_sum 0) (pG_sum 0)
  | e + 1 => eG_hol (eH_ho e) (pG_ho e) (eG_ei0 (eH_ho e) (pG_ho e)) (eH_sum (e + 1)) (pG_sum (e + 1))
theorem eH_ei (e : Nat) : eG n eBit (pEi t n e) := eG_ei0 (eH_ho e) (pG_ho e)
theorem pCb_eH (c : Int) (N : Nat → Int) (hN : eNs N) (s : pQ) (hs : s.1 ≤ n) (h : (pCb t n c s).1 = true) : eSg N (pCb t n c s).2.2.2 (if c < 3 then eNum else eBit) s.2.1 (pCb t n c s).2.2.1 := by
  unfold pCb at h ⊢
  by_cases z : c < 3
  · simp only [if_pos z] at h ⊢
    exact eH_sum 8 N hN s hs h
  · simp only [if_neg z] at h ⊢
    exact eH_ei 8 N hN s hs h
theorem pWh_cls (W : rW n s) (G : pWg s b) (h : (pCls t n s b).1 = true) : pWg (pCls t n s b).2.1 (pCls t n s b).2.2 := by
  by_cases c1 : pCc t n s b
  · have V := W.a (t := t) (by have := c1.1; omega)
    by_cases c2 : (pBo t n s).1 = true
    · by_cases c3 : pK t n (pBo t n s).2.1 = 59
      · rw [pCls_t c1 c2 c3]
        have E : ∀ N, eNs N → eSg N (pBo t n s).2.2.2 (if pV t n s.1 - 13 < 3 then eNum else eBit) s.2.1 (pBo t n s).2.2.1 := fun N hN => pCb_eH (pV t n s.1 - 13) N hN (pA t n s) V.2 c2
        have g := pG_cb (t := t) (n := n) (pV t n s.1 - 13) (pA t n s) V.2
        have g3 : s.2.1 ≤ (pBo t n s).2.2.1 := g.2.2.1
        have g5 : s.2.1 < (pBo t n s).2.2.1 := (g.2.2.2.2.1 c2).2
        have g6 : ∀ i, i < s.2.1 → (pBo t n s).2.2.2 i = s.2.2 i := g.2.2.2.2.2
        obtain ⟨c11, c12, c13, c14⟩ := c1
        intro d hd
        show zu b (pV t n s.1 - 13).toNat s.2.1 d = -1 ∨ ∃ B L : Nat, zu b (pV t n s.1 - 13).toNat s.2.1 d = (B : Int) ∧ 0 < L ∧ B + L < (pBo t n s).2.2.1 + 1 ∧ zu (pBo t n s).2.2.2 (pBo t n s).2.2.1 (-21) (B + L) = -21 ∧ ∀ N, eNs N → eSg N (zu (pBo t n s).2.2.2 (pBo t n s).2.2.1 (-21)) (if (d : Int) < 3 then eNum else eBit) B (B + L)
        by_cases z : d = (pV t n s.1 - 13).toNat
        · right
          have ed : (d : Int) = pV t n s.1 - 13 := by omega
          refine ⟨s.2.1, (pBo t n s).2.2.1 - s.2.1, by rw [z, zu_eq], by omega, by omega, by rw [show s.2.1 + ((pBo t n s).2.2.1 - s.2.1) = (pBo t n s).2.2.1 by omega, zu_eq], fun N hN => ?_⟩
          rw [show s.2.1 + ((pBo t n s).2.2.1 - s.2.1) = (pBo t n s).2.2.1 by omega, ed]
          exact eSg_cg (E N hN) (fun r r1 r2 => (zu_ne (by omega)).symm)
        · rw [zu_ne z]
          rcases G d hd with y | ⟨B, L, y1, y2, y3, y4, y5⟩
          · exact Or.inl y
          · right
            refine ⟨B, L, y1, y2, by omega, by rw [zu_ne (by omega), g6 _ (by omega)]; exact y4, fun N hN => ?_⟩
            exact eSg_cg (y5 N hN) (fun r r1 r2 => by rw [zu_ne (by omega), g6 _ (by omega)])
      · rw [pCls_s c1 c2 c3] at h
        cases h
    · rw [pCls_f c1 c2] at h
      cases h
  · rw [pCls_no c1] at h
    cases h
theorem pWh_rd : ∀ (m : Nat) (s : pQ) (b : Nat → Int), rW n s → pWg s b → (pRd t n m s b).1 = true → pWg (pRd t n m s b).2.1 (pRd t n m s b).2.2 ∧ rW n (pRd t n m s b).2.1
  | 0, _, _, W, G, _ => ⟨G, W⟩
  | m + 1, s, b, W, G, h => by
    by_cases h0 : pK t n s.1 = 0
    · rw [pRd_z (Or.inr h0)]
      exact ⟨G, W⟩
    · by_cases h1 : (pCls t n s b).1 = true
      · rw [pRd_n rfl h0 h1] at h ⊢
        exact pWh_rd m _ _ (pCls_W W h1).1 (pWh_cls W G h1) h
      · rw [pRd_f rfl h0 h1] at h
        exact absurd h h1
theorem pWh_read (h0 : pSk t n 0 ≤ n) (h : pFa t n c0 = -1) : pWg (pRead t n c0).2.1 (pRead t n c0).2.2 ∧ rW n (pRead t n c0).2.1 := by
  refine pWh_rd 400 (pSk t n 0, 0, c0) (fun _ => -1) ⟨Nat.zero_le _, h0⟩ (fun d _ => Or.inl rfl) ?_
  by_cases z : (pRead t n c0).1 = true
  · exact z
  · rw [pFa_f z] at h
    omega
end WH
