/-! what was read can be run -/
section WG
variable {t : pT} {n : Nat} {s : pQ} {b c0 : Nat → Int} {h h1 g : Hp} {ms : Zms} {c z : Int}
def pWg (q : pQ) (b : Nat → Int) : Prop := ∀ d : Nat, d < 5 → b d = -1 ∨ ∃ B L : Nat, b d = (B : Int) ∧ 0 < L ∧ B + L < q.2.1 ∧ q.2.2 (B + L) = -21 ∧ ∀ N, eNs N → eSg N q.2.2 (if (d : Int) < 3 then eNum else eBit) B (B + L)
theorem pCb_eG (hb : ∀ i, i < n → 0 ≤ t i) (c : Int) (N : Nat → Int) (hN : eNs N) (s : pQ) (hs : s.1 ≤ n) (h : (pCb t n c s).1 = true) : eSg N (pCb t n c s).2.2.2 (if c < 3 then eNum else eBit) s.2.1 (pCb t n c s).2.2.1 := by
  unfold pCb at h ⊢
  by_cases z : c < 3
  · simp only [if_pos z] at h ⊢
    exact eG_sum hb 8 N hN s hs h
  · simp only [if_neg z] at h ⊢
    exact eG_ei hb 8 N hN s hs h
theorem pWg_cls (hb : ∀ i, i < n → 0 ≤ t i) (W : rW n s) (G : pWg s b) (h : (pCls t n s b).1 = true) : pWg (pCls t n s b).2.1 (pCls t n s b).2.2 := by
  by_cases c1 : pCc t n s b
  · have V := W.a (t := t) (by have := c1.1; omega)
    by_cases c2 : (pBo t n s).1 = true
    · by_cases c3 : pK t n (pBo t n s).2.1 = 59
      · rw [pCls_t c1 c2 c3]
        have E : ∀ N, eNs N → eSg N (pBo t n s).2.2.2 (if pV t n s.1 - 13 < 3 then eNum else eBit) s.2.1 (pBo t n s).2.2.1 := fun N hN => pCb_eG hb (pV t n s.1 - 13) N hN (pA t n s) V.2 c2
        have g := pG_cb (t := t) (n := n) (pV t n s.1 - 13) (pA t n s) V.2
        have g3 : s.2.1 ≤ (pBo t n s).2.2.1 := g.2.2.1
        have g5 : s.2.1 < (pBo t n s).2.2.1 := (g.2.2.2.2.1 c2).2
        have g6 : ∀ i, i < s.2.1 → (pBo t n s).2.2.2 i = s.2.2 i := g.2.2.2.2.2
        obtain ⟨c11, c12, c13, c14⟩ := c1
        intro d hd
        show zu b (pV t n s.1 - 13).toNat s.2.1 d = -1 ∨ ∃ B L : Nat, zu b (pV t n s.1 - 13).toNat s.2.1 d = (B : Int) ∧ 0 < L ∧ B + L < (pBo t n s).2.2.1 + 1 ∧ zu (pBo t n s).2.2.2 (pBo t n s).2.2.1 (-21) (B + L) = -21 ∧ ∀ N, eNs N → eSg N (zu (pBo t n s).2.2.2 (pBo t n s).2.2.1 (-21)) (if (d : Int) < 3 then eNum else eBit) B (B + L)
        by_cases z : d = (pV t n s.1 - 13).toNat
        · right
          have ed : (d : Int) = pV t n s.1 - 13 := by omega
          refine ⟨s.2.1, (pBo t n s).2.2.1 - s.2.1, by rw [z, zu_eq], by omega, by omega, by rw [show s.2.1 + ((pBo t n s).2.2.1 - s.2.1) = (pBo t n s).2.2.1 by omega, zu_eq], fun N hN => ?_⟩
          rw [show s.2.1 + ((pBo t n s).2.2.1 - s.2.1) = (pBo t n s).2.2.1 by omega, ed]
          exact eSg_cg (E N hN) (fun r r1 r2 => (zu_ne (by omega)).symm)
        · rw [zu_ne z]
          rcases G d hd with y | ⟨B, L, y1, y2, y3, y4, y5⟩
          · exact Or.inl y
          · right
            refine ⟨B, L, y1, y2, by omega, by rw [zu_ne (by omega), g6 _ (by omega)]; exact y4, fun N hN => ?_⟩
            exact eSg_cg (y5 N hN) (fun r r1 r2 => by rw [zu_ne (by omega), g6 _ (by omega)])
      · rw [pCls_s c1 c2 c3] at h
        cases h
    · rw [pCls_f c1 c2] at h
      cases h
  · rw [pCls_no c1] at h
    cases h
theorem pWg_rd (hb : ∀ i, i < n → 0 ≤ t i) : ∀ (m : Nat) (s : pQ) (b : Nat → Int), rW n s → pWg s b → (pRd t n m s b).1 = true → pWg (pRd t n m s b).2.1 (pRd t n m s b).2.2 ∧ rW n (pRd t n m s b).2.1
  | 0, _, _, W, G, _ => ⟨G, W⟩
  | m + 1, s, b, W, G, h => by
    by_cases h0 : pK t n s.1 = 0
    · rw [pRd_z (Or.inr h0)]
      exact ⟨G, W⟩
    · by_cases h1 : (pCls t n s b).1 = true
      · rw [pRd_n rfl h0 h1] at h ⊢
        exact pWg_rd hb m _ _ (pCls_W W h1).1 (pWg_cls hb W G h1) h
      · rw [pRd_f rfl h0 h1] at h
        exact absurd h h1
theorem pWg_read (hb : ∀ i, i < n → 0 ≤ t i) (h0 : pSk t n 0 ≤ n) (h : pFa t n c0 = -1) : pWg (pRead t n c0).2.1 (pRead t n c0).2.2 ∧ rW n (pRead t n c0).2.1 := by
  refine pWg_rd hb 400 (pSk t n 0, 0, c0) (fun _ => -1) ⟨Nat.zero_le _, h0⟩ (fun d _ => Or.inl rfl) ?_
  by_cases z : (pRead t n c0).1 = true
  · exact z
  · rw [pFa_f z] at h
    omega
theorem eSg.nw {N f : Nat → Int} {P : Int → Prop} {i j k : Nat} (S : eSg N f P i j) (hk : i + k < j) : f (i + k) ≠ -21 := ((S.2 (fun _ => 0) 0).1 k (by omega)).1.nw
theorem mCd.nw {F : Nat → Int} {j : Nat} {x : Int} (M : mCd F j x) : x ≠ -21 := by
  obtain ⟨e, o⟩ := M
  rw [← e]
  unfold eEn
  rcases o with ⟨o1, o2⟩ | ⟨o1, o2, o3⟩ | o
  · rw [if_pos o1]
    omega
  · rw [if_neg (by omega), if_pos o1]
    omega
  · rw [if_neg (by omega), if_neg (by omega)]
    split
    · omega
    · split
      · omega
      · split <;> omega
theorem eNs_0 : eNs (fun _ => 0) := fun _ _ => by
  show eNum 0
  unfold eNum
  omega
/-- a sheet more, that can be run -/
theorem zCk.sheet {T : Bool × pQ × (Nat → Int)} {p : Int} (K : zCk h) (M : zMs T p h g) (hn : (p = -1 ∧ fld h 37 52 < 8 → fld g 37 52 = fld h 37 52 + 1) ∧ (p ≠ -1 ∨ 8 ≤ fld h 37 52 → fld g 37 52 = fld h 37 52)) (h8 : 0 ≤ fld h 37 52 ∧ fld h 37 52 ≤ 8) (W : p = -1 → pWg T.2.1 T.2.2 ∧ T.2.1.2.1 ≤ 400) : zCk g := by
  intro s c s0 s1 c0 c1 hl
  have old : s < fld h 37 52 → (∀ d : Int, 0 ≤ d → d < 5 → fld g (101 + 6 * s + d) = fld h (101 + 6 * s + d)) → fld g (155 + s) = fld h (155 + s) → _ := fun k e1 e2 => by
    have w := K s c s0 k c0 c1
    rw [← e2] at w
    unfold mCc at w
    rw [← e1 c c0 c1] at w
    exact w hl
  rcases M with ⟨m1, m2, m3, m4⟩ | ⟨m1, m2, m3⟩
  · have hn := hn.1 ⟨m1, m2⟩
    by_cases k : s < fld h 37 52
    · exact old k (fun d d0 d1 => m3.1 _ (by omega) (by omega) (by omega)) (m3.2 _ (by omega) (by omega) (by omega))
    · have es : fld h 37 52 = s := by omega
      obtain ⟨w, w4⟩ := W m1
      rw [es] at m4
      have ec : ((c.toNat : Nat) : Int) = c := by omega
      rcases m4 c.toNat (by omega) with ⟨y1, y2⟩ | ⟨B, l, y1, y2, y3, y4, y5, y6⟩
      · omega
      · dsimp only at y6
        rw [ec] at y6
        rcases w c.toNat (by omega) with x | ⟨B2, L, x1, x2, x3, x4, x5⟩
        · omega
        · have eB : B2 = B := by omega
          subst eB
          have e1 : l = L := by
            by_cases q : l < L
            · exact absurd y5 ((x5 _ eNs_0).nw (by omega))
            · by_cases q2 : L < l
              · exact absurd x4 (y6 L q2).nw
              · omega
          subst e1
          rw [y2, Int.toNat_natCast]
          refine ⟨⟨by omega, fun N hN => ?_⟩, fun k hk => ?_⟩
          · have S := x5 N hN
            rw [ec] at S
            have S2 := eSg_sh (k := 0) (F := mCc g s c) S (fun r hr => by rw [Nat.zero_add]; exact (y6 r hr).1.symm)
            rw [Nat.zero_add] at S2
            exact S2
          · have q := y6 k (by omega)
            have e := q.1
            unfold mCc
            rw [e]
            exact q
  · have hn := hn.2 m1
    exact old (by omega) (fun d d0 d1 => m2 _ (by omega) (by omega)) (m3 _ (by omega) (by omega))
end WG
