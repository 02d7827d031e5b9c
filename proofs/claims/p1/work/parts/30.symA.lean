/-! the symbolic run: what a code stands for, step by step -/
section ZS
variable (T : List ZTm) (σ : Int → Int)
def zyE (t : ZTm) : Int := if t.1 = 4 then (ibin t.2.1.toNat (σ t.2.2.1) (σ t.2.2.2)).getD 0 else i_byt (σ t.2.2.1)
def zyH : Prop := (∀ x, zyC x = false → σ x = x) ∧ (∀ j t, T[j]? = some t → σ (zyc (6 + j)) = zyE σ t) ∧ (∀ x, zyC x = true → in32 (σ x))
def zyO (I : ZIv) : Prop := ∀ i : Nat, (zyg I i).1 ≤ σ (zyc i) ∧ σ (zyc i) ≤ (zyg I i).2
def zyV (v : Vl) : Vl := (v.1, σ v.2)
noncomputable def zyD (e : ZCe) : Nat × List Int := (e.1, (List.range e.2.1).map (fun i => σ (zyld i e.2.2)))
def zySc (L : Nat) : List Int := (List.range L).map (fun i => σ (zyc i))
end ZS
theorem zyg_cons (I : ZIv) (i j : Nat) (p : Int × Int) : zyg ((i, p) :: I) j = if j = i then p else zyg I j := by
  unfold zyg
  rw [List.lookup_cons]
  by_cases h : j = i
  · subst h
    rw [if_pos rfl, beq_self_eq_true]
    rfl
  · rw [if_neg h, beq_eq_false_iff_ne.mpr h]
theorem zyO_cons {σ : Int → Int} {I : ZIv} {i : Nat} {lo hi : Int} (h : zyO σ I) (h1 : lo ≤ σ (zyc i)) (h2 : σ (zyc i) ≤ hi) : zyO σ ((i, lo, hi) :: I) := by
  intro j
  rw [zyg_cons]
  by_cases hj : j = i
  · subst hj
    rw [if_pos rfl]
    exact ⟨h1, h2⟩
  · rw [if_neg hj]
    exact h j
theorem zymin_le {x y z : Int} (h1 : z ≤ x) (h2 : z ≤ y) : z ≤ zymin x y := by
  unfold zymin
  cases zyle x y <;> assumption
theorem zymax_le {x y z : Int} (h1 : x ≤ z) (h2 : y ≤ z) : zymax x y ≤ z := by
  unfold zymax
  cases zyle x y <;> assumption
theorem zyS2_ok {σ : Int → Int} {I : ZIv} (hO : zyO σ I) (i : Nat) (k : Int) : ∃ e, e ∈ zyS2 I i k ∧ zyO σ e.1 ∧ e.2 = decide (σ (zyc i) < k) := by
  obtain ⟨h1, h2⟩ := hO i
  unfold zyS2
  rw [zyg2_eq]
  rcases hg : zyg I i with ⟨lo, hi⟩
  rw [hg] at h1 h2
  dsimp only at h1 h2 ⊢
  by_cases hk : σ (zyc i) < k
  · refine ⟨((i, lo, zymin hi (k - 1)) :: I, true), ?_, zyO_cons hO h1 (zymin_le h2 (by omega)), (decide_eq_true hk).symm⟩
    rw [zyle_iff.mpr (Int.le_trans h1 (zymin_le h2 (show σ (zyc i) ≤ k - 1 by omega)))]
    exact List.mem_append_left _ (List.mem_singleton.mpr rfl)
  · refine ⟨((i, zymax lo k, hi) :: I, false), ?_, zyO_cons hO (zymax_le h1 (by omega)) h2, (decide_eq_false hk).symm⟩
    rw [zyle_iff.mpr (Int.le_trans (zymax_le h1 (show k ≤ σ (zyc i) by omega)) h2)]
    exact List.mem_append_right _ (List.mem_singleton.mpr rfl)
theorem zyS3_ok {σ : Int → Int} {I : ZIv} (hO : zyO σ I) (i : Nat) (k : Int) : ∃ e, e ∈ zyS3 I i k ∧ zyO σ e.1 ∧ e.2 = l_cmp (σ (zyc i)) k := by
  obtain ⟨e, he, hO1, hd⟩ := zyS2_ok hO i k
  unfold zyS3
  by_cases hk : σ (zyc i) < k
  · rw [decide_eq_true hk] at hd
    refine ⟨(e.1, -1), List.mem_flatMap.mpr ⟨e, he, ?_⟩, hO1, ?_⟩
    · rw [hd]
      exact List.mem_singleton.mpr rfl
    · unfold l_cmp
      rw [if_pos hk]
  · rw [decide_eq_false hk] at hd
    obtain ⟨f, hf, hO2, hd2⟩ := zyS2_ok hO1 i (k + 1)
    refine ⟨(f.1, bif f.2 then 0 else 1), List.mem_flatMap.mpr ⟨e, he, ?_⟩, hO2, ?_⟩
    · rw [hd]
      exact List.mem_map.mpr ⟨f, hf, rfl⟩
    · unfold l_cmp
      rw [if_neg hk, hd2]
      by_cases h0 : σ (zyc i) = k
      · rw [if_pos h0, decide_eq_true (by omega)]
        rfl
      · rw [if_neg h0, decide_eq_false (by omega)]
        rfl
theorem l_cmp_lt {x y : Int} (h : x < y) : l_cmp x y = -1 := if_pos h
theorem l_cmp_eq {x y : Int} (h : x = y) : l_cmp x y = 0 := by
  unfold l_cmp
  rw [if_neg (by omega), if_pos h]
theorem l_cmp_gt {x y : Int} (h : y < x) : l_cmp x y = 1 := by
  unfold l_cmp
  rw [if_neg (by omega), if_neg (by omega)]
theorem l_cmp_neg (x y : Int) : -l_cmp y x = l_cmp x y := by
  rcases Int.lt_trichotomy x y with h | h | h
  · rw [l_cmp_lt h, l_cmp_gt h]
  · rw [l_cmp_eq h, l_cmp_eq h.symm]; rfl
  · rw [l_cmp_gt h, l_cmp_lt h]; rfl
theorem cnd_sg {b : Nat} (hb : b ≤ 1) (x y : Int) : cnd b (l_cmp x y) 0 = cnd b x y := by
  have h : ((l_cmp x y) == 0) = (x == y) := by
    rcases Int.lt_trichotomy x y with h | h | h
    · rw [l_cmp_lt h, beq_eq_false_iff_ne.mpr (show x ≠ y by omega)]; rfl
    · rw [l_cmp_eq h, beq_iff_eq.mpr h]; rfl
    · rw [l_cmp_gt h, beq_eq_false_iff_ne.mpr (show x ≠ y by omega)]; rfl
  have h2 : ((l_cmp x y) != 0) = (x != y) := by
    unfold bne
    rw [h]
  match b, hb with
  | 0, _ => exact h
  | 1, _ => exact h2
theorem cnd_sw {b : Nat} (hb : b ≤ 1) (x y : Int) : cnd b x y = cnd b y x := by
  have h : (x == y) = (y == x) := by
    by_cases h : x = y
    · rw [h]
    · rw [beq_eq_false_iff_ne.mpr h, beq_eq_false_iff_ne.mpr (Ne.symm h)]
  match b, hb with
  | 0, _ => exact h
  | 1, _ =>
    show (x != y) = (y != x)
    unfold bne
    rw [h]
theorem cnd_2 (x y : Int) : cnd 2 x y = decide (x < y) := rfl
theorem cnd_3 (x y : Int) : cnd 3 x y = decide (y ≤ x) := rfl
theorem cnd_4 (x y : Int) : cnd 4 x y = decide (y < x) := rfl
theorem cnd_5 {b : Nat} (hb : 5 ≤ b) (x y : Int) : cnd b x y = decide (x ≤ y) := by
  unfold cnd
  rw [if_neg (by omega), if_neg (by omega), if_neg (by omega), if_neg (by omega), if_neg (by omega)]
theorem zyn_dec {p q : Prop} [Decidable p] [Decidable q] (h : p ↔ ¬ q) : (!decide q) = decide p := by
  by_cases hq : q
  · rw [decide_eq_true hq, decide_eq_false (fun hp => (h.mp hp) hq)]; rfl
  · rw [decide_eq_false hq, decide_eq_true (h.mpr hq)]; rfl
theorem zyd_dec {p q : Prop} [Decidable p] [Decidable q] (h : p ↔ q) : decide q = decide p := by
  by_cases hq : q
  · rw [decide_eq_true hq, decide_eq_true (h.mpr hq)]
  · rw [decide_eq_false hq, decide_eq_false (fun hp => hq (h.mp hp))]
theorem zyCm_ok {T : List ZTm} {σ : Int → Int} (hH : zyH T σ) {I : ZIv} (hO : zyO σ I) {b : Nat} {x y : Int} {l : List (ZIv × Bool)} (h : zyCm I b x y = some l) : ∃ e, e ∈ l ∧ zyO σ e.1 ∧ e.2 = cnd b (σ x) (σ y) := by
  unfold zyCm at h
  cases hx : zyC x with
  | true =>
    rw [hx, cond_true] at h
    cases hy : zyC y with
    | true => rw [hy, cond_true] at h; cases h
    | false =>
      rw [hy, cond_false] at h
      rw [hH.1 y hy]
      have hc := zyi_c hx
      generalize zyi x = i at h hc
      subst hc
      by_cases q1 : b ≤ 1
      · rw [Nat.ble_eq.mpr q1, cond_true] at h
        obtain ⟨e, he, hO1, hd⟩ := zyS3_ok hO i y
        refine ⟨(e.1, cnd b e.2 0), ?_, hO1, ?_⟩
        · rw [← Option.some.inj h]
          exact List.mem_map.mpr ⟨e, he, rfl⟩
        · show cnd b e.2 0 = _
          rw [hd, cnd_sg q1]
      · rw [show Nat.ble b 1 = false from by rw [← Bool.not_eq_true, Nat.ble_eq]; omega, cond_false] at h
        by_cases q2 : b = 2
        · subst q2
          change some (zyS2 I i y) = some l at h
          obtain ⟨e, he, hO1, hd⟩ := zyS2_ok hO i y
          exact ⟨e, by rw [← Option.some.inj h]; exact he, hO1, by rw [hd, cnd_2]⟩
        · rw [show Nat.beq b 2 = false from by rw [← Bool.not_eq_true, Nat.beq_eq]; exact q2, cond_false] at h
          by_cases q3 : b = 3
          · subst q3
            change some ((zyS2 I i y).map (fun e => (e.1, !e.2))) = some l at h
            obtain ⟨e, he, hO1, hd⟩ := zyS2_ok hO i y
            refine ⟨(e.1, !e.2), by rw [← Option.some.inj h]; exact List.mem_map.mpr ⟨e, he, rfl⟩, hO1, ?_⟩
            show (!e.2) = _
            rw [hd, cnd_3]
            exact zyn_dec (by omega)
          · rw [show Nat.beq b 3 = false from by rw [← Bool.not_eq_true, Nat.beq_eq]; exact q3, cond_false] at h
            by_cases q4 : b = 4
            · subst q4
              change some ((zyS2 I i (y + 1)).map (fun e => (e.1, !e.2))) = some l at h
              obtain ⟨e, he, hO1, hd⟩ := zyS2_ok hO i (y + 1)
              refine ⟨(e.1, !e.2), by rw [← Option.some.inj h]; exact List.mem_map.mpr ⟨e, he, rfl⟩, hO1, ?_⟩
              show (!e.2) = _
              rw [hd, cnd_4]
              exact zyn_dec (by omega)
            · rw [show Nat.beq b 4 = false from by rw [← Bool.not_eq_true, Nat.beq_eq]; exact q4, cond_false] at h
              obtain ⟨e, he, hO1, hd⟩ := zyS2_ok hO i (y + 1)
              refine ⟨e, by rw [← Option.some.inj h]; exact he, hO1, ?_⟩
              rw [hd, cnd_5 (by omega)]
              exact zyd_dec (by omega)
  | false =>
    rw [hx, cond_false] at h
    rw [hH.1 x hx]
    cases hy : zyC y with
    | true =>
      rw [hy, cond_true] at h
      have hc := zyi_c hy
      generalize zyi y = i at h hc
      subst hc
      by_cases q1 : b ≤ 1
      · rw [Nat.ble_eq.mpr q1, cond_true] at h
        obtain ⟨e, he, hO1, hd⟩ := zyS3_ok hO i x
        refine ⟨(e.1, cnd b e.2 0), ?_, hO1, ?_⟩
        · rw [← Option.some.inj h]
          exact List.mem_map.mpr ⟨e, he, rfl⟩
        · show cnd b e.2 0 = _
          rw [hd, cnd_sg q1, cnd_sw q1]
      · rw [show Nat.ble b 1 = false from by rw [← Bool.not_eq_true, Nat.ble_eq]; omega, cond_false] at h
        by_cases q2 : b = 2
        · subst q2
          change some ((zyS2 I i (x + 1)).map (fun e => (e.1, !e.2))) = some l at h
          obtain ⟨e, he, hO1, hd⟩ := zyS2_ok hO i (x + 1)
          refine ⟨(e.1, !e.2), by rw [← Option.some.inj h]; exact List.mem_map.mpr ⟨e, he, rfl⟩, hO1, ?_⟩
          show (!e.2) = _
          rw [hd, cnd_2]
          exact zyn_dec (by omega)
        · rw [show Nat.beq b 2 = false from by rw [← Bool.not_eq_true, Nat.beq_eq]; exact q2, cond_false] at h
          by_cases q3 : b = 3
          · subst q3
            change some (zyS2 I i (x + 1)) = some l at h
            obtain ⟨e, he, hO1, hd⟩ := zyS2_ok hO i (x + 1)
            refine ⟨e, by rw [← Option.some.inj h]; exact he, hO1, ?_⟩
            rw [hd, cnd_3]
            exact zyd_dec (by omega)
          · rw [show Nat.beq b 3 = false from by rw [← Bool.not_eq_true, Nat.beq_eq]; exact q3, cond_false] at h
            by_cases q4 : b = 4
            · subst q4
              change some (zyS2 I i x) = some l at h
              obtain ⟨e, he, hO1, hd⟩ := zyS2_ok hO i x
              refine ⟨e, by rw [← Option.some.inj h]; exact he, hO1, ?_⟩
              rw [hd, cnd_4]
            · rw [show Nat.beq b 4 = false from by rw [← Bool.not_eq_true, Nat.beq_eq]; exact q4, cond_false] at h
              obtain ⟨e, he, hO1, hd⟩ := zyS2_ok hO i x
              refine ⟨(e.1, !e.2), by rw [← Option.some.inj h]; exact List.mem_map.mpr ⟨e, he, rfl⟩, hO1, ?_⟩
              show (!e.2) = _
              rw [hd, cnd_5 (by omega)]
              exact zyn_dec (by omega)
    | false =>
      rw [hy, cond_false] at h
      exact ⟨(I, cnd b x y), by rw [← Option.some.inj h]; exact List.mem_singleton.mpr rfl, hO, by rw [hH.1 y hy]⟩
theorem zySw_ok {σ : Int → Int} (d : Int) (i : Nat) : ∀ (os : List Int) (I : ZIv), zyO σ I → ∃ e, e ∈ zySw d i os I ∧ zyO σ e.1 ∧ e.2 = swt d (σ (zyc i)) os
  | k :: t :: r, I, hO => by
    obtain ⟨e, he, hO1, hd⟩ := zyS3_ok hO i k
    unfold zySw swt
    by_cases hk : σ (zyc i) = k
    · rw [l_cmp_eq hk] at hd
      refine ⟨(e.1, t), List.mem_flatMap.mpr ⟨e, he, ?_⟩, hO1, by rw [if_pos hk]⟩
      rw [hd]
      exact List.mem_singleton.mpr rfl
    · have hd0 : e.2 ≠ 0 := by
        rw [hd]
        rcases Int.lt_trichotomy (σ (zyc i)) k with h | h | h
        · rw [l_cmp_lt h]; decide
        · exact absurd h hk
        · rw [l_cmp_gt h]; decide
      obtain ⟨f, hf, hO2, hd2⟩ := zySw_ok d i r e.1 hO1
      refine ⟨f, List.mem_flatMap.mpr ⟨e, he, ?_⟩, hO2, by rw [if_neg hk]; exact hd2⟩
      rw [zyeq_no.mpr hd0]
      exact hf
  | [], I, hO => ⟨(I, d), List.mem_singleton.mpr rfl, hO, rfl⟩
  | [_], I, hO => ⟨(I, d), List.mem_singleton.mpr rfl, hO, rfl⟩
theorem zyLc_ok {T : List ZTm} {σ : Int → Int} (hH : zyH T σ) {I : ZIv} (hO : zyO σ I) {x y : Int} {l : List (ZIv × Int)} (h : zyLc I x y = some l) : ∃ e, e ∈ l ∧ zyO σ e.1 ∧ e.2 = l_cmp (σ x) (σ y) := by
  unfold zyLc at h
  cases hx : zyC x with
  | true =>
    rw [hx, cond_true] at h
    cases hy : zyC y with
    | true => rw [hy, cond_true] at h; cases h
    | false =>
      rw [hy, cond_false] at h
      rw [hH.1 y hy]
      have hc := zyi_c hx
      obtain ⟨e, he, hO1, hd⟩ := zyS3_ok hO (zyi x) y
      rw [hc] at hd
      exact ⟨e, by rw [← Option.some.inj h]; exact he, hO1, hd⟩
  | false =>
    rw [hx, cond_false] at h
    rw [hH.1 x hx]
    cases hy : zyC y with
    | true =>
      rw [hy, cond_true] at h
      have hc := zyi_c hy
      obtain ⟨e, he, hO1, hd⟩ := zyS3_ok hO (zyi y) x
      rw [hc] at hd
      refine ⟨(e.1, -e.2), by rw [← Option.some.inj h]; exact List.mem_map.mpr ⟨e, he, rfl⟩, hO1, ?_⟩
      show -e.2 = _
      rw [hd, l_cmp_neg]
    | false =>
      rw [hy, cond_false] at h
      exact ⟨(I, l_cmp x y), by rw [← Option.some.inj h]; exact List.mem_singleton.mpr rfl, hO, by rw [hH.1 y hy]⟩
theorem zyF_ok {k : Nat} {o x y : Int} : ∀ (T : List ZTm) (c : Nat) (z : Int), zyF k o x y T c = some z → ∃ j, T[j]? = some (k, o, x, y) ∧ z = zyc (c + j)
  | [], _, _, h => by cases h
  | e :: r, c, z, h => by
    unfold zyF at h
    cases hq : (Nat.beq k e.1 && (zyeq o e.2.1 && (zyeq x e.2.2.1 && zyeq y e.2.2.2))) with
    | true =>
      rw [hq, cond_true] at h
      rw [Bool.and_eq_true, Bool.and_eq_true, Bool.and_eq_true, Nat.beq_eq, zyeq_iff, zyeq_iff, zyeq_iff] at hq
      obtain ⟨h1, h2, h3, h4⟩ := hq
      refine ⟨0, ?_, (Option.some.inj h).symm⟩
      rw [h1, h2, h3, h4]
      rfl
    | false =>
      rw [hq, cond_false] at h
      obtain ⟨j, hj, hz⟩ := zyF_ok r (c + 1) z h
      refine ⟨j + 1, ?_, ?_⟩
      · rw [List.getElem?_cons_succ]
        exact hj
      · rw [hz, Nat.add_assoc, Nat.add_comm 1 j]
