/-! the symbolic run: pure and branch instructions -/
theorem zyC_lt {x : Int} (h : x < 1180591620717411303424) : zyC x = false := zyC_no.mpr h
theorem zyC_w32 (x : Int) : zyC (w32 x) = false := zyC_lt (by have := w32_in x; unfold in32 at this; omega)
theorem ibin_gets {k : Nat} {x y : Int} (h : (5 ≤ k ∧ k ≤ 10) ∨ (k ≤ 4 ∧ y ≠ 0)) : ∃ z, ibin k x y = some z := by
  unfold ibin
  by_cases q0 : k = 0
  · exact ⟨_, if_pos q0⟩
  rw [if_neg q0]
  by_cases q1 : k = 1
  · exact ⟨_, if_pos q1⟩
  rw [if_neg q1]
  by_cases q2 : k = 2
  · exact ⟨_, if_pos q2⟩
  rw [if_neg q2]
  by_cases q3 : k = 3
  · rw [if_pos q3]
    exact ⟨_, if_neg (by omega)⟩
  rw [if_neg q3]
  by_cases q4 : k = 4
  · rw [if_pos q4]
    exact ⟨_, if_neg (by omega)⟩
  rw [if_neg q4]
  by_cases q5 : k = 5
  · exact ⟨_, if_pos q5⟩
  rw [if_neg q5]
  by_cases q6 : k = 6
  · exact ⟨_, if_pos q6⟩
  rw [if_neg q6]
  by_cases q7 : k = 7
  · exact ⟨_, if_pos q7⟩
  rw [if_neg q7]
  by_cases q8 : k = 8
  · exact ⟨_, if_pos q8⟩
  rw [if_neg q8]
  by_cases q9 : k = 9
  · exact ⟨_, if_pos q9⟩
  rw [if_neg q9]
  exact ⟨_, if_pos (by omega)⟩
theorem zynot {b : Bool} : (!b) = true ↔ b = false := by cases b <;> decide
theorem zyI_ok {T : List ZTm} {σ : Int → Int} (hH : zyH T σ) {a x y z : Int} (h : zyI T a x y = some z) : ibin a.toNat (σ x) (σ y) = some (σ z) := by
  unfold zyI at h
  cases hc : (zyC x || zyC y) with
  | true =>
    rw [hc, cond_true] at h
    cases hg : ((Nat.ble 5 a.toNat && Nat.ble a.toNat 10) || (Nat.ble a.toNat 4 && (!zyC y && !zyeq y 0))) with
    | false => rw [hg, cond_false] at h; cases h
    | true =>
      rw [hg, cond_true] at h
      obtain ⟨j, hj, rfl⟩ := zyF_ok _ _ _ h
      have h2 := hH.2.1 j _ hj
      unfold zyE at h2
      rw [if_pos rfl] at h2
      dsimp only at h2
      have hk : (5 ≤ a.toNat ∧ a.toNat ≤ 10) ∨ (a.toNat ≤ 4 ∧ σ y ≠ 0) := by
        rw [Bool.or_eq_true, Bool.and_eq_true, Bool.and_eq_true, Bool.and_eq_true, zynot, zynot, Nat.ble_eq, Nat.ble_eq, Nat.ble_eq, zyeq_no] at hg
        rcases hg with hg | ⟨hg1, hg2, hg3⟩
        · exact Or.inl hg
        · refine Or.inr ⟨hg1, ?_⟩
          rw [hH.1 y hg2]
          exact hg3
      obtain ⟨w, hw⟩ := ibin_gets (x := σ x) hk
      rw [hw] at h2 ⊢
      rw [h2]
      rfl
  | false =>
    rw [hc, cond_false] at h
    rw [Bool.or_eq_false_iff] at hc
    rw [hH.1 x hc.1, hH.1 y hc.2]
    cases hz : ibin a.toNat x y with
    | none => rw [hz] at h; cases h
    | some w =>
      rw [hz] at h
      dsimp only at h
      cases hw : zyC w with
      | true => rw [hw, cond_true] at h; cases h
      | false =>
        rw [hw, cond_false] at h
        have := Option.some.inj h
        subst this
        rw [hH.1 _ hw]
theorem zyC_byt (x : Int) : zyC (i_byt x) = false := zyC_lt (by unfold i_byt; omega)
theorem zyby_ok {T : List ZTm} {σ : Int → Int} (hH : zyH T σ) {x z : Int} (h : zyby T x = some z) : i_byt (σ x) = σ z := by
  unfold zyby at h
  cases hc : zyC x with
  | true =>
    rw [hc, cond_true] at h
    obtain ⟨j, hj, rfl⟩ := zyF_ok _ _ _ h
    have h2 := hH.2.1 j _ hj
    unfold zyE at h2
    rw [if_neg (show ¬ (9 : Nat) = 4 by decide)] at h2
    rw [h2]
  | false =>
    rw [hc, cond_false] at h
    have := Option.some.inj h
    subst this
    rw [hH.1 x hc, hH.1 _ (zyC_byt x)]
theorem zyV_t (σ : Int → Int) (v : Vl) : (zyV σ v).1 = v.1 := rfl
theorem zyV_mk (σ : Int → Int) (t : Nat) (x : Int) : zyV σ (t, x) = (t, σ x) := rfl
theorem zy0 {T : List ZTm} {σ : Int → Int} (hH : zyH T σ) : σ 0 = 0 := hH.1 0 (by decide)
theorem zystL {T : List ZTm} {σ : Int → Int} (hH : zyH T σ) (ls : List Vl) (i : Nat) (v : Vl) : storeL (ls.map (zyV σ)) i (zyV σ v) = (storeL ls i v).map (zyV σ) := by
  have e9 : ((9, 0) : Vl) = zyV σ (9, 0) := by rw [zyV_mk, zy0 hH]
  have hg : ∀ k, ((ls.map (zyV σ)).getD k (9, 0)).1 = (ls.getD k (9, 0)).1 := by
    intro k
    rw [List.getD_eq_getElem?_getD, List.getD_eq_getElem?_getD, List.getElem?_map]
    cases ls[k]? <;> rfl
  unfold storeL
  dsimp only
  rw [zyV_t]
  cases i with
  | zero =>
    dsimp only
    split
    · rw [List.map_set, List.map_set, ← e9]
    · rw [List.map_set]
  | succ k =>
    dsimp only
    rw [hg]
    by_cases hk : (ls.getD k (9, 0)).1 = 1
    · rw [if_pos hk, if_pos hk]
      split
      · rw [List.map_set, List.map_set, List.map_set, ← e9]
      · rw [List.map_set, List.map_set, ← e9]
    · rw [if_neg hk, if_neg hk]
      split
      · rw [List.map_set, List.map_set, ← e9]
      · rw [List.map_set]
theorem zybc {p : Bool} {α : Type} {x y : α} {z : α} (h : (bif p then x else y) = z) : (p = true ∧ x = z) ∨ (p = false ∧ y = z) := by
  cases p
  · exact Or.inr ⟨rfl, h⟩
  · exact Or.inl ⟨rfl, h⟩
theorem zybs {p : Bool} {α : Type} {x : Option α} {z : α} (h : (bif p then x else none) = some z) : p = true ∧ x = some z := by
  cases p
  · cases h
  · exact ⟨rfl, h⟩
theorem zyP_ok {T : List ZTm} {σ : Int → Int} (hH : zyH T σ) {op : Nat} {a b : Int} {ls st : List Vl} {p : List Vl × List Vl} (h : zyP T op a b ls st = some p) : op < 20 ∧ pst op a b (ls.map (zyV σ)) (st.map (zyV σ)) = some (p.1.map (zyV σ), p.2.map (zyV σ)) := by
  unfold zyP at h
  replace h := zybc h
  rcases h with ⟨q, h⟩ | ⟨q, h⟩
  · have q := Nat.beq_eq.mp q
    subst q
    refine ⟨by decide, ?_⟩
    cases hv : zyN ls a.toNat with
    | none => rw [hv] at h; cases h
    | some v =>
    rw [hv] at h
    dsimp only at h
    replace h := zybs h
    obtain ⟨hb, h⟩ := h
    have := Option.some.inj h
    subst this
    rw [zyN_get] at hv
    show (match (ls.map (zyV σ))[a.toNat]? with
      | some v => if v.1 = b.toNat then some (ls.map (zyV σ), v :: st.map (zyV σ)) else none
      | none => none) = _
    rw [List.getElem?_map, hv]
    exact if_pos (Nat.beq_eq.mp hb)
  replace h := zybc h
  rcases h with ⟨q, h⟩ | ⟨q, h⟩
  · have q := Nat.beq_eq.mp q
    subst q
    refine ⟨by decide, ?_⟩
    replace h := zybc h
    rcases h with ⟨hc, h⟩ | ⟨hc, h⟩
    · cases h
    have := Option.some.inj h
    subst this
    show some (ls.map (zyV σ), (b.toNat, a) :: st.map (zyV σ)) = some (ls.map (zyV σ), zyV σ (b.toNat, a) :: st.map (zyV σ))
    rw [zyV_mk, hH.1 a hc]
  replace h := zybc h
  rcases h with ⟨q, h⟩ | ⟨q, h⟩
  · have q := Nat.beq_eq.mp q
    subst q
    refine ⟨by decide, ?_⟩
    match st, h with
    | v :: r, h =>
      replace h := zybs h
      obtain ⟨hb, h⟩ := h
      have := Option.some.inj h
      subst this
      rw [Bool.and_eq_true, Nat.beq_eq] at hb
      obtain ⟨hb1, hb2⟩ := hb
      have hb2 : (bif Nat.beq v.1 1 then a.toNat + 1 else a.toNat) < ls.length := Nat.le_of_ble_eq_true hb2
      have hb3 : a.toNat + (if v.1 = 1 then 1 else 0) < ls.length := by
        by_cases hv : v.1 = 1
        · rw [if_pos hv]
          rw [Nat.beq_eq.mpr hv] at hb2
          exact hb2
        · rw [if_neg hv]
          rw [show Nat.beq v.1 1 = false from by rw [← Bool.not_eq_true, Nat.beq_eq]; exact hv] at hb2
          exact hb2
      show (if (zyV σ v).1 = b.toNat ∧ a.toNat + (if (zyV σ v).1 = 1 then 1 else 0) < (ls.map (zyV σ)).length then some (storeL (ls.map (zyV σ)) a.toNat (zyV σ v), r.map (zyV σ)) else none) = _
      rw [if_pos (by rw [zyV_t, List.length_map]; exact ⟨hb1, hb3⟩), zystL hH]
  replace h := zybc h
  rcases h with ⟨q, h⟩ | ⟨q, h⟩
  · have q := Nat.beq_eq.mp q
    subst q
    refine ⟨by decide, ?_⟩
    cases hv : zyN ls a.toNat with
    | none => rw [hv] at h; cases h
    | some v =>
    rw [hv] at h
    dsimp only at h
    replace h := zybs h
    obtain ⟨hb, h⟩ := h
    have := Option.some.inj h
    subst this
    rw [zyN_get] at hv
    rw [Bool.and_eq_true, Nat.beq_eq, zynot] at hb
    show (match (ls.map (zyV σ))[a.toNat]? with
      | some v => if v.1 = 0 then some (storeL (ls.map (zyV σ)) a.toNat (0, w32 (v.2 + b)), st.map (zyV σ)) else none
      | none => none) = _
    rw [List.getElem?_map, hv]
    show (if v.1 = 0 then some (storeL (ls.map (zyV σ)) a.toNat (0, w32 (σ v.2 + b)), st.map (zyV σ)) else none) = _
    rw [if_pos hb.1, hH.1 _ hb.2]
    have e : ((0, w32 (v.2 + b)) : Vl) = zyV σ (0, w32 (v.2 + b)) := by rw [zyV_mk, hH.1 _ (zyC_w32 _)]
    show _ = some ((storeL ls a.toNat (0, w32 (v.2 + b))).map (zyV σ), st.map (zyV σ))
    rw [← zystL hH, ← e]
  replace h := zybc h
  rcases h with ⟨q, h⟩ | ⟨q, h⟩
  · have q := Nat.beq_eq.mp q
    subst q
    refine ⟨by decide, ?_⟩
    match st, h with
    | v :: u :: r, h =>
      replace h := zybs h
      obtain ⟨hb, h⟩ := h
      cases hz : zyI T a u.2 v.2 with
      | none => rw [hz] at h; cases h
      | some z =>
      rw [hz] at h
      dsimp only at h
      have := Option.some.inj h
      subst this
      rw [Bool.and_eq_true, Nat.beq_eq, Nat.beq_eq] at hb
      obtain ⟨v1, v2⟩ := v
      obtain ⟨u1, u2⟩ := u
      obtain ⟨hb1, hb2⟩ := hb
      dsimp only at hb1 hb2 hz
      subst hb1
      subst hb2
      show (match ibin a.toNat (σ u2) (σ v2) with
        | some z => some (ls.map (zyV σ), (0, z) :: r.map (zyV σ))
        | none => none) = _
      rw [zyI_ok hH hz]
      rfl
    | [_], h => cases h
    | [], h => cases h
  replace h := zybc h
  rcases h with ⟨q, h⟩ | ⟨q, h⟩
  · have q := Nat.beq_eq.mp q
    subst q
    refine ⟨by decide, ?_⟩
    match st, h with
    | v :: r, h =>
      replace h := zybs h
      obtain ⟨hb, h⟩ := h
      have := Option.some.inj h
      subst this
      rw [Nat.beq_eq] at hb
      obtain ⟨v1, v2⟩ := v
      dsimp only at hb
      subst hb
      rfl
    | [], h => cases h
  replace h := zybc h
  rcases h with ⟨q, h⟩ | ⟨q, h⟩
  · have q := Nat.beq_eq.mp q
    subst q
    refine ⟨by decide, ?_⟩
    match st, h with
    | v :: r, h =>
      replace h := zybs h
      obtain ⟨hb, h⟩ := h
      cases hz : zyby T v.2 with
      | none => rw [hz] at h; cases h
      | some z =>
      rw [hz] at h
      dsimp only at h
      have := Option.some.inj h
      subst this
      rw [Nat.beq_eq] at hb
      obtain ⟨v1, v2⟩ := v
      dsimp only at hb hz
      subst hb
      show some (ls.map (zyV σ), (0, i_byt (σ v2)) :: r.map (zyV σ)) = _
      rw [zyby_ok hH hz]
      rfl
    | [], h => cases h
  replace h := zybs h
  obtain ⟨hq, h⟩ := h
  rw [Bool.and_eq_true, Nat.ble_eq, Nat.ble_eq] at hq
  refine ⟨by omega, ?_⟩
  by_cases q12 : op = 12
  · subst q12
    match st, h with
    | v :: r, h =>
      change (if v.1 = 1 then none else some (ls, v :: v :: r)) = some p at h
      show (if (zyV σ v).1 = 1 then none else some (ls.map (zyV σ), zyV σ v :: zyV σ v :: r.map (zyV σ))) = _
      rw [zyV_t]
      by_cases hv : v.1 = 1
      · rw [if_pos hv] at h; cases h
      · rw [if_neg hv] at h ⊢
        have := Option.some.inj h
        subst this
        rfl
    | [], h => cases h
  by_cases q13 : op = 13
  · subst q13
    match st, h with
    | v :: u :: r, h =>
      change (if v.1 = 1 ∨ u.1 = 1 then none else some (ls, v :: u :: v :: r)) = some p at h
      show (if (zyV σ v).1 = 1 ∨ (zyV σ u).1 = 1 then none else some (ls.map (zyV σ), zyV σ v :: zyV σ u :: zyV σ v :: r.map (zyV σ))) = _
      rw [zyV_t, zyV_t]
      by_cases hv : v.1 = 1 ∨ u.1 = 1
      · rw [if_pos hv] at h; cases h
      · rw [if_neg hv] at h ⊢
        have := Option.some.inj h
        subst this
        rfl
    | [_], h => cases h
    | [], h => cases h
  by_cases q14 : op = 14
  · subst q14
    match st, h with
    | v :: u :: r, h =>
      change (if v.1 = 1 ∨ u.1 = 1 then none else some (ls, v :: u :: v :: u :: r)) = some p at h
      show (if (zyV σ v).1 = 1 ∨ (zyV σ u).1 = 1 then none else some (ls.map (zyV σ), zyV σ v :: zyV σ u :: zyV σ v :: zyV σ u :: r.map (zyV σ))) = _
      rw [zyV_t, zyV_t]
      by_cases hv : v.1 = 1 ∨ u.1 = 1
      · rw [if_pos hv] at h; cases h
      · rw [if_neg hv] at h ⊢
        have := Option.some.inj h
        subst this
        rfl
    | [_], h => cases h
    | [], h => cases h
  have q15 : op = 15 := by omega
  subst q15
  match st, h with
  | v :: r, h =>
    change (if v.1 = 1 then none else some (ls, r)) = some p at h
    show (if (zyV σ v).1 = 1 then none else some (ls.map (zyV σ), r.map (zyV σ))) = _
    rw [zyV_t]
    by_cases hv : v.1 = 1
    · rw [if_pos hv] at h; cases h
    · rw [if_neg hv] at h ⊢
      have := Option.some.inj h
      subst this
      rfl
  | [], h => cases h
theorem zybi {α : Type} {p : Bool} (x y : α) : (bif p then x else y) = if p = true then x else y := by cases p <;> rfl
theorem l_cmp_small (x y : Int) : zyC (l_cmp x y) = false := by
  rcases Int.lt_trichotomy x y with h | h | h
  · rw [l_cmp_lt h]; decide
  · rw [l_cmp_eq h]; decide
  · rw [l_cmp_gt h]; decide
theorem zyBr_ok {T : List ZTm} {σ : Int → Int} (hH : zyH T σ) {I : ZIv} (hO : zyO σ I) {op nx : Nat} {a b : Int} {os : List Int} {st : List Vl} {l : List (ZIv × Nat × List Vl)} (h : zyBr op nx a b os I st = some l) :
    ∃ e, e ∈ l ∧ zyO σ e.1 ∧ ((20 ≤ op ∧ op < 30 ∧ bst op nx a b os (st.map (zyV σ)) = some (e.2.1, e.2.2.map (zyV σ))) ∨ (op < 20 ∧ e.2.1 = nx ∧ ∀ ls, pst op a b ls (st.map (zyV σ)) = some (ls, e.2.2.map (zyV σ)))) := by
  unfold zyBr at h
  replace h := zybc h
  rcases h with ⟨q, h⟩ | ⟨q, h⟩
  · have q := Nat.beq_eq.mp q
    subst q
    match st, h with
    | v :: u :: r, h =>
      replace h := zybs h
      obtain ⟨hb, h⟩ := h
      cases hl : zyCm I b.toNat u.2 v.2 with
      | none => rw [hl] at h; cases h
      | some l2 =>
      rw [hl] at h
      dsimp only at h
      have := Option.some.inj h
      subst this
      rw [Bool.and_eq_true, Nat.beq_eq, Nat.beq_eq] at hb
      obtain ⟨v1, v2⟩ := v
      obtain ⟨u1, u2⟩ := u
      obtain ⟨hb1, hb2⟩ := hb
      dsimp only at hb1 hb2 hl
      subst hb1
      subst hb2
      obtain ⟨e, he, hO1, hd⟩ := zyCm_ok hH hO hl
      refine ⟨_, List.mem_map.mpr ⟨e, he, rfl⟩, hO1, Or.inl ⟨by decide, by decide, ?_⟩⟩
      show some (if cnd b.toNat (σ u2) (σ v2) then a.toNat else nx, r.map (zyV σ)) = some ((bif e.2 then a.toNat else nx), r.map (zyV σ))
      rw [← hd, zybi]
    | [_], h => cases h
    | [], h => cases h
  replace h := zybc h
  rcases h with ⟨q, h⟩ | ⟨q, h⟩
  · have q := Nat.beq_eq.mp q
    subst q
    match st, h with
    | v :: r, h =>
      replace h := zybs h
      obtain ⟨hb, h⟩ := h
      cases hl : zyCm I b.toNat v.2 0 with
      | none => rw [hl] at h; cases h
      | some l2 =>
      rw [hl] at h
      dsimp only at h
      have := Option.some.inj h
      subst this
      rw [Nat.beq_eq] at hb
      obtain ⟨v1, v2⟩ := v
      dsimp only at hb hl
      subst hb
      obtain ⟨e, he, hO1, hd⟩ := zyCm_ok hH hO hl
      refine ⟨_, List.mem_map.mpr ⟨e, he, rfl⟩, hO1, Or.inl ⟨by decide, by decide, ?_⟩⟩
      show some (if cnd b.toNat (σ v2) 0 then a.toNat else nx, r.map (zyV σ)) = some ((bif e.2 then a.toNat else nx), r.map (zyV σ))
      rw [zy0 hH] at hd
      rw [← hd, zybi]
    | [], h => cases h
  replace h := zybc h
  rcases h with ⟨q, h⟩ | ⟨q, h⟩
  · have q := Nat.beq_eq.mp q
    subst q
    have := Option.some.inj h
    subst this
    exact ⟨_, List.mem_singleton.mpr rfl, hO, Or.inl ⟨by decide, by decide, rfl⟩⟩
  replace h := zybc h
  rcases h with ⟨q, h⟩ | ⟨q, h⟩
  · have q := Nat.beq_eq.mp q
    subst q
    match st, h with
    | v :: u :: r, h =>
      replace h := zybs h
      obtain ⟨hb, h⟩ := h
      cases hl : zyLc I u.2 v.2 with
      | none => rw [hl] at h; cases h
      | some l2 =>
      rw [hl] at h
      dsimp only at h
      have := Option.some.inj h
      subst this
      rw [Bool.and_eq_true, Nat.beq_eq, Nat.beq_eq] at hb
      obtain ⟨v1, v2⟩ := v
      obtain ⟨u1, u2⟩ := u
      obtain ⟨hb1, hb2⟩ := hb
      dsimp only at hb1 hb2 hl
      subst hb1
      subst hb2
      obtain ⟨e, he, hO1, hd⟩ := zyLc_ok hH hO hl
      refine ⟨_, List.mem_map.mpr ⟨e, he, rfl⟩, hO1, Or.inr ⟨by decide, rfl, fun ls => ?_⟩⟩
      show some (ls, (0, l_cmp (σ u2) (σ v2)) :: r.map (zyV σ)) = some (ls, (0, σ e.2) :: r.map (zyV σ))
      rw [hd, hH.1 _ (l_cmp_small _ _)]
    | [_], h => cases h
    | [], h => cases h
  replace h := zybc h
  rcases h with ⟨q, h⟩ | ⟨q, h⟩
  · have q := Nat.beq_eq.mp q
    subst q
    match st, h with
    | v :: r, h =>
      replace h := zybs h
      obtain ⟨hb, h⟩ := h
      have := Option.some.inj h
      subst this
      rw [Bool.and_eq_true, Bool.and_eq_true, Nat.beq_eq, zyle_iff, zynot] at hb
      obtain ⟨v1, v2⟩ := v
      obtain ⟨hb1, hb2, hb3⟩ := hb
      dsimp only at hb1 hb2 hb3
      subst hb1
      refine ⟨_, List.mem_singleton.mpr rfl, hO, Or.inl ⟨by decide, by decide, ?_⟩⟩
      show (if σ v2 = 0 ∨ 0 < σ v2 then some (if cnd b.toNat (σ v2) 0 then a.toNat else nx, r.map (zyV σ)) else none) = some ((bif cnd b.toNat v2 0 then a.toNat else nx), r.map (zyV σ))
      rw [hH.1 _ hb3, if_pos (by omega), zybi]
    | [], h => cases h
  replace h := zybc h
  rcases h with ⟨q, h⟩ | ⟨q, h⟩
  · have q := Nat.beq_eq.mp q
    subst q
    match st, h with
    | v :: u :: r, h =>
      replace h := zybs h
      obtain ⟨hb, h⟩ := h
      have := Option.some.inj h
      subst this
      simp only [Bool.and_eq_true, Nat.beq_eq, zyle_iff, zynot, zyeq_no] at hb
      obtain ⟨v1, v2⟩ := v
      obtain ⟨u1, u2⟩ := u
      obtain ⟨⟨hb1, hb2⟩, ⟨⟨hb3, hb4⟩, hb5⟩, ⟨hb6, hb7⟩, hb8⟩ := hb
      dsimp only at hb1 hb2 hb3 hb4 hb5 hb6 hb7 hb8
      subst hb1
      subst hb2
      refine ⟨_, List.mem_singleton.mpr rfl, hO, Or.inl ⟨by decide, by decide, ?_⟩⟩
      show (if -2 ≤ σ u2 ∧ -2 ≤ σ v2 ∧ σ u2 ≠ -1 ∧ σ v2 ≠ -1 then some (if cnd b.toNat (σ u2) (σ v2) then a.toNat else nx, r.map (zyV σ)) else none) = some ((bif cnd b.toNat u2 v2 then a.toNat else nx), r.map (zyV σ))
      rw [hH.1 _ hb4, hH.1 _ hb7, if_pos ⟨hb3, hb6, hb5, hb8⟩, zybi]
    | [_], h => cases h
    | [], h => cases h
  replace h := zybs h
  obtain ⟨q, h⟩ := h
  have q := Nat.beq_eq.mp q
  subst q
  match st, h with
  | v :: r, h =>
    replace h := zybs h
    obtain ⟨hb, h⟩ := h
    rw [Nat.beq_eq] at hb
    obtain ⟨v1, v2⟩ := v
    dsimp only at hb h
    subst hb
    replace h := zybc h
    rcases h with ⟨hc, h⟩ | ⟨hc, h⟩
    · have := Option.some.inj h
      subst this
      obtain ⟨e, he, hO1, hd⟩ := zySw_ok a (zyi v2) os I hO
      rw [zyi_c hc] at hd
      refine ⟨_, List.mem_map.mpr ⟨e, he, rfl⟩, hO1, Or.inl ⟨by decide, by decide, ?_⟩⟩
      show some ((swt a (σ v2) os).toNat, r.map (zyV σ)) = some (e.2.toNat, r.map (zyV σ))
      rw [hd]
    · have := Option.some.inj h
      subst this
      refine ⟨_, List.mem_singleton.mpr rfl, hO, Or.inl ⟨by decide, by decide, ?_⟩⟩
      show some ((swt a (σ v2) os).toNat, r.map (zyV σ)) = some ((swt a v2 os).toNat, r.map (zyV σ))
      rw [hH.1 _ hc]
  | [], h => cases h
