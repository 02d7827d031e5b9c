/-! the symbolic run: instructions that write the heap -/
theorem zyld_cons (i : Nat) (p : Nat × Int) (d : List (Nat × Int)) : zyld i (p :: d) = if i = p.1 then p.2 else zyld i d := by
  unfold zyld
  rw [zyL_cons]
  by_cases h : i = p.1
  · rw [if_pos h, Nat.beq_eq.mpr h]
    rfl
  · rw [if_neg h, show Nat.beq i p.1 = false from by rw [← Bool.not_eq_true, Nat.beq_eq]; exact h]
    rfl
theorem zyld_nil (i : Nat) : zyld i [] = 0 := rfl
theorem zyD_set {σ : Int → Int} {k n i : Nat} {x : Int} {d : List (Nat × Int)} (h : i < n) : zyD σ (k, n, (i, x) :: d) = (k, ((zyD σ (k, n, d)).2.set i (σ x))) := by
  show (k, _) = (k, _)
  congr 1
  apply List.ext_getElem?
  intro j
  rw [List.getElem?_set]
  by_cases hj : j < n
  · rw [show ((List.range n).map (fun i_1 => σ (zyld i_1 ((i, x) :: d))))[j]? = some (σ (zyld j ((i, x) :: d))) from by rw [List.getElem?_map, List.getElem?_range hj]; rfl]
    rw [zyld_cons]
    dsimp only
    by_cases hij : i = j
    · rw [if_pos hij, if_pos hij.symm, if_pos (by rw [zyD_len]; exact h)]
    · rw [if_neg hij, if_neg (Ne.symm hij), zyD_get (e := (k, n, d)) hj]
  · rw [List.getElem?_eq_none_iff.mpr (by rw [List.length_map, List.length_range]; show n ≤ j; omega), if_neg (by omega), zyD_no (e := (k, n, d)) (by show n ≤ j; omega)]
theorem zyD_nil {T : List ZTm} {σ : Int → Int} (hH : zyH T σ) (k n : Nat) : zyD σ (k, n, []) = (k, List.replicate n 0) := by
  show (k, _) = (k, _)
  congr 1
  apply List.ext_getElem?
  intro j
  by_cases hj : j < n
  · rw [List.getElem?_map, List.getElem?_range hj, List.getElem?_replicate, if_pos hj]
    show some (σ 0) = _
    rw [zy0 hH]
  · rw [List.getElem?_eq_none_iff.mpr (by rw [List.length_map, List.length_range]; show n ≤ j; omega), List.getElem?_replicate, if_neg hj]
theorem zyL_map {α : Type} (f : Nat → α) {i : Nat} : ∀ l : List Nat, i ∈ l → zyL i (l.map (fun j => (j, f j))) = some (f i)
  | x :: r, h => by
    rw [List.map_cons, zyL_cons]
    dsimp only
    by_cases hx : i = x
    · subst hx
      rw [Nat.beq_eq.mpr rfl]
      rfl
    · rw [show Nat.beq i x = false from by rw [← Bool.not_eq_true, Nat.beq_eq]; exact hx]
      rcases List.mem_cons.mp h with h | h
      · exact absurd h hx
      · exact zyL_map f r h
theorem zyD_range {T : List ZTm} {σ : Int → Int} (hH : zyH T σ) (k n : Nat) (f : Nat → Nat) (hf : ∀ i, i < n → f i < 1180591620717411303424) : zyD σ (k, n, (List.range n).map (fun i => (i, Int.ofNat (f i)))) = (k, (List.range n).map (fun i => ((f i : Nat) : Int))) := by
  show (k, _) = (k, _)
  congr 1
  apply List.map_congr_left
  intro i hi
  have hi2 := List.mem_range.mp hi
  unfold zyld
  rw [zyL_map (fun i => Int.ofNat (f i)) _ hi]
  show σ (Int.ofNat (f i)) = _
  rw [hH.1 _ (zyC_lt (by have := hf i hi2; rw [Int.ofNat_eq_natCast]; omega))]
  rfl
theorem zyL_app {α : Type} (i : Nat) (m : List (Nat × α)) : ∀ l : List (Nat × α), zyL i (l ++ m) = (match zyL i l with
    | some x => some x
    | none => zyL i m)
  | [] => rfl
  | e :: r => by
    rw [List.cons_append, zyL_cons, zyL_cons, zyL_app i m r]
    cases Nat.beq i e.1 <;> rfl
theorem zyL_shift {α : Type} (f : Nat → α) (p j : Nat) : ∀ n, zyL j ((List.range n).map (fun i => (p + i, f i))) = if p ≤ j ∧ j < p + n then some (f (j - p)) else none
  | 0 => by rw [if_neg (by omega)]; rfl
  | n + 1 => by
    rw [List.range_succ, List.map_append, zyL_app, zyL_shift f p j n]
    by_cases h : p ≤ j ∧ j < p + n
    · rw [if_pos h, if_pos (by omega)]
    · rw [if_neg h]
      show zyL j [(p + n, f n)] = _
      rw [zyL_cons]
      dsimp only
      by_cases h2 : j = p + n
      · subst h2
        rw [Nat.beq_eq.mpr rfl, if_pos (by omega), show p + n - p = n from by omega]
        rfl
      · rw [show Nat.beq j (p + n) = false from by rw [← Bool.not_eq_true, Nat.beq_eq]; exact h2, if_neg (by omega)]
        rfl
theorem zyld_shift (f : Nat → Int) (p j n : Nat) (d : List (Nat × Int)) : zyld j ((List.range n).map (fun i => (p + i, f i)) ++ d) = if p ≤ j ∧ j < p + n then f (j - p) else zyld j d := by
  unfold zyld
  rw [zyL_app, zyL_shift f]
  by_cases h : p ≤ j ∧ j < p + n
  · rw [if_pos h, if_pos h]
  · rw [if_neg h, if_neg h]
theorem zyD_cpy {σ : Int → Int} {k n1 n2 sp dp n : Nat} {k1 : Nat} {d1 d2 : List (Nat × Int)} (h1 : sp + n ≤ n1) (h2 : dp + n ≤ n2) : zyD σ (k, n2, (List.range n).map (fun i => (dp + i, zyld (sp + i) d1)) ++ d2) = (k, cpyL (zyD σ (k1, n1, d1)).2 (zyD σ (k, n2, d2)).2 sp dp n) := by
  show (k, _) = (k, _)
  congr 1
  unfold cpyL
  have l1 : (zyD σ (k1, n1, d1)).2.length = n1 := zyD_len σ _
  have l2 : (zyD σ (k, n2, d2)).2.length = n2 := zyD_len σ _
  have la : ((zyD σ (k, n2, d2)).2.take dp).length = dp := by rw [List.length_take, l2]; omega
  have lb : (((zyD σ (k1, n1, d1)).2.drop sp).take n).length = n := by rw [List.length_take, List.length_drop, l1]; omega
  apply List.ext_getElem?
  intro j
  by_cases hj : j < n2
  · rw [List.getElem?_map, List.getElem?_range hj]
    show some (σ (zyld j _)) = _
    have e := zyld_shift (fun i => zyld (sp + i) d1) dp j n d2
    rw [e]
    by_cases ha : j < dp
    · rw [if_neg (by omega), List.getElem?_append_left (by rw [la]; exact ha), List.getElem?_take_of_lt ha, zyD_get (e := (k, n2, d2)) hj]
    · by_cases hb : j < dp + n
      · rw [if_pos (by omega), List.getElem?_append_right (by rw [la]; omega), la, List.getElem?_append_left (by rw [lb]; omega), List.getElem?_take_of_lt (by omega), List.getElem?_drop, zyD_get (e := (k1, n1, d1)) (by show sp + (j - dp) < n1; omega)]
      · rw [if_neg (by omega), List.getElem?_append_right (by rw [la]; omega), la, List.getElem?_append_right (by rw [lb]; omega), lb, List.getElem?_drop, show dp + n + (j - dp - n) = j from by omega, zyD_get (e := (k, n2, d2)) hj]
  · rw [List.getElem?_eq_none_iff.mpr (by rw [List.length_map, List.length_range]; show n2 ≤ j; omega), List.getElem?_eq_none_iff.mpr (by rw [List.length_append, List.length_append, la, lb, List.length_drop, l2]; omega)]
theorem zyset {σ : Int → Int} {H : List ZCe} {p : Nat} {e : ZCe} {f : Nat × List Int} (h : zyD σ e = f) : (H.map (zyD σ)).set p f = (zyU e H p).map (zyD σ) := by
  rw [zyU_set, List.map_set, h]
theorem zywd (σ : Int → Int) (l : List Vl) : wds (l.map (zyV σ)) = wds l := by
  unfold wds
  rw [List.map_map]
  rfl
theorem zyKp_ok {T : List ZTm} {σ : Int → Int} (hH : zyH T σ) {H : List ZCe} {kd : Nat} {v : Vl} {x : Int} (h : zyKp T H kd v = some x) : kept (H.map (zyD σ)) kd (zyV σ v) = some (σ x) := by
  unfold zyKp at h
  obtain ⟨v1, v2⟩ := v
  replace h := zybc h
  rcases h with ⟨q, h⟩ | ⟨q, h⟩
  · have q := Nat.beq_eq.mp q
    subst q
    replace h := zybs h
    obtain ⟨hb, h⟩ := h
    rw [Nat.beq_eq] at hb
    have := Option.some.inj h
    subst this
    exact if_pos hb
  replace h := zybc h
  rcases h with ⟨q, h⟩ | ⟨q, h⟩
  · have q := Nat.beq_eq.mp q
    subst q
    replace h := zybs h
    obtain ⟨hb, h⟩ := h
    rw [Nat.beq_eq] at hb
    show (if v1 = 0 then some (i_byt (σ v2)) else none) = _
    rw [if_pos hb, zyby_ok hH h]
  replace h := zybc h
  rcases h with ⟨q, h⟩ | ⟨q, h⟩
  · have q := Nat.beq_eq.mp q
    subst q
    replace h := zybs h
    obtain ⟨hb, h⟩ := h
    rw [Nat.beq_eq] at hb
    show (if v1 = 2 then (if σ v2 = 0 then some 0 else match cel (H.map (zyD σ)) (σ v2) with
      | some (k, _) => if k < 14 then some (σ v2) else none
      | none => none) else none) = _
    rw [if_pos hb]
    replace h := zybc h
    rcases h with ⟨hm, h⟩ | ⟨hm, h⟩
    · rw [zyeq_iff] at hm
      have := Option.some.inj h
      subst this
      dsimp only at hm
      rw [hm, zy0 hH, if_pos rfl]
    · cases he : zyce H v2 with
      | none => rw [he] at h; cases h
      | some e =>
      rw [he] at h
      dsimp only at h
      replace h := zybs h
      obtain ⟨hc, h⟩ := h
      have := Option.some.inj h
      subst this
      have hc : e.1 < 14 := Nat.le_of_ble_eq_true hc
      obtain ⟨e1, e2⟩ := zyce_cel hH he
      obtain ⟨-, e3, -⟩ := zyce_ok he
      rw [e1, e2, if_neg (by omega)]
      dsimp only
      rw [if_pos hc]
  replace h := zybs h
  obtain ⟨q, h⟩ := h
  have q := Nat.beq_eq.mp q
  subst q
  replace h := zybs h
  obtain ⟨hb, h⟩ := h
  rw [Bool.and_eq_true, Bool.and_eq_true, Nat.beq_eq, zyle_iff, zyle_iff] at hb
  obtain ⟨hb1, hb2, hb3⟩ := hb
  have := Option.some.inj h
  subst this
  dsimp only at hb1 hb2 hb3 ⊢
  show (if v1 = 2 ∧ σ v2 ≤ -10 ∧ -33 < σ v2 then some (σ v2) else none) = _
  rw [hH.1 v2 (zyC_lt (by omega)), if_pos ⟨hb1, hb2, by omega⟩]
theorem zyWr_ok {T : List ZTm} {σ : Int → Int} (hH : zyH T σ) {op : Nat} {a b : Int} {H : List ZCe} {st : List Vl} {p : List ZCe × List Vl} (h : zyWr T op a b H st = some p) : 40 ≤ op ∧ op < 60 ∧ wst op a b (H.map (zyD σ)) (st.map (zyV σ)) = some (p.1.map (zyD σ), p.2.map (zyV σ)) := by
  have hlen : (H.map (zyD σ)).length = H.length := List.length_map ..
  have hnew : H.length ≤ 600000 → ∀ rest : List Vl, (2, (((H.map (zyD σ)).length + 1 : Nat) : Int)) :: rest.map (zyV σ) = ((2, Int.ofNat (H.length + 1)) :: rest).map (zyV σ) := by
    intro hl rest
    rw [List.map_cons, zyV_mk, hlen, hH.1 (Int.ofNat (H.length + 1)) (zyC_lt (by rw [Int.ofNat_eq_natCast]; omega))]
    rfl
  unfold zyWr at h
  replace h := zybc h
  rcases h with ⟨q, h⟩ | ⟨q, h⟩
  · have q := Nat.beq_eq.mp q
    subst q
    refine ⟨by decide, by decide, ?_⟩
    match st, h with
    | v :: u :: rest, h =>
      replace h := zybs h
      obtain ⟨hb, h⟩ := h
      cases he : zyce H u.2 with
      | none => rw [he] at h; cases h
      | some e =>
      rw [he] at h
      dsimp only at h
      replace h := zybs h
      obtain ⟨hc, h⟩ := h
      have := Option.some.inj h
      subst this
      rw [Nat.beq_eq] at hb
      rw [Bool.and_eq_true, Bool.and_eq_true, Bool.and_eq_true, zyeq_iff, Nat.ble_eq, Nat.beq_eq, zykt_eq, Int.ofNat_eq_natCast] at hc
      obtain ⟨⟨hc1, hc2⟩, hc3, hc4⟩ := hc
      have hc2 : b.toNat < e.2.1 := Nat.le_of_ble_eq_true hc2
      obtain ⟨u1, u2⟩ := u
      dsimp only at hb he
      subst hb
      obtain ⟨e1, e2⟩ := zyce_cel hH he
      have hk : keptF (kty e.1 b.toNat) (zyV σ v) = some (σ v.2) := by
        unfold keptF
        rw [if_pos (show (zyV σ v).1 = _ from hc4), if_neg (by omega), if_neg (by omega)]
        rfl
      show (match cel (H.map (zyD σ)) (σ u2) with
        | some (kd, l) => if (kd : Int) = a ∧ b.toNat < l.length then (match keptF (kty kd b.toNat) (zyV σ v) with
          | some x => some ((H.map (zyD σ)).set ((σ u2).toNat - 1) (kd, l.set b.toNat x), rest.map (zyV σ))
          | none => none) else none
        | none => none) = _
      rw [e1, e2]
      dsimp only
      rw [if_pos ⟨hc1, by rw [zyD_len]; exact hc2⟩, hk]
      dsimp only
      rw [zyset (zyD_set hc2)]
    | [_], h => cases h
    | [], h => cases h
  replace h := zybc h
  rcases h with ⟨q, h⟩ | ⟨q, h⟩
  · have q := Nat.beq_eq.mp q
    subst q
    refine ⟨by decide, by decide, ?_⟩
    match st, h with
    | v :: w :: u :: rest, h =>
      replace h := zybs h
      obtain ⟨hb, h⟩ := h
      cases he : zyce H u.2 with
      | none => rw [he] at h; cases h
      | some e =>
      rw [he] at h
      dsimp only at h
      replace h := zybs h
      obtain ⟨hc, h⟩ := h
      cases hx : zyKp T H e.1 v with
      | none => rw [hx] at h; cases h
      | some x =>
      rw [hx] at h
      dsimp only at h
      have := Option.some.inj h
      subst this
      rw [Bool.and_eq_true, Bool.and_eq_true, Bool.and_eq_true, Nat.beq_eq, Nat.beq_eq, zyle_iff, zynot] at hb
      rw [Bool.and_eq_true, Bool.or_eq_true, Bool.and_eq_true, zyeq_iff, zyeq_iff, Nat.ble_eq, Int.ofNat_eq_natCast] at hc
      obtain ⟨hc1, hc2⟩ := hc
      obtain ⟨u1, u2⟩ := u
      obtain ⟨w1, w2⟩ := w
      obtain ⟨hb1, hb2, hb3, hb4⟩ := hb
      dsimp only at hb1 hb2 hb3 hb4 he hc2
      have hc2 : w2.toNat < e.2.1 := Nat.le_of_ble_eq_true hc2
      subst hb1
      subst hb2
      obtain ⟨e1, e2⟩ := zyce_cel hH he
      show (match cel (H.map (zyD σ)) (σ u2) with
        | some (kd, l) => if 0 ≤ σ w2 ∧ (σ w2).toNat < l.length ∧ ((kd : Int) = a ∨ (a = 21 ∧ kd = 22) ∨ (a = 24 ∧ 24 ≤ kd)) then (match kept (H.map (zyD σ)) kd (zyV σ v) with
          | some x => some ((H.map (zyD σ)).set ((σ u2).toNat - 1) (kd, l.set (σ w2).toNat x), rest.map (zyV σ))
          | none => none) else none
        | none => none) = _
      rw [e1, e2, hH.1 w2 hb4]
      dsimp only
      rw [if_pos ⟨hb3, by rw [zyD_len]; exact hc2, hc1.imp id Or.inr⟩, zyKp_ok hH hx]
      dsimp only
      rw [zyset (zyD_set hc2)]
    | [_, _], h => cases h
    | [_], h => cases h
    | [], h => cases h
  replace h := zybc h
  rcases h with ⟨q, h⟩ | ⟨q, h⟩
  · have q := Nat.beq_eq.mp q
    subst q
    refine ⟨by decide, by decide, ?_⟩
    replace h := zybs h
    obtain ⟨hb, h⟩ := h
    rw [Nat.ble_eq] at hb
    have := Option.some.inj h
    subst this
    show some (H.map (zyD σ) ++ [(a.toNat, List.replicate b.toNat 0)], (2, (((H.map (zyD σ)).length + 1 : Nat) : Int)) :: st.map (zyV σ)) = _
    rw [hnew hb, ← zyD_nil hH]
    show _ = some ((H ++ [(a.toNat, b.toNat, [])]).map (zyD σ), _)
    rw [List.map_append]
    rfl
  replace h := zybc h
  rcases h with ⟨q, h⟩ | ⟨q, h⟩
  · match st, h with
    | v :: rest, h =>
      replace h := zybs h
      obtain ⟨hb, h⟩ := h
      have := Option.some.inj h
      subst this
      rw [Bool.and_eq_true, Bool.and_eq_true, Bool.and_eq_true, Nat.beq_eq, zyle_iff, zyle_iff, Nat.ble_eq] at hb
      obtain ⟨v1, v2⟩ := v
      obtain ⟨⟨hb1, hb2, hb3⟩, hb4⟩ := hb
      dsimp only at hb1 hb2 hb3
      subst hb1
      have hs : σ v2 = v2 := hH.1 v2 (zyC_lt (by omega))
      have e : (if 0 ≤ σ v2 ∧ σ v2 ≤ 100000 then some (H.map (zyD σ) ++ [(a.toNat, List.replicate (σ v2).toNat 0)], ((2, (((H.map (zyD σ)).length + 1 : Nat) : Int)) :: rest.map (zyV σ) : List Vl)) else none) = some ((H ++ [(a.toNat, v2.toNat, [])]).map (zyD σ), ((2, Int.ofNat (H.length + 1)) :: rest).map (zyV σ)) := by
        rw [hs, if_pos ⟨hb2, hb3⟩, hnew hb4, ← zyD_nil hH, List.map_append]
        rfl
      rw [Bool.or_eq_true, Nat.beq_eq, Nat.beq_eq] at q
      rcases q with q | q
      · subst q
        exact ⟨by decide, by decide, e⟩
      · subst q
        exact ⟨by decide, by decide, e⟩
    | [], h => cases h
  replace h := zybc h
  rcases h with ⟨q, h⟩ | ⟨q, h⟩
  · have q := Nat.beq_eq.mp q
    subst q
    refine ⟨by decide, by decide, ?_⟩
    match st, h with
    | v :: u :: rest, h =>
      replace h := zybs h
      obtain ⟨hb, h⟩ := h
      have := Option.some.inj h
      subst this
      simp only [Bool.and_eq_true, Nat.beq_eq, zyle_iff, Nat.ble_eq] at hb
      obtain ⟨v1, v2⟩ := v
      obtain ⟨u1, u2⟩ := u
      obtain ⟨⟨hb1, hb2⟩, ⟨⟨hb3, hb4⟩, hb5, hb6⟩, hb7⟩ := hb
      dsimp only at hb1 hb2 hb3 hb4 hb5 hb6
      subst hb1
      subst hb2
      show (if 0 ≤ σ u2 ∧ σ u2 ≤ 1000 ∧ 0 ≤ σ v2 ∧ σ v2 ≤ 1000 then
        some (H.map (zyD σ) ++ (a.toNat, refsFrom ((H.map (zyD σ)).length + 1) (σ u2).toNat 1) :: List.replicate (σ u2).toNat (b.toNat, List.replicate (σ v2).toNat 0), ((2, (((H.map (zyD σ)).length + 1 : Nat) : Int)) :: rest.map (zyV σ) : List Vl)) else none) = _
      rw [hH.1 u2 (zyC_lt (by omega)), hH.1 v2 (zyC_lt (by omega)), if_pos ⟨hb5, hb6, hb3, hb4⟩, hnew hb7]
      dsimp only
      have eh : (H ++ (a.toNat, u2.toNat, (List.range u2.toNat).map (fun i => (i, Int.ofNat (H.length + 1 + 1 * i + 1)))) :: List.replicate u2.toNat (b.toNat, v2.toNat, [])).map (zyD σ) = H.map (zyD σ) ++ (a.toNat, refsFrom ((H.map (zyD σ)).length + 1) u2.toNat 1) :: List.replicate u2.toNat (b.toNat, List.replicate v2.toNat 0) := by
        rw [List.map_append, List.map_cons, List.map_replicate, zyD_nil hH, hlen]
        exact congrArg (fun x => H.map (zyD σ) ++ x :: List.replicate u2.toNat (b.toNat, List.replicate v2.toNat 0)) (zyD_range hH a.toNat u2.toNat (fun i => H.length + 1 + 1 * i + 1) (fun i hi => by show H.length + 1 + 1 * i + 1 < _; omega))
      rw [eh]
    | [_], h => cases h
    | [], h => cases h
  replace h := zybc h
  rcases h with ⟨q, h⟩ | ⟨q, h⟩
  · have q := Nat.beq_eq.mp q
    subst q
    refine ⟨by decide, by decide, ?_⟩
    match st, h with
    | w :: v :: u :: rest, h =>
      replace h := zybs h
      obtain ⟨hb, h⟩ := h
      have := Option.some.inj h
      subst this
      simp only [Bool.and_eq_true, Nat.beq_eq, zyle_iff, Nat.ble_eq] at hb
      obtain ⟨v1, v2⟩ := v
      obtain ⟨u1, u2⟩ := u
      obtain ⟨w1, w2⟩ := w
      obtain ⟨⟨⟨hb1, hb2⟩, hb0⟩, ⟨⟨⟨hb3, hb4⟩, hb5, hb6⟩, hb8, hb9⟩, hb7⟩ := hb
      dsimp only at hb1 hb2 hb3 hb4 hb5 hb6 hb0 hb8 hb9
      subst hb1
      subst hb2
      subst hb0
      show (if 0 ≤ σ u2 ∧ σ u2 ≤ 1000 ∧ 0 ≤ σ v2 ∧ σ v2 ≤ 1000 ∧ 0 ≤ σ w2 ∧ σ w2 ≤ 1000 then
        some (H.map (zyD σ) ++ (a.toNat, refsFrom ((H.map (zyD σ)).length + 1) (σ u2).toNat ((σ v2).toNat + 1)) :: (List.range (σ u2).toNat).flatMap (fun i => (b.toNat, refsFrom ((H.map (zyD σ)).length + 2 + ((σ v2).toNat + 1) * i) (σ v2).toNat 1) :: List.replicate (σ v2).toNat (20, List.replicate (σ w2).toNat 0)), ((2, (((H.map (zyD σ)).length + 1 : Nat) : Int)) :: rest.map (zyV σ) : List Vl)) else none) = _
      rw [hH.1 u2 (zyC_lt (by omega)), hH.1 v2 (zyC_lt (by omega)), hH.1 w2 (zyC_lt (by omega)), if_pos ⟨hb5, hb6, hb3, hb4, hb8, hb9⟩, hnew hb7]
      dsimp only
      have hm : ∀ i, i < u2.toNat → (v2.toNat + 1) * i ≤ 1001 * 1000 := fun i hi => Nat.mul_le_mul (by omega) (by omega)
      have e2 : (List.range u2.toNat).flatMap (fun i => ((b.toNat, v2.toNat, (List.range v2.toNat).map (fun j => (j, Int.ofNat (H.length + 2 + (v2.toNat + 1) * i + 1 * j + 1)))) :: List.replicate v2.toNat (20, w2.toNat, [])).map (zyD σ)) = (List.range u2.toNat).flatMap (fun i => (b.toNat, refsFrom (H.length + 2 + (v2.toNat + 1) * i) v2.toNat 1) :: List.replicate v2.toNat (20, List.replicate w2.toNat 0)) := by
        rw [List.flatMap_def, List.flatMap_def]
        congr 1
        apply List.map_congr_left
        intro i hi
        have hi := List.mem_range.mp hi
        have := hm i hi
        rw [List.map_cons, List.map_replicate, zyD_nil hH]
        exact congrArg (fun x => x :: List.replicate v2.toNat (20, List.replicate w2.toNat 0)) (zyD_range hH b.toNat v2.toNat (fun j => H.length + 2 + (v2.toNat + 1) * i + 1 * j + 1) (fun j hj => by show H.length + 2 + (v2.toNat + 1) * i + 1 * j + 1 < _; omega))
      have eh : (H ++ (a.toNat, u2.toNat, (List.range u2.toNat).map (fun i => (i, Int.ofNat (H.length + 1 + (v2.toNat + 1) * i + 1)))) :: (List.range u2.toNat).flatMap (fun i => (b.toNat, v2.toNat, (List.range v2.toNat).map (fun j => (j, Int.ofNat (H.length + 2 + (v2.toNat + 1) * i + 1 * j + 1)))) :: List.replicate v2.toNat (20, w2.toNat, []))).map (zyD σ) = H.map (zyD σ) ++ (a.toNat, refsFrom ((H.map (zyD σ)).length + 1) u2.toNat (v2.toNat + 1)) :: (List.range u2.toNat).flatMap (fun i => (b.toNat, refsFrom ((H.map (zyD σ)).length + 2 + (v2.toNat + 1) * i) v2.toNat 1) :: List.replicate v2.toNat (20, List.replicate w2.toNat 0)) := by
        rw [List.map_append, List.map_cons, List.map_flatMap, e2, hlen]
        exact congrArg (fun x => H.map (zyD σ) ++ x :: (List.range u2.toNat).flatMap (fun i => (b.toNat, refsFrom (H.length + 2 + (v2.toNat + 1) * i) v2.toNat 1) :: List.replicate v2.toNat (20, List.replicate w2.toNat 0))) (zyD_range hH a.toNat u2.toNat (fun i => H.length + 1 + (v2.toNat + 1) * i + 1) (fun i hi => by have := hm i hi; show H.length + 1 + (v2.toNat + 1) * i + 1 < _; omega))
      rw [eh]
    | [_, _], h => cases h
    | [_], h => cases h
    | [], h => cases h
  replace h := zybc h
  rcases h with ⟨q, h⟩ | ⟨q, h⟩
  · have q := Nat.beq_eq.mp q
    subst q
    refine ⟨by decide, by decide, ?_⟩
    match st, h with
    | n :: dp :: d :: sp :: s :: rest, h =>
      replace h := zybs h
      obtain ⟨hb, h⟩ := h
      cases he : zyce H s.2 with
      | none => rw [he] at h; cases h
      | some e =>
      rw [he] at h
      dsimp only at h
      cases hf : zyce H d.2 with
      | none => rw [hf] at h; cases h
      | some f =>
      rw [hf] at h
      dsimp only at h
      replace h := zybs h
      obtain ⟨hc, h⟩ := h
      have := Option.some.inj h
      subst this
      simp only [Bool.and_eq_true, Nat.beq_eq, zyle_iff, Nat.ble_eq] at hb hc
      obtain ⟨n1, n2⟩ := n
      obtain ⟨dp1, dp2⟩ := dp
      obtain ⟨d1, d2⟩ := d
      obtain ⟨sp1, sp2⟩ := sp
      obtain ⟨s1, s2⟩ := s
      obtain ⟨⟨⟨⟨hb1, hb2⟩, hb3, hb4⟩, hb5⟩, ⟨⟨hb6, hb7⟩, hb8, hb9⟩, ⟨hb10, hb11⟩, hb12⟩ := hb
      obtain ⟨⟨hc1, hc2⟩, hc3, hc4⟩ := hc
      dsimp only at hb1 hb2 hb3 hb4 hb5 hb6 hb7 hb8 hb9 hb10 hb11 he hf hc3 hc4
      subst hb1 hb2 hb3 hb4 hb5
      obtain ⟨e1, e2⟩ := zyce_cel hH he
      obtain ⟨f1, f2⟩ := zyce_cel hH hf
      show (match cel (H.map (zyD σ)) (σ s2), cel (H.map (zyD σ)) (σ d2) with
        | some (ks, ls), some (kd, ld) => if ks = 20 ∧ kd = 20 ∧ wds (rest.map (zyV σ)) ≤ 8 ∧ 0 ≤ σ n2 ∧ 0 ≤ σ dp2 ∧ 0 ≤ σ sp2 ∧ σ sp2 + σ n2 ≤ ls.length ∧ σ dp2 + σ n2 ≤ ld.length then
          some ((H.map (zyD σ)).set ((σ d2).toNat - 1) (kd, cpyL ls ld (σ sp2).toNat (σ dp2).toNat (σ n2).toNat), rest.map (zyV σ)) else none
        | _, _ => none) = _
      rw [e1, e2, f1, f2, hH.1 n2 (zyC_lt (by omega)), hH.1 dp2 (zyC_lt (by omega)), hH.1 sp2 (zyC_lt (by omega))]
      dsimp only
      rw [if_pos ⟨hc1, hc2, by rw [zywd]; exact hb12, hb6, hb8, hb10, by rw [zyD_len]; omega, by rw [zyD_len]; omega⟩, zyset (zyD_cpy (k1 := e.1) hc3 hc4)]
    | [_, _, _, _], h => cases h
    | [_, _, _], h => cases h
    | [_, _], h => cases h
    | [_], h => cases h
    | [], h => cases h
  replace h := zybs h
  obtain ⟨q, h⟩ := h
  have q := Nat.beq_eq.mp q
  subst q
  refine ⟨by decide, by decide, ?_⟩
  match st, h with
  | v :: rest, h =>
    replace h := zybs h
    obtain ⟨hb, h⟩ := h
    cases he : zyce H v.2 with
    | none => rw [he] at h; cases h
    | some e =>
    rw [he] at h
    dsimp only at h
    replace h := zybs h
    obtain ⟨hc, h⟩ := h
    have := Option.some.inj h
    subst this
    simp only [Bool.and_eq_true, Nat.beq_eq, Nat.ble_eq] at hb hc
    obtain ⟨v1, v2⟩ := v
    obtain ⟨hb1, hb2, hb3⟩ := hb
    dsimp only at hb1 he
    subst hb1
    obtain ⟨e1, e2⟩ := zyce_cel hH he
    show (match cel (H.map (zyD σ)) (σ v2) with
      | some (kd, l) => if kd = 20 ∧ wds (rest.map (zyV σ)) ≤ 8 then some (H.map (zyD σ) ++ [(kd, l)], ((2, (((H.map (zyD σ)).length + 1 : Nat) : Int)) :: rest.map (zyV σ) : List Vl)) else none
      | none => none) = _
    rw [e1, e2]
    dsimp only
    rw [if_pos ⟨hc, by rw [zywd]; exact hb2⟩, hnew hb3, List.map_append]
    rfl
  | [], h => cases h
