/-! the symbolic run: instructions that read and write the heap -/
theorem zyce_ok {H : List ZCe} {r : Int} {e : ZCe} (h : zyce H r = some e) : zyC r = false ∧ 0 < r ∧ H[r.toNat - 1]? = some e ∧ r.toNat - 1 < H.length := by
  unfold zyce at h
  cases r with
  | negSucc n => cases h
  | ofNat m =>
    dsimp only at h
    replace h := zybc h
    rcases h with ⟨_, h⟩ | ⟨q, h⟩
    · cases h
    rw [Bool.or_eq_false_iff] at q
    obtain ⟨q1, q2⟩ := q
    have q1 : ¬ m = 0 := fun h => by rw [Nat.beq_eq.mpr h] at q1; cases q1
    rw [zyN_get] at h
    have e1 : (Int.ofNat m).toNat = m := rfl
    rw [e1]
    refine ⟨q2, ?_, h, ?_⟩
    · rw [Int.ofNat_eq_natCast]; omega
    · obtain ⟨hh, -⟩ := List.getElem?_eq_some_iff.mp h
      exact hh
theorem zyce_cel {T : List ZTm} {σ : Int → Int} (hH : zyH T σ) {H : List ZCe} {r : Int} {e : ZCe} (h : zyce H r = some e) : σ r = r ∧ cel (H.map (zyD σ)) r = some (e.1, (zyD σ e).2) := by
  obtain ⟨h1, h2, h3, -⟩ := zyce_ok h
  refine ⟨hH.1 r h1, ?_⟩
  unfold cel
  rw [if_pos h2, List.getElem?_map, h3]
  rfl
theorem zyD_len (σ : Int → Int) (e : ZCe) : (zyD σ e).2.length = e.2.1 := by
  unfold zyD
  rw [List.length_map, List.length_range]
theorem zyD_get {σ : Int → Int} {e : ZCe} {i : Nat} (h : i < e.2.1) : (zyD σ e).2[i]? = some (σ (zyld i e.2.2)) := by
  unfold zyD
  rw [List.getElem?_map, List.getElem?_range h]
  rfl
theorem zyD_no {σ : Int → Int} {e : ZCe} {i : Nat} (h : e.2.1 ≤ i) : (zyD σ e).2[i]? = none := by
  rw [List.getElem?_eq_none_iff, zyD_len]
  exact h
def zypk (l : List Nat) : Nat := l.foldr (fun x s => x + 8 * s) 0
theorem zypk_get : ∀ (l : List Nat) (i : Nat), (∀ x ∈ l, x < 8) → zypk l / 2 ^ (3 * i) % 8 = l.getD i 0
  | [], i, _ => by
    show 0 / 2 ^ (3 * i) % 8 = 0
    rw [Nat.zero_div]
  | x :: r, 0, h => by
    have hx := h x (List.mem_cons_self ..)
    show (x + 8 * zypk r) / 1 % 8 = x
    omega
  | x :: r, i + 1, h => by
    have hx := h x (List.mem_cons_self ..)
    have ih := zypk_get r i (fun y hy => h y (List.mem_cons_of_mem _ hy))
    show (x + 8 * zypk r) / 2 ^ (3 * (i + 1)) % 8 = r.getD i 0
    rw [← ih, show 2 ^ (3 * (i + 1)) = 8 * 2 ^ (3 * i) from by rw [Nat.mul_add, Nat.pow_add, Nat.mul_comm], ← Nat.div_div_eq_div_mul, show (x + 8 * zypk r) / 8 = zypk r from by omega]
theorem zykk_eq : zykk = knds.map zypk := by decide +kernel
theorem knds_8 : ∀ l ∈ knds, ∀ x ∈ l, x < 8 := by decide +kernel
theorem zykt_eq (k i : Nat) : zykt k i = kty k i := by
  unfold zykt
  rw [zybi]
  by_cases h : Nat.ble k 13 = true
  · rw [if_pos h]
    have hk := Nat.ble_eq.mp h
    unfold kty
    rw [if_pos (by omega), zyN_get, zykk_eq, List.getElem?_map, show knds.getD k [] = (knds[k]?).getD [] from List.getD_eq_getElem?_getD ..]
    cases hq : knds[k]? with
    | none => rfl
    | some l =>
      show zypk l / 2 ^ (3 * i) % 8 = l.getD i 0
      exact zypk_get l i (knds_8 l (List.mem_of_getElem? hq))
  · rw [if_neg h]
theorem zySc_len (σ : Int → Int) (L : Nat) : (zySc σ L).length = L := by unfold zySc; rw [List.length_map, List.length_range]
theorem zyRd_ok {T : List ZTm} {σ : Int → Int} (hH : zyH T σ) {op : Nat} {a b : Int} {L : Nat} {H : List ZCe} {st st' : List Vl} (h : zyRd L op a b H st = some st') : 30 ≤ op ∧ op < 40 ∧ rst (zySc σ L) stxt op a b (H.map (zyD σ)) (st.map (zyV σ)) = some (st'.map (zyV σ)) := by
  unfold zyRd at h
  replace h := zybc h
  rcases h with ⟨q, h⟩ | ⟨q, h⟩
  · have q := Nat.beq_eq.mp q
    subst q
    refine ⟨by decide, by decide, ?_⟩
    match st, h with
    | v :: rest, h =>
      replace h := zybs h
      obtain ⟨hb, h⟩ := h
      cases he : zyce H v.2 with
      | none => rw [he] at h; cases h
      | some e =>
      rw [he] at h
      dsimp only at h
      replace h := zybs h
      obtain ⟨hc, h⟩ := h
      have := Option.some.inj h
      subst this
      rw [Nat.beq_eq] at hb
      rw [Bool.and_eq_true, zyeq_iff, Int.ofNat_eq_natCast] at hc
      obtain ⟨hc1, hc2⟩ := hc
      have hc2 : b.toNat < e.2.1 := Nat.le_of_ble_eq_true hc2
      obtain ⟨v1, v2⟩ := v
      dsimp only at hb he
      subst hb
      obtain ⟨e1, e2⟩ := zyce_cel hH he
      show (match cel (H.map (zyD σ)) (σ v2) with
        | some (kd, l) => if (kd : Int) = a then (match l[b.toNat]? with
          | some x => some ((tg (kty kd b.toNat), x) :: rest.map (zyV σ))
          | none => none) else none
        | none => none) = _
      rw [e1, e2]
      dsimp only
      rw [if_pos hc1, zyD_get hc2]
      dsimp only
      rw [List.map_cons, zyV_mk, zykt_eq]
    | [], h => cases h
  replace h := zybc h
  rcases h with ⟨q, h⟩ | ⟨q, h⟩
  · have q := Nat.beq_eq.mp q
    subst q
    refine ⟨by decide, by decide, ?_⟩
    match st, h with
    | v :: u :: rest, h =>
      replace h := zybs h
      obtain ⟨hb, h⟩ := h
      rw [Bool.and_eq_true, Bool.and_eq_true, Bool.and_eq_true, Nat.beq_eq, Nat.beq_eq, zyle_iff, zynot] at hb
      obtain ⟨v1, v2⟩ := v
      obtain ⟨u1, u2⟩ := u
      obtain ⟨hb1, hb2, hb3, hb4⟩ := hb
      dsimp only at hb1 hb2 hb3 hb4 h
      subst hb1
      subst hb2
      show (if σ v2 < 0 then none else if σ u2 = -1 then (if a = 20 then (match (zySc σ L)[(σ v2).toNat]? with
          | some x => some ((0, x) :: rest.map (zyV σ))
          | none => none) else none) else if σ u2 ≤ -100 then (if a = 21 then (match txt stxt (σ u2) with
          | some l => (match l[(σ v2).toNat]? with
            | some x => some ((0, x) :: rest.map (zyV σ))
            | none => none)
          | none => none) else none)
        else (match cel (H.map (zyD σ)) (σ u2) with
        | some (kd, l) => if (kd : Int) = a ∨ (a = 21 ∧ kd = 22) ∨ (a = 24 ∧ 24 ≤ kd) then (match l[(σ v2).toNat]? with
          | some x => some ((tg (kty kd 0), x) :: rest.map (zyV σ))
          | none => none) else none
        | none => none)) = _
      rw [hH.1 _ hb4, if_neg (by omega)]
      replace h := zybc h
      rcases h with ⟨hm, h⟩ | ⟨hm, h⟩
      · rw [zyeq_iff] at hm
        subst hm
        replace h := zybs h
        obtain ⟨hc, h⟩ := h
        have := Option.some.inj h
        subst this
        rw [Bool.and_eq_true, zyeq_iff] at hc
        obtain ⟨hc1, hc2⟩ := hc
        have hc2 : v2.toNat < L := Nat.le_of_ble_eq_true hc2
        rw [hH.1 (-1) (by decide), if_pos rfl, if_pos hc1]
        unfold zySc
        rw [List.getElem?_map, List.getElem?_range hc2]
        rfl
      · cases he : zyce H u2 with
        | none => rw [he] at h; cases h
        | some e =>
        rw [he] at h
        dsimp only at h
        replace h := zybs h
        obtain ⟨hc, h⟩ := h
        have := Option.some.inj h
        subst this
        rw [Bool.and_eq_true, Bool.or_eq_true, Bool.and_eq_true, zyeq_iff, zyeq_iff, Nat.ble_eq, Int.ofNat_eq_natCast] at hc
        obtain ⟨hc1, hc2⟩ := hc
        have hc2 : v2.toNat < e.2.1 := Nat.le_of_ble_eq_true hc2
        obtain ⟨e1, e2⟩ := zyce_cel hH he
        obtain ⟨-, e3, -⟩ := zyce_ok he
        rw [e1, e2, if_neg (by omega), if_neg (by omega)]
        dsimp only
        rw [if_pos (hc1.imp id Or.inr), zyD_get hc2]
        rfl
    | [_], h => cases h
    | [], h => cases h
  replace h := zybc h
  rcases h with ⟨q, h⟩ | ⟨q, h⟩
  · have q := Nat.beq_eq.mp q
    subst q
    refine ⟨by decide, by decide, ?_⟩
    match st, h with
    | v :: rest, h =>
      replace h := zybs h
      obtain ⟨hb, h⟩ := h
      rw [Nat.beq_eq] at hb
      obtain ⟨v1, v2⟩ := v
      dsimp only at hb h
      subst hb
      show (if σ v2 = -1 then some ((0, ((zySc σ L).length : Int)) :: rest.map (zyV σ)) else if σ v2 = -2 then some ((0, 0) :: rest.map (zyV σ)) else if σ v2 ≤ -100 then (match txt stxt (σ v2) with
          | some l => some ((0, (l.length : Int)) :: rest.map (zyV σ))
          | none => none)
        else (match cel (H.map (zyD σ)) (σ v2) with
        | some (kd, l) => if 20 ≤ kd then some ((0, (l.length : Int)) :: rest.map (zyV σ)) else none
        | none => none)) = _
      replace h := zybc h
      rcases h with ⟨hm, h⟩ | ⟨hm, h⟩
      · rw [zyeq_iff] at hm
        subst hm
        replace h := zybs h
        obtain ⟨hL, h⟩ := h
        rw [Nat.ble_eq] at hL
        have := Option.some.inj h
        subst this
        rw [hH.1 (-1) (by decide), if_pos rfl, zySc_len, List.map_cons, zyV_mk, hH.1 (Int.ofNat L) (zyC_lt (by rw [Int.ofNat_eq_natCast]; omega))]
        rfl
      replace h := zybc h
      rcases h with ⟨hm, h⟩ | ⟨hm, h⟩
      · rw [zyeq_iff] at hm
        subst hm
        have := Option.some.inj h
        subst this
        rw [hH.1 (-2) (by decide), if_neg (by decide), if_pos rfl, List.map_cons, zyV_mk, zy0 hH]
      · cases he : zyce H v2 with
        | none => rw [he] at h; cases h
        | some e =>
        rw [he] at h
        dsimp only at h
        replace h := zybs h
        obtain ⟨hc, h⟩ := h
        have := Option.some.inj h
        subst this
        rw [Bool.and_eq_true, Nat.ble_eq, Nat.ble_eq] at hc
        obtain ⟨e1, e2⟩ := zyce_cel hH he
        obtain ⟨-, e3, -⟩ := zyce_ok he
        rw [e1, e2, if_neg (by omega), if_neg (by omega), if_neg (by omega)]
        dsimp only
        rw [if_pos hc.1, zyD_len, List.map_cons, zyV_mk, hH.1 (Int.ofNat e.2.1) (zyC_lt (by rw [Int.ofNat_eq_natCast]; omega))]
        rfl
    | [], h => cases h
  replace h := zybc h
  rcases h with ⟨q, h⟩ | ⟨q, h⟩
  · have q := Nat.beq_eq.mp q
    subst q
    refine ⟨by decide, by decide, ?_⟩
    match st, h with
    | v :: rest, h =>
      replace h := zybs h
      obtain ⟨hb, h⟩ := h
      rw [Nat.beq_eq] at hb
      obtain ⟨v1, v2⟩ := v
      dsimp only at hb h
      subst hb
      show (if σ v2 = 0 then some (zyV σ (2, v2) :: rest.map (zyV σ)) else (match cel (H.map (zyD σ)) (σ v2) with
        | some (kd, _) => if (kd : Int) = a then some (zyV σ (2, v2) :: rest.map (zyV σ)) else none
        | none => none)) = _
      replace h := zybc h
      rcases h with ⟨hm, h⟩ | ⟨hm, h⟩
      · rw [zyeq_iff] at hm
        subst hm
        have := Option.some.inj h
        subst this
        rw [if_pos (zy0 hH)]
        rfl
      · cases he : zyce H v2 with
        | none => rw [he] at h; cases h
        | some e =>
        rw [he] at h
        dsimp only at h
        replace h := zybs h
        obtain ⟨hc, h⟩ := h
        have := Option.some.inj h
        subst this
        rw [zyeq_iff, Int.ofNat_eq_natCast] at hc
        obtain ⟨e1, e2⟩ := zyce_cel hH he
        obtain ⟨-, e3, -⟩ := zyce_ok he
        rw [e1, e2, if_neg (by omega)]
        dsimp only
        rw [if_pos hc]
        rfl
    | [], h => cases h
  have hwd : ∀ l : List Vl, wds (l.map (zyV σ)) = wds l := by
    intro l
    unfold wds
    rw [List.map_map]
    rfl
  replace h := zybc h
  rcases h with ⟨q, h⟩ | ⟨q, h⟩
  · have q := Nat.beq_eq.mp q
    subst q
    refine ⟨by decide, by decide, ?_⟩
    match st, h with
    | v :: rest, h =>
      replace h := zybs h
      obtain ⟨hb, h⟩ := h
      have := Option.some.inj h
      subst this
      rw [Bool.and_eq_true, Bool.and_eq_true, Bool.and_eq_true, Nat.beq_eq, zyle_iff, zynot, Nat.ble_eq] at hb
      obtain ⟨v1, v2⟩ := v
      obtain ⟨hb1, ⟨hb2, hb3⟩, hb4⟩ := hb
      dsimp only at hb1 hb2 hb3
      subst hb1
      show (if 0 < σ v2 ∧ wds (rest.map (zyV σ)) ≤ 8 then some (rest.map (zyV σ)) else none) = _
      rw [hH.1 _ hb3, hwd, if_pos ⟨by omega, hb4⟩]
    | [], h => cases h
  replace h := zybs h
  obtain ⟨q, h⟩ := h
  have q := Nat.beq_eq.mp q
  subst q
  refine ⟨by decide, by decide, ?_⟩
  match st, h with
  | v :: u :: rest, h =>
    replace h := zybs h
    obtain ⟨hb, h⟩ := h
    have := Option.some.inj h
    subst this
    rw [Bool.and_eq_true, Bool.and_eq_true, Bool.and_eq_true, Bool.and_eq_true, Nat.beq_eq, Nat.beq_eq, zynot, zynot, Nat.ble_eq] at hb
    obtain ⟨v1, v2⟩ := v
    obtain ⟨u1, u2⟩ := u
    obtain ⟨⟨hb1, hb2⟩, ⟨hb3, hb4⟩, hb5⟩ := hb
    dsimp only at hb1 hb2 hb3 hb4
    subst hb1
    subst hb2
    show (if wds (rest.map (zyV σ)) ≤ 8 then some ((0, mth a (σ u2) (σ v2)) :: rest.map (zyV σ)) else none) = _
    have hm : zyC (mth a u2 v2) = false := by
      unfold mth
      split <;> split <;> assumption
    rw [hwd, if_pos hb5, hH.1 _ hb3, hH.1 _ hb4, List.map_cons, zyV_mk, hH.1 _ hm]
  | [_], h => cases h
  | [], h => cases h
