/-! values stay in their ranges -/
theorem shr_in {x : Int} (hx : in32 x) (y : Int) : in32 (i_shr x y) := by
  unfold i_shr
  unfold in32 at *
  have hp : (0 : Int) < 2 ^ (y % 32).toNat := Int.pow_pos (by decide)
  generalize (2 : Int) ^ (y % 32).toNat = d at hp
  rcases (show x < 0 ∨ 0 ≤ x by omega) with h0 | h0
  · have h1 : x / d < 0 := Int.ediv_neg_of_neg_of_pos h0 hp
    have h2 : x ≤ x / d := (Int.le_ediv_iff_mul_le hp).mpr (by
      have := Int.mul_le_mul_of_nonpos_left (show x ≤ 0 by omega) (show (1 : Int) ≤ d by omega)
      omega)
    omega
  · have h1 : 0 ≤ x / d := Int.ediv_nonneg h0 (by omega)
    have h2 : x / d ≤ x := Int.ediv_le_self d h0
    omega
theorem ibin_in {k : Nat} {x y z : Int} (hx : in32 x) (h : ibin k x y = some z) : in32 z := by
  unfold ibin i_and i_or i_xor i_shl i_ushr at h
  repeat' split at h
  all_goals first
    | (simp at h; done)
    | (have h := Option.some.inj h; subst h; first | exact w32_in _ | exact tmod_in hx | exact shr_in hx _)
theorem lbin_in {k : Nat} {x y z : Int} (h : lbin k x y = some z) : in64 z := by
  unfold lbin l_and l_or at h
  repeat' split at h
  all_goals first
    | (simp at h; done)
    | (have h := Option.some.inj h; subst h; exact w64_in _)
theorem okS_cons {n : Nat} {v : Vl} {st : List Vl} (hv : okV n v) (h : okS n st) : okS n (v :: st) := fun x hx => by
  rcases List.mem_cons.mp hx with rfl | hx
  · exact hv
  · exact h x hx
theorem okS_tl {n : Nat} {v : Vl} {st : List Vl} (h : okS n (v :: st)) : okS n st := fun x hx => h x (List.mem_cons_of_mem _ hx)
theorem okS_hd {n : Nat} {v : Vl} {st : List Vl} (h : okS n (v :: st)) : okV n v := h v List.mem_cons_self
theorem dcK_ok {own : String} {cc : ByteArray} {pc nx g0 g1 g2 n : Nat} {a b : Int} (hd : dcK own cc pc nx a b g0 g1 g2 = true) : okV n (b.toNat, a) := by
  unfold dcK at hd
  by_cases q0 : g0 = 0
  · simp only [if_pos q0, Bool.and_eq_true, decide_eq_true_eq, beq_iff_eq] at hd
    obtain ⟨⟨rfl, -, -⟩, hr⟩ := hd
    exact okV_i (by unfold in32; omega)
  rw [if_neg q0] at hd
  by_cases q1 : g0 = 1
  · simp only [if_pos q1, Bool.and_eq_true, decide_eq_true_eq, beq_iff_eq] at hd
    obtain ⟨⟨rfl, -, -⟩, hr⟩ := hd
    exact okV_i (by unfold in32; omega)
  rw [if_neg q1] at hd
  by_cases q2 : g0 = 2
  · simp only [if_pos q2, Bool.and_eq_true, decide_eq_true_eq, beq_iff_eq] at hd
    obtain ⟨⟨rfl, -, -⟩, hr⟩ := hd
    exact okV_i (by unfold in32; omega)
  rw [if_neg q2] at hd
  by_cases q3 : g0 = 3
  · simp only [if_pos q3, Bool.and_eq_true, decide_eq_true_eq, beq_iff_eq] at hd
    obtain ⟨⟨rfl, -, -⟩, -, hr⟩ := hd
    exact okV_i hr
  rw [if_neg q3] at hd
  by_cases q4 : g0 = 4
  · simp only [if_pos q4, Bool.and_eq_true, decide_eq_true_eq, beq_iff_eq] at hd
    obtain ⟨⟨rfl, -, -⟩, -, hr⟩ := hd
    exact okV_i hr
  rw [if_neg q4] at hd
  by_cases q5 : g0 = 5
  · simp only [if_pos q5, Bool.and_eq_true, decide_eq_true_eq, beq_iff_eq] at hd
    obtain ⟨⟨rfl, -, -⟩, hr⟩ := hd
    exact okV_l (by unfold in64; omega)
  rw [if_neg q5] at hd
  by_cases q6 : g0 = 6
  · simp only [if_pos q6, Bool.and_eq_true, decide_eq_true_eq, beq_iff_eq] at hd
    obtain ⟨⟨rfl, -, -⟩, -, hr⟩ := hd
    exact okV_l hr
  rw [if_neg q6] at hd
  by_cases q7 : g0 = 7
  · simp only [if_pos q7, Bool.and_eq_true, decide_eq_true_eq, beq_iff_eq] at hd
    obtain ⟨⟨rfl, -, -⟩, rfl⟩ := hd
    exact okV_r (by omega)
  rw [if_neg q7] at hd
  by_cases q8 : g0 = 8
  · rw [if_pos q8] at hd
    simp only [Bool.and_eq_true, decide_eq_true_eq, beq_iff_eq] at hd
    obtain ⟨⟨rfl, -, -⟩, rfl, -⟩ := hd
    exact okV_r (by omega)
  rw [if_neg q8] at hd
  by_cases q10 : g0 = 10
  · rw [if_pos q10] at hd
    simp only [Bool.and_eq_true, decide_eq_true_eq, beq_iff_eq] at hd
    obtain ⟨⟨rfl, -, -⟩, rfl, -⟩ := hd
    exact okV_r (by omega)
  rw [if_neg q10] at hd
  by_cases q9 : g0 = 9
  · simp only [if_pos q9, Bool.and_eq_true, decide_eq_true_eq, beq_iff_eq] at hd
    obtain ⟨⟨rfl, -, -⟩, ⟨rfl, -⟩, -⟩ := hd
    exact okV_r (by omega)
  · rw [if_neg q9] at hd
    cases hd
theorem pst_ok {own : String} {cc : ByteArray} {pc op nx n : Nat} {a b : Int} {os : List Int} {ls st ls' st' : List Vl} (hd : dcP own cc pc op nx a b os = true) (hp : pst op a b ls st = some (ls', st')) (hl : okL n ls) (hs : okS n st) : okL n ls' ∧ okS n st' ∧ ls'.length = ls.length := by
  unfold pst at hp
  unfold dcP at hd
  by_cases h0 : op = 0
  · rw [if_pos h0] at hp hd
    cases hp
    exact ⟨hl, okS_cons (dcK_ok hd) hs, rfl⟩
  rw [if_neg h0] at hp hd
  by_cases h1 : op = 1
  · rw [if_pos h1] at hp hd
    have hd2 := (dcV_of hd).2
    cases hv : ls[a.toNat]? with
    | none => rw [hv] at hp; cases hp
    | some v =>
      rw [hv] at hp
      dsimp only at hp
      by_cases hb2 : v.1 = b.toNat
      · rw [if_pos hb2] at hp
        cases hp
        have h9 : v.1 ≠ 9 := by omega
        exact ⟨hl, okS_cons ((hl v (List.mem_of_getElem? hv)).resolve_left h9) hs, rfl⟩
      · rw [if_neg hb2] at hp
        cases hp
  rw [if_neg h1] at hp hd
  by_cases h2 : op = 2
  · rw [if_pos h2] at hp
    cases st with
    | nil => cases hp
    | cons v r =>
      dsimp only at hp
      by_cases hb2 : v.1 = b.toNat ∧ a.toNat + (if v.1 = 1 then 1 else 0) < ls.length
      · rw [if_pos hb2] at hp
        cases hp
        exact ⟨okL_store hl (okS_hd hs), okS_tl hs, storeL_len _ _ _⟩
      · rw [if_neg hb2] at hp
        cases hp
  rw [if_neg h2] at hp
  by_cases h3 : op = 3
  · rw [if_pos h3] at hp
    cases hv : ls[a.toNat]? with
    | none => rw [hv] at hp; cases hp
    | some v =>
      rw [hv] at hp
      dsimp only at hp
      by_cases hv0 : v.1 = 0
      · rw [if_pos hv0] at hp
        cases hp
        exact ⟨okL_store hl (okV_i (w32_in _)), hs, storeL_len _ _ _⟩
      · rw [if_neg hv0] at hp
        cases hp
  rw [if_neg h3] at hp
  by_cases h4 : op = 4
  · rw [if_pos h4] at hp
    match st, hp, hs with
    | (0, y) :: (0, x) :: r, hp, hs =>
      change (match ibin a.toNat x y with | some z => some (ls, (0, z) :: r) | none => none) = some (ls', st') at hp
      cases hz : ibin a.toNat x y with
      | none => rw [hz] at hp; cases hp
      | some z =>
        rw [hz] at hp
        cases hp
        exact ⟨hl, okS_cons (okV_i (ibin_in (okS_hd (okS_tl hs)).int hz)) (okS_tl (okS_tl hs)), rfl⟩
  rw [if_neg h4] at hp
  by_cases h5 : op = 5
  · rw [if_pos h5] at hp
    match st, hp, hs with
    | (1, y) :: (1, x) :: r, hp, hs =>
      change (match lbin a.toNat x y with | some z => some (ls, (1, z) :: r) | none => none) = some (ls', st') at hp
      cases hz : lbin a.toNat x y with
      | none => rw [hz] at hp; cases hp
      | some z =>
        rw [hz] at hp
        cases hp
        exact ⟨hl, okS_cons (okV_l (lbin_in hz)) (okS_tl (okS_tl hs)), rfl⟩
  rw [if_neg h5] at hp
  by_cases h6 : op = 6
  · rw [if_pos h6] at hp
    match st, hp, hs with
    | (0, x) :: r, hp, hs =>
      cases hp
      exact ⟨hl, okS_cons (okV_i (w32_in _)) (okS_tl hs), rfl⟩
  rw [if_neg h6] at hp
  by_cases h7 : op = 7
  · rw [if_pos h7] at hp
    match st, hp, hs with
    | (0, x) :: r, hp, hs =>
      cases hp
      refine ⟨hl, okS_cons (okV_l ?_) (okS_tl hs), rfl⟩
      have := (okS_hd hs).int
      unfold in32 at this
      unfold in64
      omega
  rw [if_neg h7] at hp
  by_cases h8 : op = 8
  · rw [if_pos h8] at hp
    match st, hp, hs with
    | (1, x) :: r, hp, hs =>
      cases hp
      exact ⟨hl, okS_cons (okV_i (w32_in _)) (okS_tl hs), rfl⟩
  rw [if_neg h8] at hp
  by_cases h9 : op = 9
  · rw [if_pos h9] at hp
    match st, hp, hs with
    | (0, x) :: r, hp, hs =>
      cases hp
      exact ⟨hl, okS_cons (okV_i (by unfold in32 i_byt; omega)) (okS_tl hs), rfl⟩
  rw [if_neg h9] at hp
  by_cases h10 : op = 10
  · rw [if_pos h10] at hp
    match st, hp, hs with
    | (0, x) :: r, hp, hs =>
      cases hp
      exact ⟨hl, okS_cons (okV_i (by unfold in32 i_chr; omega)) (okS_tl hs), rfl⟩
  rw [if_neg h10] at hp
  by_cases h11 : op = 11
  · rw [if_pos h11] at hp
    match st, hp, hs with
    | (1, y) :: (1, x) :: r, hp, hs =>
      cases hp
      refine ⟨hl, okS_cons (okV_i ?_) (okS_tl (okS_tl hs)), rfl⟩
      unfold l_cmp in32
      repeat' split
      all_goals omega
  rw [if_neg h11] at hp
  by_cases h12 : op = 12
  · rw [if_pos h12] at hp
    match st, hp, hs with
    | v :: r, hp, hs =>
      dsimp only at hp
      by_cases hc : v.1 = 1
      · rw [if_pos hc] at hp
        cases hp
      · rw [if_neg hc] at hp
        cases hp
        exact ⟨hl, okS_cons (okS_hd hs) hs, rfl⟩
  rw [if_neg h12] at hp
  by_cases h13 : op = 13
  · rw [if_pos h13] at hp
    match st, hp, hs with
    | v :: u :: r, hp, hs =>
      dsimp only at hp
      by_cases hc : v.1 = 1 ∨ u.1 = 1
      · rw [if_pos hc] at hp
        cases hp
      · rw [if_neg hc] at hp
        cases hp
        exact ⟨hl, okS_cons (okS_hd hs) (okS_cons (okS_hd (okS_tl hs)) (okS_cons (okS_hd hs) (okS_tl (okS_tl hs)))), rfl⟩
  rw [if_neg h13] at hp
  by_cases h14 : op = 14
  · rw [if_pos h14] at hp
    match st, hp, hs with
    | v :: u :: r, hp, hs =>
      dsimp only at hp
      by_cases hc : v.1 = 1 ∨ u.1 = 1
      · rw [if_pos hc] at hp
        cases hp
      · rw [if_neg hc] at hp
        cases hp
        exact ⟨hl, okS_cons (okS_hd hs) (okS_cons (okS_hd (okS_tl hs)) hs), rfl⟩
  rw [if_neg h14] at hp
  by_cases h15 : op = 15
  · rw [if_pos h15] at hp
    match st, hp, hs with
    | v :: r, hp, hs =>
      dsimp only at hp
      by_cases hc : v.1 = 1
      · rw [if_pos hc] at hp
        cases hp
      · rw [if_neg hc] at hp
        cases hp
        exact ⟨hl, okS_tl hs, rfl⟩
  rw [if_neg h15] at hp
  cases hp
theorem bst_ok {op nx n t : Nat} {a b : Int} {os : List Int} {st st' : List Vl} (hp : bst op nx a b os st = some (t, st')) (hs : okS n st) : okS n st' := by
  unfold bst at hp
  by_cases q0 : op = 20
  · rw [if_pos q0] at hp
    match st, hp, hs with
    | (0, x) :: r, hp, hs => cases hp; exact okS_tl hs
  rw [if_neg q0] at hp
  by_cases q1 : op = 21
  · rw [if_pos q1] at hp
    match st, hp, hs with
    | (0, y) :: (0, x) :: r, hp, hs => cases hp; exact okS_tl (okS_tl hs)
  rw [if_neg q1] at hp
  by_cases q2 : op = 22
  · rw [if_pos q2] at hp
    match st, hp, hs with
    | (2, x) :: r, hp, hs =>
      change (if x = 0 ∨ 0 < x then some (if cnd b.toNat x 0 then a.toNat else nx, r) else none) = some (t, st') at hp
      by_cases hc : x = 0 ∨ 0 < x
      · rw [if_pos hc] at hp; cases hp; exact okS_tl hs
      · rw [if_neg hc] at hp; cases hp
  rw [if_neg q2] at hp
  by_cases q3 : op = 23
  · rw [if_pos q3] at hp
    match st, hp, hs with
    | (2, y) :: (2, x) :: r, hp, hs =>
      change (if (-2 ≤ x ∧ -2 ≤ y ∧ x ≠ -1 ∧ y ≠ -1) ∨ (x = -4 ∧ y = -4) then some (if cnd b.toNat x y then a.toNat else nx, r) else none) = some (t, st') at hp
      by_cases hc : (-2 ≤ x ∧ -2 ≤ y ∧ x ≠ -1 ∧ y ≠ -1) ∨ (x = -4 ∧ y = -4)
      · rw [if_pos hc] at hp; cases hp; exact okS_tl (okS_tl hs)
      · rw [if_neg hc] at hp; cases hp
  rw [if_neg q3] at hp
  by_cases q4 : op = 24
  · rw [if_pos q4] at hp
    cases hp
    exact hs
  rw [if_neg q4] at hp
  by_cases q5 : op = 25
  · rw [if_pos q5] at hp
    match st, hp, hs with
    | (0, x) :: r, hp, hs => cases hp; exact okS_tl hs
  rw [if_neg q5] at hp
  cases hp
theorem stxt_ok : ∀ l ∈ stxt, l.length ≤ 1000 ∧ ∀ x ∈ l, 0 ≤ x ∧ x ≤ 255 := by decide +kernel
theorem txt_ok {r : Int} {l : List Int} (h : txt stxt r = some l) : l.length ≤ 1000 ∧ ∀ x ∈ l, 0 ≤ x ∧ x ≤ 255 := by
  unfold txt at h
  by_cases h1 : r ≤ -100
  · rw [if_pos h1] at h
    exact stxt_ok l (List.mem_of_getElem? h)
  · rw [if_neg h1] at h
    cases h
theorem rst_ok {sc : List Int} {hp : Hp} {op : Nat} {a b : Int} {st st' : List Vl} (hsc : (∀ x ∈ sc, in32 x) ∧ sc.length ≤ 100000) (hw : wfH hp) (ha32 : op = 32 → 20 ≤ a) (h : rst sc stxt op a b hp st = some st') (hs : okS hp.length st) : okS hp.length st' := by
  unfold rst at h
  by_cases q0 : op = 30
  · rw [if_pos q0] at h
    match st, h, hs with
    | (2, r) :: rest, h, hs =>
      change (match cel hp r with
        | some (kd, l) => if (kd : Int) = a then (match l[b.toNat]? with
          | some x => some ((tg (kty kd b.toNat), x) :: rest)
          | none => none) else none
        | none => none) = some st' at h
      cases hc : cel hp r with
      | none => rw [hc] at h; cases h
      | some e =>
        obtain ⟨kd, l⟩ := e
        rw [hc] at h
        dsimp only at h
        by_cases hk : (kd : Int) = a
        · rw [if_pos hk] at h
          cases hv : l[b.toNat]? with
          | none => rw [hv] at h; cases h
          | some x =>
            rw [hv] at h
            have h := (Option.some.inj h).symm
            subst h
            exact okS_cons (okV_of ((hw.at (cel_of hc).2.1).2.2 _ _ hv)) (okS_tl hs)
        · rw [if_neg hk] at h
          cases h
  rw [if_neg q0] at h
  by_cases q1 : op = 31
  · rw [if_pos q1] at h
    match st, h, hs with
    | (2, r) :: rest, h, hs =>
      change (if r = -1 then some ((0, (sc.length : Int)) :: rest) else if r = -2 then some ((0, 0) :: rest) else if r ≤ -100 then (match txt stxt r with
          | some l => some ((0, (l.length : Int)) :: rest)
          | none => none)
        else (match cel hp r with
        | some (kd, l) => if 20 ≤ kd then some ((0, (l.length : Int)) :: rest) else none
        | none => none)) = some st' at h
      by_cases r1 : r = -1
      · rw [if_pos r1] at h
        have h := (Option.some.inj h).symm
        subst h
        exact okS_cons (okV_i (by have := hsc.2; unfold in32; omega)) (okS_tl hs)
      rw [if_neg r1] at h
      by_cases r2 : r = -2
      · rw [if_pos r2] at h
        have h := (Option.some.inj h).symm
        subst h
        exact okS_cons (okV_i (by unfold in32; omega)) (okS_tl hs)
      rw [if_neg r2] at h
      by_cases r3 : r ≤ -100
      · rw [if_pos r3] at h
        cases hc : txt stxt r with
        | none => rw [hc] at h; cases h
        | some l =>
          rw [hc] at h
          have h := (Option.some.inj h).symm
          subst h
          exact okS_cons (okV_i (by have := (txt_ok hc).1; unfold in32; omega)) (okS_tl hs)
      rw [if_neg r3] at h
      cases hc : cel hp r with
      | none => rw [hc] at h; cases h
      | some e =>
        obtain ⟨kd, l⟩ := e
        rw [hc] at h
        dsimp only at h
        by_cases hk : 20 ≤ kd
        · rw [if_pos hk] at h
          have h := (Option.some.inj h).symm
          subst h
          have hC := (hw.at (cel_of hc).2.1).2.1 (show 14 ≤ kd by omega)
          exact okS_cons (okV_i (by have := hC.2.2; dsimp only at this; unfold in32; omega)) (okS_tl hs)
        · rw [if_neg hk] at h
          cases h
  rw [if_neg q1] at h
  by_cases q2 : op = 32
  · rw [if_pos q2] at h
    match st, h, hs with
    | (0, i) :: (2, r) :: rest, h, hs =>
      change (if i < 0 then none else if r = -1 then (if a = 20 then (match sc[i.toNat]? with
        | some x => some ((0, x) :: rest)
        | none => none) else none) else if r ≤ -100 then (if a = 21 then (match txt stxt r with
        | some l => (match l[i.toNat]? with
          | some x => some ((0, x) :: rest)
          | none => none)
        | none => none) else none)
      else (match cel hp r with
      | some (kd, l) => if (kd : Int) = a ∨ (a = 21 ∧ kd = 22) ∨ (a = 24 ∧ 24 ≤ kd) then (match l[i.toNat]? with
        | some x => some ((tg (kty kd 0), x) :: rest)
        | none => none) else none
      | none => none)) = some st' at h
      have ht := okS_tl (okS_tl hs)
      by_cases i0 : i < 0
      · rw [if_pos i0] at h
        cases h
      rw [if_neg i0] at h
      by_cases r1 : r = -1
      · rw [if_pos r1] at h
        by_cases ha : a = 20
        · rw [if_pos ha] at h
          cases hv : sc[i.toNat]? with
          | none => rw [hv] at h; cases h
          | some x =>
            rw [hv] at h
            have h := (Option.some.inj h).symm
            subst h
            exact okS_cons (okV_i (hsc.1 x (List.mem_of_getElem? hv))) ht
        · rw [if_neg ha] at h
          cases h
      rw [if_neg r1] at h
      by_cases r3 : r ≤ -100
      · rw [if_pos r3] at h
        by_cases ha : a = 21
        · rw [if_pos ha] at h
          cases hc : txt stxt r with
          | none => rw [hc] at h; cases h
          | some l =>
            rw [hc] at h
            dsimp only at h
            cases hv : l[i.toNat]? with
            | none => rw [hv] at h; cases h
            | some x =>
              rw [hv] at h
              have h := (Option.some.inj h).symm
              subst h
              exact okS_cons (okV_i (by have := (txt_ok hc).2 x (List.mem_of_getElem? hv); unfold in32; omega)) ht
        · rw [if_neg ha] at h
          cases h
      rw [if_neg r3] at h
      cases hc : cel hp r with
      | none => rw [hc] at h; cases h
      | some e =>
        obtain ⟨kd, l⟩ := e
        rw [hc] at h
        dsimp only at h
        by_cases hk : (kd : Int) = a ∨ (a = 21 ∧ kd = 22) ∨ (a = 24 ∧ 24 ≤ kd)
        · rw [if_pos hk] at h
          cases hv : l[i.toNat]? with
          | none => rw [hv] at h; cases h
          | some x =>
            rw [hv] at h
            have h := (Option.some.inj h).symm
            subst h
            have h3 := (hw.at (cel_of hc).2.1).2.2 _ _ hv
            by_cases h14 : 14 ≤ kd
            · have e0 := kty_arr h14 i.toNat 0
              dsimp only at h3
              rw [← e0] at h3
              exact okS_cons (okV_of h3) ht
            · have := ha32 q2
              omega
        · rw [if_neg hk] at h
          cases h
  rw [if_neg q2] at h
  by_cases q3 : op = 33
  · rw [if_pos q3] at h
    match st, h, hs with
    | (2, r) :: rest, h, hs =>
      change (if r ≤ -10 ∧ -33 < r then (if b = 0 then some ((2, r - 90) :: rest) else some ((0, 0) :: rest)) else none) = some st' at h
      by_cases hr : r ≤ -10 ∧ -33 < r
      · rw [if_pos hr] at h
        by_cases b0 : b = 0
        · rw [if_pos b0] at h
          have h := (Option.some.inj h).symm
          subst h
          exact okS_cons (okV_r (by omega)) (okS_tl hs)
        · rw [if_neg b0] at h
          have h := (Option.some.inj h).symm
          subst h
          exact okS_cons (okV_i (by unfold in32; omega)) (okS_tl hs)
      · rw [if_neg hr] at h
        cases h
  rw [if_neg q3] at h
  by_cases q4 : op = 34
  · rw [if_pos q4] at h
    match st, h, hs with
    | (2, r) :: rest, h, hs =>
      change (if r = 0 then some ((2, r) :: rest) else (match cel hp r with
        | some (kd, _) => if (kd : Int) = a then some ((2, r) :: rest) else none
        | none => none)) = some st' at h
      by_cases r0 : r = 0
      · rw [if_pos r0] at h
        have h := (Option.some.inj h).symm
        subst h
        exact hs
      rw [if_neg r0] at h
      cases hc : cel hp r with
      | none => rw [hc] at h; cases h
      | some e =>
        obtain ⟨kd, l⟩ := e
        rw [hc] at h
        dsimp only at h
        by_cases hk : (kd : Int) = a
        · rw [if_pos hk] at h
          have h := (Option.some.inj h).symm
          subst h
          exact hs
        · rw [if_neg hk] at h
          cases h
  rw [if_neg q4] at h
  by_cases q5 : op = 35
  · rw [if_pos q5] at h
    match st, h, hs with
    | (2, r) :: rest, h, hs =>
      change (if 0 < r ∧ wds rest ≤ 8 then some rest else none) = some st' at h
      by_cases r0 : 0 < r ∧ wds rest ≤ 8
      · rw [if_pos r0] at h
        have h := (Option.some.inj h).symm
        subst h
        exact okS_tl hs
      · rw [if_neg r0] at h
        cases h
  rw [if_neg q5] at h
  by_cases q6 : op = 36
  · rw [if_pos q6] at h
    match st, h, hs with
    | (0, y) :: (0, x) :: rest, h, hs =>
      change (if wds rest ≤ 8 then some ((0, mth a x y) :: rest) else none) = some st' at h
      by_cases hwd : wds rest ≤ 8
      · rw [if_pos hwd] at h
        have h := (Option.some.inj h).symm
        subst h
        exact okS_cons (okV_i (mth_in (hs (0, x) (by simp)).int (hs (0, y) (by simp)).int)) (okS_tl (okS_tl hs))
      · rw [if_neg hwd] at h
        cases h
  rw [if_neg q6] at h
  by_cases q7 : op = 37
  · rw [if_pos q7] at h
    match st, h, hs with
    | (1, y) :: (1, x) :: rest, h, hs =>
      change (if wds rest ≤ 8 then some ((1, mth a x y) :: rest) else none) = some st' at h
      by_cases hwd : wds rest ≤ 8
      · rw [if_pos hwd] at h
        have h := (Option.some.inj h).symm
        subst h
        exact okS_cons (okV_l (mth_in64 (hs (1, x) (by simp)).long (hs (1, y) (by simp)).long)) (okS_tl (okS_tl hs))
      · rw [if_neg hwd] at h
        cases h
  rw [if_neg q7] at h
  by_cases q8 : op = 38
  · rw [if_pos q8] at h
    have h := (Option.some.inj h).symm
    subst h
    by_cases h0 : a = 0
    · rw [if_pos h0]
      exact okS_cons (okV_i (by unfold in32; omega)) hs
    · rw [if_neg h0]
      exact okS_cons (okV_r (by omega)) hs
  rw [if_neg q8] at h
  by_cases q9 : op = 39
  · rw [if_pos q9] at h
    by_cases h0 : a = 0
    · rw [if_pos h0] at h
      have h := (Option.some.inj h).symm
      subst h
      exact okS_cons (okV_r (by omega)) hs
    · rw [if_neg h0] at h
      match st, h, hs with
      | (2, r) :: rest, h, hs =>
        change (match cel hp r with
          | some (kd, _) => if kd = 25 ∧ wds rest ≤ 8 then some ((2, -4) :: rest) else none
          | none => none) = some st' at h
        cases hc : cel hp r with
        | none => rw [hc] at h; cases h
        | some e =>
          obtain ⟨kd, l⟩ := e
          rw [hc] at h
          dsimp only at h
          by_cases hk : kd = 25 ∧ wds rest ≤ 8
          · rw [if_pos hk] at h
            have h := (Option.some.inj h).symm
            subst h
            exact okS_cons (okV_r (by omega)) (okS_tl hs)
          · rw [if_neg hk] at h
            cases h
  rw [if_neg q9] at h
  cases h
theorem dcH_32 {own : String} {cc : ByteArray} {pc op nx : Nat} {a b : Int} {os : List Int} (hd : dcH own cc pc op nx a b os = true) : op = 32 → 20 ≤ a := by
  rintro rfl
  unfold dcH at hd
  rw [if_neg (by decide), if_neg (by decide), if_pos rfl] at hd
  by_cases a0 : a = 20
  · omega
  rw [if_neg a0] at hd
  by_cases a1 : a = 21
  · omega
  rw [if_neg a1] at hd
  by_cases a3 : a = 23
  · omega
  rw [if_neg a3, Bool.and_eq_true, beq_iff_eq] at hd
  omega
/-- heaps grow; the stack behind a writing instruction is in its ranges -/
theorem wst_ok {hp hp' : Hp} {op : Nat} {a b : Int} {st st' : List Vl} (h : wst op a b hp st = some (hp', st')) : (okS hp.length st → okS hp'.length st') ∧ hp.length ≤ hp'.length ∧ sz hp ≤ sz hp' := by
  unfold wst at h
  have nw : ∀ {P : Prop} {es : Hp} {rest : List Vl}, 1 ≤ es.length → (P → okS hp.length rest) → (P → okS (hp ++ es).length ((2, ((hp.length + 1 : Nat) : Int)) :: rest)) ∧ hp.length ≤ (hp ++ es).length ∧ sz hp ≤ sz (hp ++ es) := by
    intro P es rest he hr
    have hl : (hp ++ es).length = hp.length + es.length := List.length_append
    refine ⟨fun hs => okS_cons (okV_r (by omega)) ((hr hs).mono (by omega)), by omega, by rw [sz_app]; omega⟩
  by_cases q0 : op = 40
  · rw [if_pos q0] at h
    match st, h with
    | v :: (2, r) :: rest, h =>
      change (match cel hp r with
        | some (kd, l) => if (kd : Int) = a ∧ b.toNat < l.length then (match keptF (kty kd b.toNat) v with
          | some x => some (hp.set (r.toNat - 1) (kd, l.set b.toNat x), rest)
          | none => none) else none
        | none => none) = some (hp', st') at h
      cases hc : cel hp r with
      | none => rw [hc] at h; cases h
      | some q =>
        obtain ⟨kd, lc⟩ := q
        rw [hc] at h
        dsimp only at h
        by_cases hk : (kd : Int) = a ∧ b.toNat < lc.length
        · rw [if_pos hk] at h
          cases hkf : keptF (kty kd b.toNat) v with
          | none => rw [hkf] at h; cases h
          | some x =>
            rw [hkf] at h
            have h := Prod.ext_iff.mp (Option.some.inj h)
            obtain ⟨e1, e2⟩ := h
            dsimp only at e1 e2
            subst e1 e2
            rw [List.length_set, sz_set (cel_of hc).2.1 (by simp)]
            exact ⟨fun hs => okS_tl (okS_tl hs), Nat.le_refl _, Nat.le_refl _⟩
        · rw [if_neg hk] at h
          cases h
  rw [if_neg q0] at h
  by_cases q1 : op = 41
  · rw [if_pos q1] at h
    match st, h with
    | v :: (0, i) :: (2, r) :: rest, h =>
      change (match cel hp r with
        | some (kd, l) => if 0 ≤ i ∧ i.toNat < l.length ∧ ((kd : Int) = a ∨ (a = 21 ∧ kd = 22) ∨ (a = 24 ∧ 24 ≤ kd)) then (match kept hp kd v with
          | some x => some (hp.set (r.toNat - 1) (kd, l.set i.toNat x), rest)
          | none => none) else none
        | none => none) = some (hp', st') at h
      cases hc : cel hp r with
      | none => rw [hc] at h; cases h
      | some q =>
        obtain ⟨kd, lc⟩ := q
        rw [hc] at h
        dsimp only at h
        by_cases hk : 0 ≤ i ∧ i.toNat < lc.length ∧ ((kd : Int) = a ∨ (a = 21 ∧ kd = 22) ∨ (a = 24 ∧ 24 ≤ kd))
        · rw [if_pos hk] at h
          cases hkf : kept hp kd v with
          | none => rw [hkf] at h; cases h
          | some x =>
            rw [hkf] at h
            have h := Prod.ext_iff.mp (Option.some.inj h)
            obtain ⟨e1, e2⟩ := h
            dsimp only at e1 e2
            subst e1 e2
            rw [List.length_set, sz_set (cel_of hc).2.1 (by simp)]
            exact ⟨fun hs => okS_tl (okS_tl (okS_tl hs)), Nat.le_refl _, Nat.le_refl _⟩
        · rw [if_neg hk] at h
          cases h
  rw [if_neg q1] at h
  by_cases q2 : op = 42
  · rw [if_pos q2] at h
    have h := Prod.ext_iff.mp (Option.some.inj h)
    obtain ⟨e1, e2⟩ := h
    dsimp only at e1 e2
    subst e1 e2
    exact nw (by simp) (fun hs => hs)
  rw [if_neg q2] at h
  by_cases q3 : op = 43
  · rw [if_pos q3] at h
    match st, h with
    | (0, n) :: rest, h =>
      change (if 0 ≤ n ∧ n ≤ 100000 then some (hp ++ [(a.toNat, List.replicate n.toNat 0)], (2, ((hp.length + 1 : Nat) : Int)) :: rest) else none) = some (hp', st') at h
      by_cases hn : 0 ≤ n ∧ n ≤ 100000
      · rw [if_pos hn] at h
        have h := Prod.ext_iff.mp (Option.some.inj h)
        obtain ⟨e1, e2⟩ := h
        dsimp only at e1 e2
        subst e1 e2
        exact nw (by simp) (fun hs => okS_tl hs)
      · rw [if_neg hn] at h
        cases h
  rw [if_neg q3] at h
  by_cases q4 : op = 44
  · rw [if_pos q4] at h
    match st, h with
    | (0, n) :: rest, h =>
      change (if 0 ≤ n ∧ n ≤ 100000 then some (hp ++ [(a.toNat, List.replicate n.toNat 0)], (2, ((hp.length + 1 : Nat) : Int)) :: rest) else none) = some (hp', st') at h
      by_cases hn : 0 ≤ n ∧ n ≤ 100000
      · rw [if_pos hn] at h
        have h := Prod.ext_iff.mp (Option.some.inj h)
        obtain ⟨e1, e2⟩ := h
        dsimp only at e1 e2
        subst e1 e2
        exact nw (by simp) (fun hs => okS_tl hs)
      · rw [if_neg hn] at h
        cases h
  rw [if_neg q4] at h
  by_cases q5 : op = 45
  · rw [if_pos q5] at h
    match st, h with
    | (0, k) :: (0, n) :: rest, h =>
      change (if 0 ≤ n ∧ n ≤ 1000 ∧ 0 ≤ k ∧ k ≤ 1000 then some (hp ++ (a.toNat, refsFrom (hp.length + 1) n.toNat 1) :: List.replicate n.toNat (b.toNat, List.replicate k.toNat 0), (2, ((hp.length + 1 : Nat) : Int)) :: rest) else none) = some (hp', st') at h
      by_cases hn : 0 ≤ n ∧ n ≤ 1000 ∧ 0 ≤ k ∧ k ≤ 1000
      · rw [if_pos hn] at h
        have h := Prod.ext_iff.mp (Option.some.inj h)
        obtain ⟨e1, e2⟩ := h
        dsimp only at e1 e2
        subst e1 e2
        exact nw (by simp) (fun hs => okS_tl (okS_tl hs))
      · rw [if_neg hn] at h
        cases h
  rw [if_neg q5] at h
  by_cases q6 : op = 46
  · rw [if_pos q6] at h
    match st, h with
    | (0, q) :: (0, k) :: (0, n) :: rest, h =>
      change (if 0 ≤ n ∧ n ≤ 1000 ∧ 0 ≤ k ∧ k ≤ 1000 ∧ 0 ≤ q ∧ q ≤ 1000 then some (hp ++ (a.toNat, refsFrom (hp.length + 1) n.toNat (k.toNat + 1)) :: (List.range n.toNat).flatMap (fun i => (b.toNat, refsFrom (hp.length + 2 + (k.toNat + 1) * i) k.toNat 1) :: List.replicate k.toNat (20, List.replicate q.toNat 0)), (2, ((hp.length + 1 : Nat) : Int)) :: rest) else none) = some (hp', st') at h
      by_cases hn : 0 ≤ n ∧ n ≤ 1000 ∧ 0 ≤ k ∧ k ≤ 1000 ∧ 0 ≤ q ∧ q ≤ 1000
      · rw [if_pos hn] at h
        have h := Prod.ext_iff.mp (Option.some.inj h)
        obtain ⟨e1, e2⟩ := h
        dsimp only at e1 e2
        subst e1 e2
        exact nw (by simp) (fun hs => okS_tl (okS_tl (okS_tl hs)))
      · rw [if_neg hn] at h
        cases h
  rw [if_neg q6] at h
  by_cases q7 : op = 47
  · rw [if_pos q7] at h
    match st, h with
    | (0, n) :: (0, dp) :: (2, d) :: (0, sp) :: (2, r) :: rest, h =>
      change (match cel hp r, cel hp d with
        | some (ks, ls), some (kd, ld) => if ((ks = 20 ∧ kd = 20) ∨ (ks = 25 ∧ kd = 25 ∧ oneK hp ls sp.toNat n.toNat = true)) ∧ wds rest ≤ 8 ∧ 0 ≤ n ∧ 0 ≤ dp ∧ 0 ≤ sp ∧ sp + n ≤ ls.length ∧ dp + n ≤ ld.length then
            some (hp.set (d.toNat - 1) (kd, cpyL ls ld sp.toNat dp.toNat n.toNat), rest) else none
        | _, _ => none) = some (hp', st') at h
      cases hcs : cel hp r with
      | none => rw [hcs] at h; cases h
      | some qs =>
        cases hcd : cel hp d with
        | none => rw [hcs, hcd] at h; cases h
        | some qd =>
          obtain ⟨ks, lsrc⟩ := qs
          obtain ⟨kd, ld⟩ := qd
          rw [hcs, hcd] at h
          dsimp only at h
          by_cases hk : ((ks = 20 ∧ kd = 20) ∨ (ks = 25 ∧ kd = 25 ∧ oneK hp lsrc sp.toNat n.toNat = true)) ∧ wds rest ≤ 8 ∧ 0 ≤ n ∧ 0 ≤ dp ∧ 0 ≤ sp ∧ sp + n ≤ lsrc.length ∧ dp + n ≤ ld.length
          · rw [if_pos hk] at h
            obtain ⟨-, k1, k2, k3, k4, k5, k6⟩ := hk
            have h := Prod.ext_iff.mp (Option.some.inj h)
            obtain ⟨e1, e2⟩ := h
            dsimp only at e1 e2
            subst e1 e2
            rw [List.length_set, sz_set (cel_of hcd).2.1 (cpyL_len (by omega) (by omega))]
            exact ⟨fun hs => okS_tl (okS_tl (okS_tl (okS_tl (okS_tl hs)))), Nat.le_refl _, Nat.le_refl _⟩
          · rw [if_neg hk] at h
            cases h
  rw [if_neg q7] at h
  by_cases q8 : op = 48
  · rw [if_pos q8] at h
    match st, h with
    | (2, r) :: rest, h =>
      change (match cel hp r with
        | some (kd, l) => if kd = 20 ∧ wds rest ≤ 8 then some (hp ++ [(kd, l)], (2, ((hp.length + 1 : Nat) : Int)) :: rest) else none
        | none => none) = some (hp', st') at h
      cases hc : cel hp r with
      | none => rw [hc] at h; cases h
      | some q =>
        obtain ⟨kd, lc⟩ := q
        rw [hc] at h
        dsimp only at h
        by_cases hk : kd = 20 ∧ wds rest ≤ 8
        · rw [if_pos hk] at h
          have h := Prod.ext_iff.mp (Option.some.inj h)
          obtain ⟨e1, e2⟩ := h
          dsimp only at e1 e2
          subst e1 e2
          exact nw (by simp) (fun hs => okS_tl hs)
        · rw [if_neg hk] at h
          cases h
  rw [if_neg q8] at h
  cases h
