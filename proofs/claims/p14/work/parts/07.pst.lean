/-! an instruction that doesn't see the heap: the machine's step -/
theorem ibin_row {p : Program} {l : Launch} {e : Env} {R : Room} {s : State} {m : MethodId} {args : Array Value} {below : List Frame} {meth : Method} {c : Code} {H : Heap} {locs : List Loc} {cells slots : Nat} {Q : State → Prop} {cc : ByteArray} {arr : Array Slot} {pc q : Nat} {x y z : Int} {rest : List Value}
    (hx : p.tables.exec = Jvm.exec) (hb : c.code = cc) (hd : decode cc pc = .ok (ib q, 1)) (hz : ibin q x y = some z) (hx2 : in32 x) (hy : in32 y)
    (k : W p l e R s m args below meth c H locs cells slots Q (F0 m (pc + 1) arr (.int (Int32.ofInt z) :: rest))) : W p l e R s m args below meth c H locs cells slots Q (F0 m pc arr (.int (Int32.ofInt y) :: .int (Int32.ofInt x) :: rest)) := by
  unfold ibin at hz
  unfold ib at hd
  by_cases q0 : q = 0
  · rw [if_pos q0] at hz hd
    have hz := Option.some.inj hz
    subst hz
    exact lv_iadd hx hb hd (by rw [n_add]; exact k)
  rw [if_neg q0] at hz hd
  by_cases q1 : q = 1
  · rw [if_pos q1] at hz hd
    have hz := Option.some.inj hz
    subst hz
    exact lv_isub hx hb hd (by rw [n_sub]; exact k)
  rw [if_neg q1] at hz hd
  by_cases q2 : q = 2
  · rw [if_pos q2] at hz hd
    have hz := Option.some.inj hz
    subst hz
    exact lv_imul hx hb hd (by rw [n_mul]; exact k)
  rw [if_neg q2] at hz hd
  by_cases q3 : q = 3
  · rw [if_pos q3] at hz hd
    by_cases hy0 : y = 0
    · rw [if_pos hy0] at hz
      cases hz
    · rw [if_neg hy0] at hz
      have hz := Option.some.inj hz
      subst hz
      exact lv_idiv hx hb hd (n_ne0 hy hy0) (by rw [n_div hx2 hy]; exact k)
  rw [if_neg q3] at hz hd
  by_cases q4 : q = 4
  · rw [if_pos q4] at hz hd
    by_cases hy0 : y = 0
    · rw [if_pos hy0] at hz
      cases hz
    · rw [if_neg hy0] at hz
      have hz := Option.some.inj hz
      subst hz
      exact lv_irem hx hb hd (n_ne0 hy hy0) (by rw [n_rem hx2 hy]; exact k)
  rw [if_neg q4] at hz hd
  by_cases q5 : q = 5
  · rw [if_pos q5] at hz hd
    have hz := Option.some.inj hz
    subst hz
    exact lv_iand hx hb hd (by rw [n_and]; exact k)
  rw [if_neg q5] at hz hd
  by_cases q6 : q = 6
  · rw [if_pos q6] at hz hd
    have hz := Option.some.inj hz
    subst hz
    exact lv_ior hx hb hd (by rw [n_or]; exact k)
  rw [if_neg q6] at hz hd
  by_cases q7 : q = 7
  · rw [if_pos q7] at hz hd
    have hz := Option.some.inj hz
    subst hz
    exact lv_ixor hx hb hd (by rw [n_xor]; exact k)
  rw [if_neg q7] at hz hd
  by_cases q8 : q = 8
  · rw [if_pos q8] at hz hd
    have hz := Option.some.inj hz
    subst hz
    exact lv_ishl hx hb hd (by rw [n_shl]; exact k)
  rw [if_neg q8] at hz hd
  by_cases q9 : q = 9
  · rw [if_pos q9] at hz hd
    have hz := Option.some.inj hz
    subst hz
    exact lv_ishr hx hb hd (by rw [n_shr hx2]; exact k)
  rw [if_neg q9] at hz hd
  by_cases q10 : q = 10
  · rw [if_pos q10] at hz
    have hz := Option.some.inj hz
    subst hz
    exact lv_iushr hx hb hd (n_ushr x y) k
  rw [if_neg q10] at hz
  cases hz
def i_end : Nat := 0
theorem lbin_row {p : Program} {l : Launch} {e : Env} {R : Room} {s : State} {m : MethodId} {args : Array Value} {below : List Frame} {meth : Method} {c : Code} {H : Heap} {locs : List Loc} {cells slots : Nat} {Q : State → Prop} {cc : ByteArray} {arr : Array Slot} {pc q : Nat} {x y z : Int} {rest : List Value}
    (hx : p.tables.exec = Jvm.exec) (hb : c.code = cc) (hd : decode cc pc = .ok (lb q, 1)) (hz : lbin q x y = some z) (hx2 : in64 x) (hy : in64 y)
    (k : W p l e R s m args below meth c H locs cells slots Q (F0 m (pc + 1) arr (.long (Int64.ofInt z) :: rest))) : W p l e R s m args below meth c H locs cells slots Q (F0 m pc arr (.long (Int64.ofInt y) :: .long (Int64.ofInt x) :: rest)) := by
  unfold lbin at hz
  unfold lb at hd
  by_cases q0 : q = 0
  · rw [if_pos q0] at hz hd
    have hz := Option.some.inj hz
    subst hz
    exact lv_ladd hx hb hd (by rw [m_add]; exact k)
  rw [if_neg q0] at hz hd
  by_cases q1 : q = 1
  · rw [if_pos q1] at hz hd
    have hz := Option.some.inj hz
    subst hz
    exact lv_lsub hx hb hd (by rw [m_sub]; exact k)
  rw [if_neg q1] at hz hd
  by_cases q2 : q = 2
  · rw [if_pos q2] at hz hd
    have hz := Option.some.inj hz
    subst hz
    exact lv_lmul hx hb hd (by rw [m_mul]; exact k)
  rw [if_neg q2] at hz hd
  by_cases q3 : q = 3
  · rw [if_pos q3] at hz hd
    by_cases hy0 : y = 0
    · rw [if_pos hy0] at hz
      cases hz
    · rw [if_neg hy0] at hz
      have hz := Option.some.inj hz
      subst hz
      exact lv_ldiv hx hb hd (m_ne0 hy hy0) (by rw [m_div hx2 hy]; exact k)
  rw [if_neg q3] at hz hd
  by_cases q5 : q = 5
  · rw [if_pos q5] at hz hd
    have hz := Option.some.inj hz
    subst hz
    exact lv_land hx hb hd (by rw [m_and]; exact k)
  rw [if_neg q5] at hz hd
  by_cases q6 : q = 6
  · rw [if_pos q6] at hz
    have hz := Option.some.inj hz
    subst hz
    exact lv_lor hx hb hd (by rw [m_or]; exact k)
  rw [if_neg q6] at hz
  cases hz
section XL
variable {p : Program} {l : Launch} {e : Env} {R : Room} {s : State} {m : MethodId} {args : Array Value} {below : List Frame} {meth : Method} {c : Code} {H : Heap} {locs : List Loc} {cells slots : Nat} {Q : State → Prop}
variable {cc : ByteArray} {pc : Nat} {ls : Array Slot} {rest : List Value}
/-- ldc_w of a String constant -/
theorem xl_ldcwS (hexec : p.tables.exec = Jvm.exec) (hb : c.code = cc) {own tx : String} {index q : Nat} (hown : s.vm.findClass own = some m.cls) (hZ : vk_R own index tx q s) (hdg : decode cc pc = .ok (.ldc_w index, 3))
    (k : W p l e R s m args below meth c H locs cells slots Q (F0 m (pc + 3) ls (.ref q :: rest))) : W p l e R s m args below meth c H locs cells slots Q (F0 m pc ls rest) := by
  intro T hT X
  obtain ⟨t, a1, b1⟩ := k T hT X
  obtain ⟨k, cf, i, a', hk, hcf, hcp, -, hr, hev'⟩ := Cond.stringRef_spec hown hZ.1
  cases hZ.2.symm.trans hev'
  obtain ⟨k', hk', he⟩ := X.warmed.alike.2.2 _ _ hk
  have hr' : k'.resolved[index]? = some (some (.string q)) := by
    rcases X.warmed.entry hk hk' index with h | ⟨h, -⟩
    · rw [h]; exact hr
    · rw [hr] at h; cases h
  have hdg' : decode c.code (F0 m pc ls rest).pc = .ok (.ldc_w index, 3) := by rw [hb]; exact hdg
  refine ⟨t, ?_, b1⟩
  jvm_step X.here [hexec, hdg', ldc_w.wp_string (e := e) (s := T) (f := F0 m pc ls rest) X.here.top hk' (by rw [he]; exact hcf) hcp hr']
  exact a1
end XL
section PS
variable {p : Program} {l : Launch} {e : Env} {R : Room} {s : State} {m : MethodId} {args : Array Value} {below : List Frame} {meth : Method} {c : Code} {H : Heap} {locs : List Loc} {cells slots : Nat} {Q : State → Prop}
variable {cc : ByteArray} {nL : Nat} {own : String} {base : Nat} {rf : Int → Option Nat} {sc : List Int} {ls st ls' st' : List Vl} {arr : Array Slot} {n : Nat}
theorem snd_const (X : Cx p s m args c cc nL own) (hS : Stt base rf sc s) (hSS : va_S (A0 base) s.heap H locs) {pc nx g0 g1 g2 : Nat} {a b : Int} (hd : dcK own cc pc nx a b g0 g1 g2 = true)
    {rest : List Value} (k : W p l e R s m args below meth c H locs cells slots Q (F0 m nx arr (toV rf (b.toNat, a) :: rest))) : W p l e R s m args below meth c H locs cells slots Q (F0 m pc arr rest) := by
  obtain ⟨hx, hb, -, hown, hts⟩ := X
  unfold dcK at hd
  by_cases q0 : g0 = 0
  · simp only [if_pos q0, Bool.and_eq_true, decide_eq_true_eq, beq_iff_eq] at hd
    obtain ⟨⟨rfl, rfl, hq⟩, hr⟩ := hd
    exact lv_iconst hx hb (dq_of hq) rfl k
  rw [if_neg q0] at hd
  by_cases q1 : g0 = 1
  · simp only [if_pos q1, Bool.and_eq_true, decide_eq_true_eq, beq_iff_eq] at hd
    obtain ⟨⟨rfl, rfl, hq⟩, -, -, hr⟩ := hd
    exact lv_bipush hx hb (dq_of hq) hr k
  rw [if_neg q1] at hd
  by_cases q2 : g0 = 2
  · simp only [if_pos q2, Bool.and_eq_true, decide_eq_true_eq, beq_iff_eq] at hd
    obtain ⟨⟨rfl, rfl, hq⟩, -, -, hr⟩ := hd
    exact lv_sipush hx hb (dq_of hq) hr k
  rw [if_neg q2] at hd
  by_cases q3 : g0 = 3
  · simp only [if_pos q3, Bool.and_eq_true, decide_eq_true_eq, beq_iff_eq] at hd
    obtain ⟨⟨rfl, rfl, hq⟩, hw, -⟩ := hd
    exact lv_ldc hx hb hown (hts _ (wq_of hw)) (dq_of hq) k
  rw [if_neg q3] at hd
  by_cases q4 : g0 = 4
  · simp only [if_pos q4, Bool.and_eq_true, decide_eq_true_eq, beq_iff_eq] at hd
    obtain ⟨⟨rfl, rfl, hq⟩, hw, -⟩ := hd
    exact lv_ldcw hx hb hown (hts _ (wq_of hw)) (dq_of hq) k
  rw [if_neg q4] at hd
  by_cases q5 : g0 = 5
  · simp only [if_pos q5, Bool.and_eq_true, decide_eq_true_eq, beq_iff_eq] at hd
    obtain ⟨⟨rfl, rfl, hq⟩, hr⟩ := hd
    rcases hr with rfl | rfl
    · exact lv_lconst hx hb (dq_of hq) rfl k
    · exact lv_lconst hx hb (dq_of hq) rfl k
  rw [if_neg q5] at hd
  by_cases q6 : g0 = 6
  · simp only [if_pos q6, Bool.and_eq_true, decide_eq_true_eq, beq_iff_eq] at hd
    obtain ⟨⟨rfl, rfl, hq⟩, hw, -⟩ := hd
    exact lv_ldc2 hx hb hown (hts _ (wq_of hw)) (dq_of hq) k
  rw [if_neg q6] at hd
  by_cases q7 : g0 = 7
  · simp only [if_pos q7, Bool.and_eq_true, decide_eq_true_eq, beq_iff_eq] at hd
    obtain ⟨⟨rfl, rfl, hq⟩, rfl⟩ := hd
    have e : toV rf ((2 : Int).toNat, 0) = .null := by
      show va_rf (rf 0) = .null
      rw [hS.2.1]
      rfl
    rw [e] at k
    exact lv_null hx hb (dq_of hq) k
  rw [if_neg q7] at hd
  by_cases q8 : g0 = 8
  · rw [if_pos q8] at hd
    simp only [Bool.and_eq_true, decide_eq_true_eq, beq_iff_eq] at hd
    obtain ⟨⟨rfl, rfl, hq⟩, rfl, ⟨hw1, hw2⟩, hi⟩ := hd
    obtain ⟨-, -, -, -, adK, adV, -, hk, hR, -⟩ := hS
    have e : toV rf ((2 : Int).toNat, -10 - (g1 : Int)) = .ref (adK g1) := by
      show va_rf (rf _) = _
      rw [(hk _ hi).1]
      rfl
    rw [e] at k
    have hl : g1 < sref.length := hi
    have hr := hR g1 (sref.getD g1 ("", 0, "")) (by rw [List.getD_eq_getElem?_getD, List.getElem?_eq_getElem hl]; rfl)
    rw [hw1, hw2] at hr
    exact va_ldcS hx hb hown hr (dq_of hq) k
  rw [if_neg q8] at hd
  by_cases q10 : g0 = 10
  · rw [if_pos q10] at hd
    simp only [Bool.and_eq_true, decide_eq_true_eq, beq_iff_eq] at hd
    obtain ⟨⟨rfl, rfl, hq⟩, rfl, ⟨hw1, hw2⟩, hi⟩ := hd
    obtain ⟨-, -, -, -, adK, adV, -, hk, hR, -⟩ := hS
    have e : toV rf ((2 : Int).toNat, -10 - (g1 : Int)) = .ref (adK g1) := by
      show va_rf (rf _) = _
      rw [(hk _ hi).1]
      rfl
    rw [e] at k
    have hl : g1 < sref.length := hi
    have hr := hR g1 (sref.getD g1 ("", 0, "")) (by rw [List.getD_eq_getElem?_getD, List.getElem?_eq_getElem hl]; rfl)
    rw [hw1, hw2] at hr
    exact xl_ldcwS hx hb hown hr (dq_of hq) k
  rw [if_neg q10] at hd
  by_cases q9 : g0 = 9
  · simp only [if_pos q9, Bool.and_eq_true, decide_eq_true_eq, beq_iff_eq] at hd
    obtain ⟨⟨rfl, rfl, hq⟩, ⟨rfl, rfl⟩, hw⟩ := hd
    obtain ⟨-, -, ⟨t, ht, hZ, -⟩, -⟩ := hS
    have e : toV rf ((2 : Int).toNat, -2) = .ref t := by
      show va_rf (rf _) = _
      rw [ht]
      rfl
    rw [e] at k
    exact va_gets hx hb hZ hSS hown (hts _ (wq_of hw)) (fun _ h => h) (dq_of hq) k
  · rw [if_neg q9] at hd
    cases hd
theorem snd_pst (X : Cx p s m args c cc nL own) (hS : Stt base rf sc s) (hSS : va_S (A0 base) s.heap H locs) {pc op nx : Nat} {a b : Int} {os : List Int} (hd : dcP own cc pc op nx a b os = true) (hp : pst op a b ls st = some (ls', st')) (hL : Lr rf ls arr) (hst : okS n st)
    (k : ∀ arr', Lr rf ls' arr' → W p l e R s m args below meth c H locs cells slots Q (F0 m nx arr' (st'.map (toV rf)))) : W p l e R s m args below meth c H locs cells slots Q (F0 m pc arr (st.map (toV rf))) := by
  have hx := X.1
  have hb := X.2.1
  unfold pst at hp
  unfold dcP at hd
  by_cases h0 : op = 0
  · rw [if_pos h0] at hp hd
    cases hp
    exact snd_const X hS hSS hd (k arr hL)
  rw [if_neg h0] at hp hd
  by_cases h1 : op = 1
  · rw [if_pos h1] at hp hd
    have hd2 := dcV_of hd
    clear hd
    obtain ⟨ha0, hd⟩ := hd2
    cases hv : ls[a.toNat]? with
    | none => rw [hv] at hp; cases hp
    | some v =>
      rw [hv] at hp
      dsimp only at hp
      by_cases hb2 : v.1 = b.toNat
      · rw [if_pos hb2] at hp
        cases hp
        refine snd_load X (i := a.toNat) hL hv (by omega) ?_ (k arr hL)
        rcases hd with ⟨rfl, hd⟩ | ⟨rfl, hd⟩ | ⟨rfl, hd⟩
        · exact Or.inl ⟨hb2, hd⟩
        · exact Or.inr (Or.inl ⟨hb2, hd⟩)
        · exact Or.inr (Or.inr ⟨hb2, hd⟩)
      · rw [if_neg hb2] at hp
        cases hp
  rw [if_neg h1] at hp hd
  by_cases h2 : op = 2
  · rw [if_pos h2] at hp hd
    have hd2 := dcV_of hd
    clear hd
    obtain ⟨ha0, hd⟩ := hd2
    cases st with
    | nil => cases hp
    | cons v r =>
      dsimp only at hp
      by_cases hb2 : v.1 = b.toNat ∧ a.toNat + (if v.1 = 1 then 1 else 0) < ls.length
      · rw [if_pos hb2] at hp
        cases hp
        refine snd_store X (i := a.toNat) hL hb2.2 ?_ (fun arr' h => k arr' h)
        rcases hd with ⟨rfl, hd⟩ | ⟨rfl, hd⟩ | ⟨rfl, hd⟩
        · exact Or.inl ⟨hb2.1, hd⟩
        · exact Or.inr (Or.inl ⟨hb2.1, hd⟩)
        · exact Or.inr (Or.inr ⟨hb2.1, hd⟩)
      · rw [if_neg hb2] at hp
        cases hp
  rw [if_neg h2] at hp hd
  by_cases h3 : op = 3
  · rw [if_pos h3] at hp hd
    cases hv : ls[a.toNat]? with
    | none => rw [hv] at hp; cases hp
    | some v =>
      rw [hv] at hp
      dsimp only at hp
      by_cases hv0 : v.1 = 0
      · rw [if_pos hv0] at hp
        cases hp
        simp only [Bool.and_eq_true, decide_eq_true_eq, beq_iff_eq] at hd
        obtain ⟨ha0, rfl, hd⟩ := hd
        obtain ⟨t, x⟩ := v
        dsimp only at hv0
        subst hv0
        have hh := hL.has
        have hmem : ((a.toNat, Value.int (Int32.ofInt x)) : Nat × Value) ∈ lls rf ls := mem_lls.mpr ⟨(0, x), hv, by simp, rfl⟩
        obtain ⟨kq, hkq⟩ := List.mem_iff_getElem?.mp hmem
        refine lv_iinc (v := Int32.ofInt (w32 (x + b))) hx hb (dq_of hd) hh hkq (by rw [n_add]) (List.getElem?_eq_some_iff.mp hv).1 rfl (fun arr' h => k arr' (Lr_store1 rfl (by simp) h))
      · rw [if_neg hv0] at hp
        cases hp
  rw [if_neg h3] at hp hd
  by_cases h4 : op = 4
  · rw [if_pos h4] at hp hd
    have hd2 := d1_of hd
    clear hd
    obtain ⟨rfl, hd⟩ := hd2
    match st, hp, hst, k with
    | (0, y) :: (0, x) :: r, hp, hst, k =>
      change (match ibin a.toNat x y with | some z => some (ls, (0, z) :: r) | none => none) = some (ls', st') at hp
      cases hz : ibin a.toNat x y with
      | none => rw [hz] at hp; cases hp
      | some z =>
        rw [hz] at hp
        cases hp
        exact ibin_row hx hb hd hz (hst _ (List.mem_cons_of_mem _ List.mem_cons_self)).int (hst _ List.mem_cons_self).int (k arr hL)
  rw [if_neg h4] at hp hd
  by_cases h5 : op = 5
  · rw [if_pos h5] at hp hd
    have hd2 := d1_of hd
    clear hd
    obtain ⟨rfl, hd⟩ := hd2
    match st, hp, hst, k with
    | (1, y) :: (1, x) :: r, hp, hst, k =>
      change (match lbin a.toNat x y with | some z => some (ls, (1, z) :: r) | none => none) = some (ls', st') at hp
      cases hz : lbin a.toNat x y with
      | none => rw [hz] at hp; cases hp
      | some z =>
        rw [hz] at hp
        cases hp
        exact lbin_row hx hb hd hz (hst _ (List.mem_cons_of_mem _ List.mem_cons_self)).long (hst _ List.mem_cons_self).long (k arr hL)
  rw [if_neg h5] at hp hd
  by_cases h6 : op = 6
  · rw [if_pos h6] at hp hd
    have hd2 := d1_of hd
    clear hd
    obtain ⟨rfl, hd⟩ := hd2
    match st, hp, hst, k with
    | (0, x) :: r, hp, hst, k =>
      cases hp
      exact lv_ineg hx hb hd (by rw [n_neg]; exact k arr hL)
  rw [if_neg h6] at hp hd
  by_cases h7 : op = 7
  · rw [if_pos h7] at hp hd
    have hd2 := d1_of hd
    clear hd
    obtain ⟨rfl, hd⟩ := hd2
    match st, hp, hst, k with
    | (0, x) :: r, hp, hst, k =>
      cases hp
      exact lv_i2l hx hb hd (n_i2l (hst _ List.mem_cons_self).int) (k arr hL)
  rw [if_neg h7] at hp hd
  by_cases h8 : op = 8
  · rw [if_pos h8] at hp hd
    have hd2 := d1_of hd
    clear hd
    obtain ⟨rfl, hd⟩ := hd2
    match st, hp, hst, k with
    | (1, x) :: r, hp, hst, k =>
      cases hp
      exact lv_l2i hx hb hd (n_l2i _) (k arr hL)
  rw [if_neg h8] at hp hd
  by_cases h9 : op = 9
  · rw [if_pos h9] at hp hd
    have hd2 := d1_of hd
    clear hd
    obtain ⟨rfl, hd⟩ := hd2
    match st, hp, hst, k with
    | (0, x) :: r, hp, hst, k =>
      cases hp
      exact lv_i2b hx hb hd (n_i2b _) (k arr hL)
  rw [if_neg h9] at hp hd
  by_cases h10 : op = 10
  · rw [if_pos h10] at hp hd
    have hd2 := d1_of hd
    clear hd
    obtain ⟨rfl, hd⟩ := hd2
    match st, hp, hst, k with
    | (0, x) :: r, hp, hst, k =>
      cases hp
      exact lv_i2c hx hb hd (n_i2c _) (k arr hL)
  rw [if_neg h10] at hp hd
  by_cases h11 : op = 11
  · rw [if_pos h11] at hp hd
    have hd2 := d1_of hd
    clear hd
    obtain ⟨rfl, hd⟩ := hd2
    match st, hp, hst, k with
    | (1, y) :: (1, x) :: r, hp, hst, k =>
      cases hp
      refine W.lcmp hx hb hd ?_
      rw [lcmp_of (hst _ (List.mem_cons_of_mem _ List.mem_cons_self)).long (hst _ List.mem_cons_self).long]
      exact k arr hL
  rw [if_neg h11] at hp hd
  have cat1 : ∀ v : Vl, ¬ v.1 = 1 → (toV rf v).category = 1 := fun v h => by rw [toV_cat, if_neg h]
  by_cases h12 : op = 12
  · rw [if_pos h12] at hp hd
    have hd2 := d1_of hd
    clear hd
    obtain ⟨rfl, hd⟩ := hd2
    match st, hp, hst, k with
    | v :: r, hp, hst, k =>
      dsimp only at hp
      by_cases hc : v.1 = 1
      · rw [if_pos hc] at hp
        cases hp
      · rw [if_neg hc] at hp
        cases hp
        exact lv_dup hx hb hd (cat1 _ hc) (k arr hL)
  rw [if_neg h12] at hp hd
  by_cases h13 : op = 13
  · rw [if_pos h13] at hp hd
    have hd2 := d1_of hd
    clear hd
    obtain ⟨rfl, hd⟩ := hd2
    match st, hp, hst, k with
    | v :: u :: r, hp, hst, k =>
      dsimp only at hp
      by_cases hc : v.1 = 1 ∨ u.1 = 1
      · rw [if_pos hc] at hp
        cases hp
      · rw [if_neg hc] at hp
        cases hp
        exact lv_dup_x1 hx hb hd (cat1 _ (fun q => hc (Or.inl q))) (cat1 _ (fun q => hc (Or.inr q))) (k arr hL)
  rw [if_neg h13] at hp hd
  by_cases h14 : op = 14
  · rw [if_pos h14] at hp hd
    have hd2 := d1_of hd
    clear hd
    obtain ⟨rfl, hd⟩ := hd2
    match st, hp, hst, k with
    | v :: u :: r, hp, hst, k =>
      dsimp only at hp
      by_cases hc : v.1 = 1 ∨ u.1 = 1
      · rw [if_pos hc] at hp
        cases hp
      · rw [if_neg hc] at hp
        cases hp
        exact lv_dup2_11 hx hb hd (cat1 _ (fun q => hc (Or.inl q))) (cat1 _ (fun q => hc (Or.inr q))) (k arr hL)
  rw [if_neg h14] at hp hd
  by_cases h15 : op = 15
  · rw [if_pos h15] at hp hd
    have hd2 := d1_of hd
    clear hd
    obtain ⟨rfl, hd⟩ := hd2
    match st, hp, hst, k with
    | v :: r, hp, hst, k =>
      dsimp only at hp
      by_cases hc : v.1 = 1
      · rw [if_pos hc] at hp
        cases hp
      · rw [if_neg hc] at hp
        cases hp
        exact lv_pop hx hb hd (cat1 _ hc) (k arr hL)
  rw [if_neg h15] at hp
  cases hp
end PS
