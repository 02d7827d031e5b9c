/-! a heap that grows; what a cell may hold -/
def sz (hp : Hp) : Nat := (hp.map (fun e => e.2.length)).sum
theorem sz_app (h1 h2 : Hp) : sz (h1 ++ h2) = sz h1 + sz h2 := by unfold sz; rw [List.map_append, List.sum_append]
theorem sz_set {hp : Hp} {a : Nat} {e e' : Nat × List Int} (h : hp[a]? = some e) (hl : e'.2.length = e.2.length) : sz (hp.set a e') = sz hp := by
  unfold sz
  congr 1
  apply List.ext_getElem?
  intro j
  rw [List.getElem?_map, List.getElem?_map, List.getElem?_set]
  by_cases hj : a = j
  · subst hj
    have hlt := (List.getElem?_eq_some_iff.mp h).1
    simp [hlt, h, hl]
    have := (List.getElem?_eq_some_iff.mp h).2
    rw [this]
  · simp [hj]
theorem kty_le (k i : Nat) : kty k i ≤ 4 := by
  unfold kty
  by_cases h : k < 14
  · rw [if_pos h]
    have key : ∀ l ∈ knds, ∀ t ∈ l, t ≤ 4 := by decide +kernel
    have hk : k < knds.length := h
    have hm : knds.getD k [] ∈ knds := by
      rw [List.getD_eq_getElem?_getD, List.getElem?_eq_getElem hk]
      exact List.getElem_mem hk
    generalize knds.getD k [] = L at hm ⊢
    by_cases hi : i < L.length
    · refine key L hm _ ?_
      rw [List.getD_eq_getElem?_getD, List.getElem?_eq_getElem hi]
      exact List.getElem_mem hi
    · rw [List.getD_eq_getElem?_getD, List.getElem?_eq_none (by omega)]
      exact Nat.zero_le 4
  · rw [if_neg h]
    repeat' split
    all_goals omega
theorem okT_0 (n t : Nat) (h : t ≤ 4) : okT n t 0 := by
  unfold okT in32 in64
  omega
theorem okT.mono {n k t : Nat} {x : Int} (h : okT n t x) (hk : n ≤ k) : okT k t x := by
  unfold okT in32 in64 at h ⊢
  omega
theorem okC.mono {n k : Nat} {e : Nat × List Int} (h : okC n e) (hk : n ≤ k) : okC k e := ⟨h.1, h.2.1, fun i x hx => (h.2.2 i x hx).mono hk⟩
theorem okT_ref {n k i : Nat} {x : Int} (hk : 24 ≤ k) (h : okT n (kty k i) x) : x ≤ n := by
  have hty : kty k i = 2 := by
    unfold kty
    rw [if_neg (by omega), if_neg (by omega), if_neg (by omega), if_neg (by omega), if_neg (by omega)]
  rw [hty] at h
  unfold okT at h
  omega
theorem toV_ext {rf rf' : Int → Option Nat} {n : Nat} {v : Vl} (h : ∀ x : Int, x ≤ n → rf' x = rf x) (hv : okV n v) : toV rf' v = toV rf v := by
  rcases hv with ⟨h1, h2⟩ | ⟨h1, h2⟩ | ⟨h1, h2⟩
  · unfold toV
    rw [if_pos h1, if_pos h1]
  · have h0 : ¬ v.1 = 0 := by omega
    unfold toV
    rw [if_neg h0, if_neg h0, if_pos h1, if_pos h1]
  · have h0 : ¬ v.1 = 0 := by omega
    have h3 : ¬ v.1 = 1 := by omega
    unfold toV
    rw [if_neg h0, if_neg h0, if_neg h3, if_neg h3, h _ h2]
theorem toVs_ext {rf rf' : Int → Option Nat} {n : Nat} {st : List Vl} (h : ∀ x : Int, x ≤ n → rf' x = rf x) (hv : okS n st) : st.map (toV rf') = st.map (toV rf) := by
  apply List.map_congr_left
  intro v hm
  exact toV_ext h (hv v hm)
theorem Lr_ext {rf rf' : Int → Option Nat} {n : Nat} {ls : List Vl} {arr : Array Slot} (h : ∀ x : Int, x ≤ n → rf' x = rf x) (ho : okL n ls) (hL : Lr rf ls arr) : Lr rf' ls arr := by
  refine ⟨hL.1, hL.2.1, fun i v hv h9 => ?_⟩
  have := ho v (List.mem_of_getElem? hv)
  rw [toV_ext h (this.resolve_left h9)]
  exact hL.2.2 i v hv h9
theorem ent_ext {rf rf' : Int → Option Nat} {cA : Nat → ClassId} {n : Nat} {e : Nat × List Int} (h : ∀ x : Int, x ≤ n → rf' x = rf x) (ho : okC n e) : ent rf' cA e = ent rf cA e := by
  unfold ent
  split
  · congr 2
    unfold fv
    apply List.ext_getElem?
    intro i
    rw [List.getElem?_mapIdx, List.getElem?_mapIdx]
    cases hx : e.2[i]? with
    | none => rfl
    | some x =>
      show some (toV rf' _) = some (toV rf _)
      rw [toV_ext h (okV_of (ho.2.2 i x hx))]
  · split
    · rfl
    · split
      · rfl
      · rename_i h14 h23 hlt
        have e0 : (fun j => rf' (e.2.getD j 0)) = (fun j => rf (e.2.getD j 0)) := by
          funext j
          apply h
          cases hx : e.2[j]? with
          | none => rw [List.getD_eq_getElem?_getD, hx]; exact Int.natCast_nonneg n
          | some x => rw [getD_of hx]; exact okT_ref (by omega) (ho.2.2 j x hx)
        rw [e0]
theorem wld_ext {rf rf' : Int → Option Nat} {cA : Nat → ClassId} {hp : Hp} (h : ∀ x : Int, x ≤ hp.length → rf' x = rf x) (hw : wfH hp) : wld rf' cA hp = wld rf cA hp := by
  unfold wld
  apply List.ext_getElem?
  intro a
  rw [List.getElem?_mapIdx, List.getElem?_mapIdx]
  cases he : hp[a]? with
  | none => rfl
  | some e =>
    have hl := (List.getElem?_eq_some_iff.mp he).1
    show some (adr rf' a, ent rf' cA e) = some (adr rf a, ent rf cA e)
    rw [ent_ext h (hw.at he)]
    unfold adr
    rw [h _ (by omega)]
theorem wld_app {rf : Int → Option Nat} {cA : Nat → ClassId} {hp : Hp} {e : Nat × List Int} : wld rf cA (hp ++ [e]) = wld rf cA hp ++ [(adr rf hp.length, ent rf cA e)] := by
  unfold wld
  rw [List.mapIdx_append]
  simp
/-- one more reference -/
def rfx (rf : Int → Option Nat) (n q : Nat) : Int → Option Nat := fun x => if x = (n : Int) + 1 then some q else rf x
theorem rfx_old {rf : Int → Option Nat} {n q : Nat} : ∀ x : Int, x ≤ n → rfx rf n q x = rf x := fun x h => by unfold rfx; rw [if_neg (by omega)]
theorem rfx_new {rf : Int → Option Nat} {n q : Nat} : adr (rfx rf n q) n = q := by unfold adr rfx; rw [if_pos rfl]; rfl
theorem Rf_x {base : Nat} {rf : Int → Option Nat} {n q : Nat} (h : Rf base rf n) : Rf base (rfx rf n q) (n + 1) := by
  intro x h0 hn
  by_cases hx : x = (n : Int) + 1
  · exact ⟨q, by unfold rfx; rw [if_pos hx]⟩
  · obtain ⟨q', hq⟩ := h x h0 (by omega)
    exact ⟨q', by unfold rfx; rw [if_neg hx]; exact hq⟩
theorem wld_x {rf : Int → Option Nat} {cA : Nat → ClassId} {hp : Hp} {e : Nat × List Int} {q : Nat} (hw : wfH hp) (he : ent (rfx rf hp.length q) cA e = ent rf cA e) : wld (rfx rf hp.length q) cA (hp ++ [e]) = wld rf cA hp ++ [(q, ent rf cA e)] := by
  rw [wld_app, wld_ext rfx_old hw, rfx_new, he]
theorem wfH_x {hp : Hp} {e : Nat × List Int} (hw : wfH hp) (he : okC (hp.length + 1) e) : wfH (hp ++ [e]) := by
  intro x hx
  rw [List.length_append, List.length_singleton]
  rcases List.mem_append.mp hx with h | h
  · exact (hw x h).mono (Nat.le_succ _)
  · rw [List.mem_singleton.mp h]
    exact he
theorem wfH_set {hp : Hp} {a : Nat} {e : Nat × List Int} (hw : wfH hp) (he : okC hp.length e) : wfH (hp.set a e) := by
  intro x hx
  rw [List.length_set]
  rcases List.mem_or_eq_of_mem_set hx with h | h
  · exact hw x h
  · rw [h]
    exact he
theorem okC_set {n : Nat} {k i : Nat} {l : List Int} {x : Int} (h : okC n (k, l)) (hx : okT n (kty k i) x) (hk : ∀ j, 14 ≤ k → kty k j = kty k i) : okC n (k, l.set i x) := by
  refine ⟨fun h1 => by simpa using h.1 h1, fun h1 => by simpa using h.2.1 h1, fun j y hy => ?_⟩
  dsimp only at hy ⊢
  rw [List.getElem?_set] at hy
  by_cases hj : i = j
  · subst hj
    rw [if_pos rfl] at hy
    split at hy
    · cases hy
      exact hx
    · cases hy
  · rw [if_neg hj] at hy
    exact h.2.2 j y hy
theorem kty_arr {k : Nat} (h : 14 ≤ k) (i j : Nat) : kty k j = kty k i := by
  have h0 : ¬ k < 14 := by omega
  unfold kty
  rw [if_neg h0, if_neg h0]
theorem rep_at {n : Nat} {i : Nat} {x : Int} (h : (List.replicate n (0 : Int))[i]? = some x) : x = 0 := by
  rw [List.getElem?_replicate] at h
  split at h
  · cases h; rfl
  · cases h
theorem rep_getD (n j : Nat) : (List.replicate n (0 : Int)).getD j 0 = 0 := by
  rw [List.getD_eq_getElem?_getD, List.getElem?_replicate]
  split <;> rfl
theorem okC_rep {n k N : Nat} (h1 : k < 14 → N = (knds.getD k []).length) (h2 : 14 ≤ k → 20 ≤ k ∧ k ≤ 29 ∧ N ≤ 200000) : okC n (k, List.replicate N 0) := by
  refine ⟨fun h => by simpa using h1 h, fun h => by simpa using h2 h, fun i x hx => ?_⟩
  rw [rep_at hx]
  exact okT_0 _ _ (kty_le _ _)
theorem ra_uniq {U : State} {c1 c2 : ClassId} {ty : FieldType} (h1 : va_RA U c1 ty) (h2 : va_RA U c2 ty) : c1 = c2 := by
  cases ty with
  | object C =>
    obtain ⟨_, _, -, -, -, e1⟩ := h1
    obtain ⟨_, _, -, -, -, e2⟩ := h2
    exact Option.some.inj (e1.symm.trans e2)
  | _ => exact Option.some.inj (Eq.trans (Eq.symm h1) h2)
theorem cA_uniq {D : va_G} {cA : Nat → ClassId} {s : State} {k : Nat} {c' : ClassId} (hK : va_K D vwCl (ktys cA) s) (h1 : 20 ≤ k) (h2 : k ≤ 29) (hK2 : va_K D vwCl (ktys cA ++ [(c', aty k)]) s) : c' = cA k := by
  have e1 := (hK.2 (k - 20) _ (ktys_at cA h1 h2)).2
  have e2 := (hK2.2 (ktys cA).length (c', aty k) (by rw [List.getElem?_append_right (Nat.le_refl _), Nat.sub_self]; rfl)).2
  exact ra_uniq e2 e1
