/-! many new arrays at once: worlds and steps -/
def rfm (rf : Int → Option Nat) (n0 h0 w : Nat) : Int → Option Nat := fun x => if (n0 : Int) < x ∧ x ≤ n0 + w then some (h0 + (x - n0 - 1).toNat) else rf x
theorem rfm_old {rf : Int → Option Nat} {n0 h0 w : Nat} : ∀ x : Int, x ≤ n0 → rfm rf n0 h0 w x = rf x := fun x h => by unfold rfm; rw [if_neg (by omega)]
theorem rfm_new {rf : Int → Option Nat} {n0 h0 w i : Nat} (h : i < w) : rfm rf n0 h0 w (((n0 + i : Nat) : Int) + 1) = some (h0 + i) := by
  unfold rfm
  rw [if_pos (by omega)]
  congr 2
  omega
theorem arrV_congr {c : ClassId} {N : Nat} {f g : Nat → Value} (h : ∀ j, j < N → f j = g j) : arrV c N f = arrV c N g := by
  unfold arrV
  congr 2
  funext j
  exact h j.1 j.2
theorem o3_arr (c : ClassId) (N h0 M : Nat) : ∀ i : Nat, o3 c N h0 M i = arrV c N (fun j => if j < i then .ref (h0 + 1 + j * (M + 1)) else .null)
  | 0 => by
    show ({ cls := c, slots := Array.replicate N .null, vm := .none } : Cell) = _
    rw [arrV_new]
    refine congrArg (arrV c N) (funext fun j => ?_)
    simp
  | i + 1 => by
    show (o3 c N h0 M i).setSlot i (.ref (h0 + 1 + i * (M + 1))) = _
    rw [o3_arr c N h0 M i, arrV_store]
    refine congrArg (arrV c N) (funext fun j => ?_)
    by_cases e : j = i
    · subst e
      simp [updV]
    · by_cases h : j < i
      · simp [updV, e, h, Nat.lt_succ_of_lt h]
      · simp [updV, e, h, show ¬ j < i + 1 by omega]
theorem oC_arr (c : ClassId) (N h0 : Nat) : ∀ i : Nat, Jvm.Free.Multi.outerC c N h0 i = arrV c N (fun j => if j < i then .ref (h0 + 1 + j) else .null)
  | 0 => by
    show ({ cls := c, slots := Array.replicate N .null, vm := .none } : Cell) = _
    rw [arrV_new]
    refine congrArg (arrV c N) (funext fun j => ?_)
    simp
  | i + 1 => by
    show (Jvm.Free.Multi.outerC c N h0 i).setSlot i (.ref (h0 + 1 + i)) = _
    rw [oC_arr c N h0 i, arrV_store]
    refine congrArg (arrV c N) (funext fun j => ?_)
    by_cases e : j = i
    · subst e
      simp [updV]
    · by_cases h : j < i
      · simp [updV, e, h, Nat.lt_succ_of_lt h]
      · simp [updV, e, h, show ¬ j < i + 1 by omega]
theorem refs_at {s n st j : Nat} (h : j < n) : (refsFrom s n st).getD j 0 = ((s + st * j + 1 : Nat) : Int) := by
  unfold refsFrom
  rw [List.getD_eq_getElem?_getD, List.getElem?_map, List.getElem?_range h]
  rfl
theorem refs_len (s n st : Nat) : (refsFrom s n st).length = n := by unfold refsFrom; simp
theorem refs_in {s n st i : Nat} {x : Int} (h : (refsFrom s n st)[i]? = some x) : i < n ∧ x = ((s + st * i + 1 : Nat) : Int) := by
  have hl := (List.getElem?_eq_some_iff.mp h).1
  rw [refs_len] at hl
  refine ⟨hl, ?_⟩
  have := refs_at (s := s) (st := st) hl
  rw [getD_of h] at this
  exact this
/-- uniform blocks -/
theorem blk_at {α : Type} (f : Nat → List α) (L : Nat) (hf : ∀ i, (f i).length = L) : ∀ (n i t : Nat), i < n → t < L → ((List.range n).flatMap f)[i * L + t]? = (f i)[t]?
  | 0, i, t, h, _ => absurd h (Nat.not_lt_zero _)
  | n + 1, i, t, h, ht => by
    have hlen : ((List.range n).flatMap f).length = n * L := by
      clear h
      induction n with
      | zero => simp
      | succ k ih => rw [List.range_succ, List.flatMap_append, List.length_append, ih, Nat.succ_mul]; simp [hf]
    rw [List.range_succ, List.flatMap_append]
    by_cases hi : i < n
    · have : i * L + t < n * L := by
        have := Nat.mul_le_mul_right L (show i + 1 ≤ n from hi)
        rw [Nat.succ_mul] at this
        omega
      rw [List.getElem?_append_left (by rw [hlen]; exact this)]
      exact blk_at f L hf n i t hi ht
    · have e : i = n := by omega
      subst e
      rw [List.getElem?_append_right (by rw [hlen]; omega), hlen]
      simp
theorem blk_len {α : Type} (f : Nat → List α) (L : Nat) (hf : ∀ i, (f i).length = L) (n : Nat) : ((List.range n).flatMap f).length = n * L := by
  induction n with
  | zero => simp
  | succ k ih => rw [List.range_succ, List.flatMap_append, List.length_append, ih, Nat.succ_mul]; simp [hf]
theorem va_at_lt {D : va_G} {cl : List vw_C} {q : Nat × va_E} {H : Heap} (h : va_at D cl q H) : q.1 < H.size := h.lt
theorem ext_world {base : Nat} {rf : Int → Option Nat} {cA : Nat → ClassId} {D : va_G} {hp es : Hp} {H H' : Heap} (hP : va_P D vwCl (wld rf cA hp) H) (hD : va_D (A0 base) (wld rf cA hp)) (hw : wfH hp) (hR : Rf base rf hp.length) (hbH : base ≤ H.size)
    (hold : ∀ a : Nat, a < H.size → H'[a]? = H[a]?) (hok : ∀ e ∈ es, okC (hp.length + es.length) e)
    (hnew : ∀ (i : Nat) (e : Nat × List Int), es[i]? = some e → ∃ x : vp_A, ent (rfm rf hp.length H.size es.length) cA e = .inl (cA e.1, x) ∧ H'[H.size + i]? = some (vp_cell (cA e.1) x)) :
    va_P D vwCl (wld (rfm rf hp.length H.size es.length) cA (hp ++ es)) H' ∧ va_D (A0 base) (wld (rfm rf hp.length H.size es.length) cA (hp ++ es)) ∧ wfH (hp ++ es) ∧ Rf base (rfm rf hp.length H.size es.length) (hp ++ es).length := by
  have hext : wld (rfm rf hp.length H.size es.length) cA hp = wld rf cA hp := wld_ext rfm_old hw
  have hlow : ∀ (k : Nat), k < hp.length → (wld (rfm rf hp.length H.size es.length) cA (hp ++ es))[k]? = (wld rf cA hp)[k]? := by
    intro k hk
    rw [← hext]
    unfold wld
    rw [List.getElem?_mapIdx, List.getElem?_mapIdx, List.getElem?_append_left hk]
  have hhigh : ∀ (i : Nat) (e : Nat × List Int), es[i]? = some e → (wld (rfm rf hp.length H.size es.length) cA (hp ++ es))[hp.length + i]? = some (H.size + i, ent (rfm rf hp.length H.size es.length) cA e) := by
    intro i e he
    have hi := (List.getElem?_eq_some_iff.mp he).1
    have h1 : (hp ++ es)[hp.length + i]? = some e := by
      rw [List.getElem?_append_right (by omega), show hp.length + i - hp.length = i by omega]
      exact he
    rw [wld_at h1]
    unfold adr
    rw [rfm_new hi]
    rfl
  have hsplit : ∀ (k : Nat) (q : Nat × va_E), (wld (rfm rf hp.length H.size es.length) cA (hp ++ es))[k]? = some q → (k < hp.length ∧ (wld rf cA hp)[k]? = some q ∧ q.1 < H.size) ∨ ∃ (i : Nat) (e : Nat × List Int), k = hp.length + i ∧ es[i]? = some e ∧ q = (H.size + i, ent (rfm rf hp.length H.size es.length) cA e) := by
    intro k q hq
    by_cases hk : k < hp.length
    · rw [hlow k hk] at hq
      exact Or.inl ⟨hk, hq, va_at_lt (hP k q hq)⟩
    · have hl := (List.getElem?_eq_some_iff.mp hq).1
      rw [wld_len, List.length_append] at hl
      have hi : k - hp.length < es.length := by omega
      have he : es[k - hp.length]? = some es[k - hp.length] := List.getElem?_eq_getElem hi
      refine Or.inr ⟨k - hp.length, es[k - hp.length], by omega, he, ?_⟩
      have := hhigh _ _ he
      rw [show hp.length + (k - hp.length) = k by omega, hq] at this
      exact Option.some.inj this
  refine ⟨fun k q hq => ?_, ⟨fun i j x y hx hy hxy => ?_, fun k q hq => ?_⟩, ?_, ?_⟩
  · rcases hsplit k q hq with ⟨hk, h1, h2⟩ | ⟨i, e, rfl, he, rfl⟩
    · exact (hP k q h1).kept (hold q.1 h2)
    · obtain ⟨x, hx1, hx2⟩ := hnew i e he
      rw [hx1]
      exact hx2
  · rcases hsplit i x hx with ⟨hi, h1, h2⟩ | ⟨i', e, rfl, he, rfl⟩
    · rcases hsplit j y hy with ⟨hj, g1, g2⟩ | ⟨j', e', rfl, he', rfl⟩
      · exact hD.1 i j x y h1 g1 hxy
      · dsimp only at hxy
        omega
    · rcases hsplit j y hy with ⟨hj, g1, g2⟩ | ⟨j', e', rfl, he', rfl⟩
      · dsimp only at hxy
        omega
      · dsimp only at hxy
        omega
  · rcases hsplit k q hq with ⟨hk, h1, h2⟩ | ⟨i, e, rfl, he, rfl⟩
    · exact hD.2 k q h1
    · show base ≤ H.size + i
      omega
  · intro e he
    rw [List.length_append]
    rcases List.mem_append.mp he with h | h
    · exact (hw e h).mono (by omega)
    · exact hok e h
  · intro x h0 hn
    rw [List.length_append] at hn
    by_cases hx : x ≤ hp.length
    · obtain ⟨q, hq⟩ := hR x h0 hx
      exact ⟨q, by rw [rfm_old x hx]; exact hq⟩
    · exact ⟨_, by unfold rfm; rw [if_pos (by omega)]⟩
