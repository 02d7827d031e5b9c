/-! values and locals of the mini machine against the machine's -/
def toV (rf : Int → Option Nat) (v : Vl) : Value := if v.1 = 0 then .int (Int32.ofInt v.2) else if v.1 = 1 then .long (Int64.ofInt v.2) else va_rf (rf v.2)
def okV (n : Nat) (v : Vl) : Prop := (v.1 = 0 ∧ in32 v.2) ∨ (v.1 = 1 ∧ in64 v.2) ∨ (v.1 = 2 ∧ v.2 ≤ n)
def okL (n : Nat) (ls : List Vl) : Prop := ∀ v ∈ ls, v.1 = 9 ∨ okV n v
def okS (n : Nat) (st : List Vl) : Prop := ∀ v ∈ st, okV n v
theorem okV.mono {n k : Nat} {v : Vl} (h : okV n v) (hk : n ≤ k) : okV k v := by
  rcases h with h | h | h
  · exact Or.inl h
  · exact Or.inr (Or.inl h)
  · exact Or.inr (Or.inr ⟨h.1, by omega⟩)
theorem okL.mono {n k : Nat} {v : List Vl} (h : okL n v) (hk : n ≤ k) : okL k v := fun x hx => (h x hx).imp id (fun q => q.mono hk)
theorem okS.mono {n k : Nat} {v : List Vl} (h : okS n v) (hk : n ≤ k) : okS k v := fun x hx => (h x hx).mono hk
theorem toV_i (rf : Int → Option Nat) (x : Int) : toV rf (0, x) = .int (Int32.ofInt x) := rfl
theorem toV_l (rf : Int → Option Nat) (x : Int) : toV rf (1, x) = .long (Int64.ofInt x) := rfl
theorem toV_r (rf : Int → Option Nat) (x : Int) : toV rf (2, x) = va_rf (rf x) := rfl
theorem va_rf_cat (r : Option Nat) : (va_rf r).category = 1 := by cases r <;> rfl
theorem toV_cat (rf : Int → Option Nat) (v : Vl) : (toV rf v).category = if v.1 = 1 then 2 else 1 := by
  unfold toV
  split
  · rename_i h
    simp [h, Value.category]
  · split
    · rfl
    · exact va_rf_cat _
def Lr (rf : Int → Option Nat) (ls : List Vl) (arr : Array Slot) : Prop := arr.size = ls.length ∧ lv_wf arr ∧ ∀ (i : Nat) (v : Vl), ls[i]? = some v → v.1 ≠ 9 → arr[i]? = some (.val (toV rf v))
def lls (rf : Int → Option Nat) (ls : List Vl) : List (Nat × Value) := (List.range ls.length).filterMap (fun i => (ls[i]?).bind (fun v => if v.1 = 9 then none else some (i, toV rf v)))
theorem mem_lls {rf : Int → Option Nat} {ls : List Vl} {q : Nat × Value} : q ∈ lls rf ls ↔ ∃ v, ls[q.1]? = some v ∧ v.1 ≠ 9 ∧ q.2 = toV rf v := by
  unfold lls
  rw [List.mem_filterMap]
  constructor
  · rintro ⟨i, hi, h⟩
    cases hv : ls[i]? with
    | none => rw [hv] at h; cases h
    | some v =>
      rw [hv] at h
      simp only [Option.bind_some] at h
      split at h
      · cases h
      · rename_i hn
        cases h
        exact ⟨v, hv, hn, rfl⟩
  · rintro ⟨v, h1, h2, h3⟩
    refine ⟨q.1, ?_, ?_⟩
    · rw [List.mem_range]
      exact (List.getElem?_eq_some_iff.mp h1).1
    · rw [h1]
      simp only [Option.bind_some, if_neg h2]
      rw [← h3]
theorem Lr.has {rf : Int → Option Nat} {ls : List Vl} {arr : Array Slot} (h : Lr rf ls arr) : lv_has arr ls.length (lls rf ls) := ⟨h.1, h.2.1, fun q hq => by
  obtain ⟨v, h1, h2, h3⟩ := mem_lls.mp hq
  rw [h3]
  exact h.2.2 q.1 v h1 h2⟩
theorem storeL_len (ls : List Vl) (i : Nat) (v : Vl) : (storeL ls i v).length = ls.length := by
  unfold storeL
  cases i with
  | zero => dsimp only; split <;> simp
  | succ k => dsimp only; split <;> split <;> simp
/-- what is behind a store -/
theorem storeL_at {ls : List Vl} {i j : Nat} {v u : Vl} (h : (storeL ls i v)[j]? = some u) (hu : u.1 ≠ 9) : (j = i ∧ u = v) ∨ (j ≠ i ∧ ls[j]? = some u ∧ ¬ (v.1 = 1 ∧ j = i + 1) ∧ ¬ (j + 1 = i ∧ u.1 = 1)) := by
  unfold storeL at h
  have key : ∀ l1 : List Vl, (∀ x, l1[j]? = some x → x.1 ≠ 9 → ls[j]? = some x ∧ ¬ (j + 1 = i ∧ x.1 = 1)) → ((if v.1 = 1 then (l1.set i v).set (i + 1) (9, 0) else l1.set i v)[j]? = some u) → (j = i ∧ u = v) ∨ (j ≠ i ∧ ls[j]? = some u ∧ ¬ (v.1 = 1 ∧ j = i + 1) ∧ ¬ (j + 1 = i ∧ u.1 = 1)) := by
    intro l1 h1 h
    have h2 : (l1.set i v)[j]? = some u ∧ ¬ (v.1 = 1 ∧ j = i + 1) := by
      split at h
      · rename_i hv
        by_cases hj : j = i + 1
        · subst hj
          rw [List.getElem?_set] at h
          simp only [if_true] at h
          split at h
          · cases h
            exact absurd rfl hu
          · cases h
        · rw [List.getElem?_set, if_neg (fun e => hj e.symm)] at h
          exact ⟨h, fun q => hj q.2⟩
      · rename_i hv
        exact ⟨h, fun q => hv q.1⟩
    obtain ⟨h3, h4⟩ := h2
    by_cases hj : j = i
    · subst hj
      rw [List.getElem?_set] at h3
      simp only [if_true] at h3
      split at h3
      · cases h3
        exact Or.inl ⟨rfl, rfl⟩
      · cases h3
    · rw [List.getElem?_set, if_neg (fun e => hj e.symm)] at h3
      obtain ⟨h5, h6⟩ := h1 u h3 hu
      exact Or.inr ⟨hj, h5, h4, h6⟩
  cases i with
  | zero => exact key ls (fun x hx _ => ⟨hx, fun q => by omega⟩) h
  | succ k =>
    dsimp only at h
    refine key _ ?_ h
    intro x hx hx9
    split at hx
    · rename_i hk
      by_cases hj : j = k
      · subst hj
        rw [List.getElem?_set] at hx
        simp only [if_true] at hx
        split at hx
        · cases hx
          exact absurd rfl hx9
        · cases hx
      · rw [List.getElem?_set, if_neg (fun e => hj e.symm)] at hx
        exact ⟨hx, fun q => hj (by omega)⟩
    · rename_i hk
      refine ⟨hx, fun q => hk ?_⟩
      have hj : j = k := by omega
      subst hj
      rw [List.getD_eq_getElem?_getD, hx]
      exact q.2
theorem Lr_store1 {rf : Int → Option Nat} {ls : List Vl} {arr : Array Slot} {i : Nat} {v : Vl} {w : Value} (hw : w = toV rf v) (h1 : v.1 ≠ 1)
    (h : lv_has arr ls.length ((i, w) :: (lls rf ls).filter (fun q => !(q.1 == i) && !(q.1 + 1 == i && q.2.category == 2)))) : Lr rf (storeL ls i v) arr := by
  refine ⟨by rw [storeL_len]; exact h.1, h.2.1, fun j u hj hu => ?_⟩
  rcases storeL_at hj hu with ⟨rfl, rfl⟩ | ⟨a1, a2, a3, a4⟩
  · rw [← hw]
    exact h.2.2 (j, w) List.mem_cons_self
  · refine h.2.2 (j, toV rf u) (List.mem_cons_of_mem _ (List.mem_filter.mpr ⟨mem_lls.mpr ⟨u, a2, hu, rfl⟩, ?_⟩))
    have e : (j == i) = false := by simp [a1]
    by_cases hc : u.1 = 1
    · have e2 : (j + 1 == i) = false := by
        simp only [beq_eq_false_iff_ne]
        exact fun q => a4 ⟨q, hc⟩
      simp [e, e2]
    · have e3 : ((toV rf u).category == 2) = false := by rw [toV_cat, if_neg hc]; rfl
      simp [e, e3]
theorem Lr_store2 {rf : Int → Option Nat} {ls : List Vl} {arr : Array Slot} {i : Nat} {v : Vl} {w : Value} (hw : w = toV rf v) (h1 : v.1 = 1)
    (h : lv_has arr ls.length ((i, w) :: (lls rf ls).filter (fun q => !(q.1 == i) && (!(q.1 == i + 1) && !(q.1 + 1 == i && q.2.category == 2))))) : Lr rf (storeL ls i v) arr := by
  refine ⟨by rw [storeL_len]; exact h.1, h.2.1, fun j u hj hu => ?_⟩
  rcases storeL_at hj hu with ⟨rfl, rfl⟩ | ⟨a1, a2, a3, a4⟩
  · rw [← hw]
    exact h.2.2 (j, w) List.mem_cons_self
  · refine h.2.2 (j, toV rf u) (List.mem_cons_of_mem _ (List.mem_filter.mpr ⟨mem_lls.mpr ⟨u, a2, hu, rfl⟩, ?_⟩))
    have e : (j == i) = false := by simp [a1]
    have e0 : (j == i + 1) = false := by
      simp only [beq_eq_false_iff_ne]
      exact fun q => a3 ⟨h1, q⟩
    by_cases hc : u.1 = 1
    · have e2 : (j + 1 == i) = false := by
        simp only [beq_eq_false_iff_ne]
        exact fun q => a4 ⟨q, hc⟩
      simp [e, e0, e2]
    · have e3 : ((toV rf u).category == 2) = false := by rw [toV_cat, if_neg hc]; rfl
      simp [e, e0, e3]
theorem okL_store {n : Nat} {ls : List Vl} {i : Nat} {v : Vl} (h : okL n ls) (hv : okV n v) : okL n (storeL ls i v) := by
  intro u hu
  by_cases h9 : u.1 = 9
  · exact Or.inl h9
  · obtain ⟨j, hj⟩ := List.mem_iff_getElem?.mp hu
    rcases storeL_at hj h9 with ⟨-, rfl⟩ | ⟨-, a2, -⟩
    · exact Or.inr hv
    · exact h u (List.mem_iff_getElem?.mpr ⟨j, a2⟩)
theorem okV_i {n : Nat} {x : Int} (h : in32 x) : okV n (0, x) := Or.inl ⟨rfl, h⟩
theorem okV_l {n : Nat} {x : Int} (h : in64 x) : okV n (1, x) := Or.inr (Or.inl ⟨rfl, h⟩)
theorem okV_r {n : Nat} {x : Int} (h : x ≤ n) : okV n (2, x) := Or.inr (Or.inr ⟨rfl, h⟩)
theorem okV.int {n : Nat} {x : Int} (h : okV n (0, x)) : in32 x := by
  rcases h with h | h | h
  · exact h.2
  · exact absurd h.1 (by simp)
  · exact absurd h.1 (by simp)
theorem okV.long {n : Nat} {x : Int} (h : okV n (1, x)) : in64 x := by
  rcases h with h | h | h
  · exact absurd h.1 (by simp)
  · exact h.2
  · exact absurd h.1 (by simp)
theorem okV.rfr {n : Nat} {x : Int} (h : okV n (2, x)) : x ≤ n := by
  rcases h with h | h | h
  · exact absurd h.1 (by simp)
  · exact absurd h.1 (by simp)
  · exact h.2
