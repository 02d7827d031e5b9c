/-! the heap of the mini machine as the kit's world -/
def adr (rf : Int → Option Nat) (a : Nat) : Nat := (rf ((a : Int) + 1)).getD 0
def fv (rf : Int → Option Nat) (k : Nat) (l : List Int) : List Value := l.mapIdx (fun i x => toV rf (tg (kty k i), x))
def ent (rf : Int → Option Nat) (cA : Nat → ClassId) (e : Nat × List Int) : va_E :=
  if e.1 < 14 then .inr (e.1, fv rf e.1 e.2)
  else if e.1 = 23 then .inl (cA e.1, e.2.length, .inr (.inl (fun j => Int64.ofInt (e.2.getD j 0))))
  else if e.1 < 23 then .inl (cA e.1, e.2.length, .inl (fun j => Int32.ofInt (e.2.getD j 0)))
  else .inl (cA e.1, e.2.length, .inr (.inr (.inr (.inr (fun j => rf (e.2.getD j 0))))))
def wld (rf : Int → Option Nat) (cA : Nat → ClassId) (hp : Hp) : va_W := hp.mapIdx (fun a e => (adr rf a, ent rf cA e))
def okT (n t : Nat) (x : Int) : Prop := (t = 0 ∧ in32 x) ∨ (t = 1 ∧ in64 x) ∨ (t = 2 ∧ x ≤ n) ∨ (t = 3 ∧ -128 ≤ x ∧ x ≤ 127) ∨ (t = 4 ∧ (x = 0 ∨ x = 1))
def okC (n : Nat) (e : Nat × List Int) : Prop := (e.1 < 14 → e.2.length = (knds.getD e.1 []).length) ∧ (14 ≤ e.1 → 20 ≤ e.1 ∧ e.1 ≤ 29 ∧ e.2.length ≤ 200000) ∧ ∀ (i : Nat) (x : Int), e.2[i]? = some x → okT n (kty e.1 i) x
def wfH (hp : Hp) : Prop := ∀ e ∈ hp, okC hp.length e
def aty (k : Nat) : FieldType := if k = 20 then .int else if k = 21 then .byte else if k = 22 then .boolean else if k = 23 then .long else if k = 24 then .object "WheelLand$Sheet" else if k = 25 then .object "java/lang/Object" else if k = 26 then .array .int else if k = 27 then .array (.array .int) else if k = 28 then .object "java/lang/String" else .array .boolean
def ktys (cA : Nat → ClassId) : List (ClassId × FieldType) := (List.range 10).map (fun i => (cA (20 + i), aty (20 + i)))
theorem ktys_at (cA : Nat → ClassId) {k : Nat} (h1 : 20 ≤ k) (h2 : k ≤ 29) : (ktys cA)[k - 20]? = some (cA k, aty k) := by
  unfold ktys
  rw [List.getElem?_map, List.getElem?_range (by omega)]
  show some (cA (20 + (k - 20)), aty (20 + (k - 20))) = _
  rw [show 20 + (k - 20) = k by omega]
theorem wld_len (rf : Int → Option Nat) (cA : Nat → ClassId) (hp : Hp) : (wld rf cA hp).length = hp.length := List.length_mapIdx
theorem wld_at {rf : Int → Option Nat} {cA : Nat → ClassId} {hp : Hp} {a : Nat} {e : Nat × List Int} (h : hp[a]? = some e) : (wld rf cA hp)[a]? = some (adr rf a, ent rf cA e) := by
  unfold wld
  rw [List.getElem?_mapIdx, h]
  rfl
theorem wld_set {rf : Int → Option Nat} {cA : Nat → ClassId} {hp : Hp} {a : Nat} {e : Nat × List Int} : (wld rf cA hp).set a (adr rf a, ent rf cA e) = wld rf cA (hp.set a e) := by
  apply List.ext_getElem?
  intro j
  unfold wld
  rw [List.getElem?_set, List.getElem?_mapIdx, List.getElem?_mapIdx, List.getElem?_set, List.length_mapIdx]
  by_cases h : a = j
  · subst h
    by_cases hl : a < hp.length
    · simp [hl]
    · simp [hl]
  · simp [h]
/-- the references of the heap lie where they lie -/
def Rf (base : Nat) (rf : Int → Option Nat) (n : Nat) : Prop := ∀ x : Int, 0 < x → x ≤ n → ∃ q, rf x = some q
theorem adr_of {base : Nat} {rf : Int → Option Nat} {n : Nat} (h : Rf base rf n) {r : Int} (h0 : 0 < r) (hn : r ≤ n) : rf r = some (adr rf (r.toNat - 1)) := by
  obtain ⟨q, hq⟩ := h r h0 hn
  unfold adr
  rw [show (((r.toNat - 1 : Nat) : Int) + 1) = r by omega, hq]
  rfl
theorem cel_of {hp : Hp} {r : Int} {e : Nat × List Int} (h : cel hp r = some e) : 0 < r ∧ hp[r.toNat - 1]? = some e ∧ r ≤ hp.length := by
  unfold cel at h
  by_cases h0 : 0 < r
  · rw [if_pos h0] at h
    have hl := (List.getElem?_eq_some_iff.mp h).1
    exact ⟨h0, h, by omega⟩
  · rw [if_neg h0] at h
    cases h
theorem fv_at {rf : Int → Option Nat} {k i : Nat} {l : List Int} {x : Int} (h : l[i]? = some x) : (fv rf k l)[i]? = some (toV rf (tg (kty k i), x)) := by
  unfold fv
  rw [List.getElem?_mapIdx, h]
  rfl
theorem fv_set {rf : Int → Option Nat} {k i : Nat} {l : List Int} {x : Int} : (fv rf k l).set i (toV rf (tg (kty k i), x)) = fv rf k (l.set i x) := by
  apply List.ext_getElem?
  intro j
  unfold fv
  rw [List.getElem?_set, List.getElem?_mapIdx, List.getElem?_mapIdx, List.getElem?_set, List.length_mapIdx]
  by_cases h : i = j
  · subst h
    by_cases hl : i < l.length
    · simp [hl]
    · simp [hl]
  · simp [h]
theorem wfH.at {hp : Hp} (h : wfH hp) {a : Nat} {e : Nat × List Int} (he : hp[a]? = some e) : okC hp.length e := h e (List.mem_of_getElem? he)
theorem okV_of {n t : Nat} {x : Int} (h : okT n t x) : okV n (tg t, x) := by
  rcases h with ⟨rfl, h⟩ | ⟨rfl, h⟩ | ⟨rfl, h⟩ | ⟨rfl, h⟩ | ⟨rfl, h⟩
  · exact okV_i h
  · exact okV_l h
  · exact okV_r h
  · exact okV_i (by unfold in32; omega)
  · exact okV_i (by unfold in32; omega)
/-- no two places lie at one address -/
theorem adr_inj {base : Nat} {rf : Int → Option Nat} {cA : Nat → ClassId} {hp : Hp} (hD : va_D (A0 base) (wld rf cA hp)) {i j : Nat} (hi : i < hp.length) (hj : j < hp.length) (h : adr rf i = adr rf j) : i = j := by
  refine hD.1 i j _ _ (wld_at (List.getElem?_eq_getElem hi)) (wld_at (List.getElem?_eq_getElem hj)) h
theorem adr_in {base : Nat} {rf : Int → Option Nat} {cA : Nat → ClassId} {hp : Hp} (hD : va_D (A0 base) (wld rf cA hp)) {i : Nat} (hi : i < hp.length) : base ≤ adr rf i := hD.2 i _ (wld_at (List.getElem?_eq_getElem hi))
