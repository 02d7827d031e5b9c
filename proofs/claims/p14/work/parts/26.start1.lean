/-! the start: classes and arrays known -/
section ST1
variable {s : State} {args : Array Value}
theorem use_of (h : ∀ w ∈ lw_tbl, w.before args s = true) : ∀ w ∈ lw_use, w.before args s = true := fun w hw => h w (List.mem_filter.mp hw).1
theorem ar_p {ty : FieldType} (hp : ∀ C, ty ≠ .object C) (h : (Cond.arrayClass ty).before args s = true) : ∃ c : ClassId, ArrOfT s c ty ∧ va_RA s c ty := by
  obtain ⟨c, k, comp, h1, h2, h3⟩ := Cond.arrayClass_spec h
  refine ⟨c, fun n z => ⟨fun k h => (by cases h), k, h2, comp, h3⟩, ?_⟩
  cases ty with
  | object C => exact absurd rfl (hp C)
  | _ => exact h1
theorem ar_o {C : String} (h : (Cond.arrayOver (.object C)).before args s = true) : ∃ c : ClassId, ArrOfT s c (.object C) ∧ va_RA s c (.object C) := by
  obtain ⟨comp, c, k, h1, -, h2, h3, h4⟩ := Cond.arrayOver_spec h
  exact ⟨c, fun n z => ⟨fun k h => (by cases h), k, h2, comp, h3⟩, k, comp, h2, h3, h1, h4⟩
theorem ar_a {t : FieldType} (h : (Cond.arrayOver (.array t)).before args s = true) : ∃ c : ClassId, ArrOfT s c (.array t) ∧ va_RA s c (.array t) := by
  obtain ⟨comp, c, k, h1, -, h2, h3, h4⟩ := arrayOverA_spec h
  exact ⟨c, fun n z => ⟨fun k h => (by cases h), k, h2, comp, h3⟩, h4⟩
theorem ar_all (hts : ∀ w ∈ lw_use, w.before args s = true) : ∀ k : Nat, k < 10 → ∃ c : ClassId, ArrOfT s c (aty (20 + k)) ∧ va_RA s c (aty (20 + k)) := by
  intro k hk
  have e : k = 0 ∨ k = 1 ∨ k = 2 ∨ k = 3 ∨ k = 4 ∨ k = 5 ∨ k = 6 ∨ k = 7 ∨ k = 8 ∨ k = 9 := by omega
  rcases e with rfl | rfl | rfl | rfl | rfl | rfl | rfl | rfl | rfl | rfl
  · exact ar_p (fun C h => by cases h) (hts (.arrayClass .int) (wq_of (i := 182) (by decide +kernel)))
  · exact ar_p (fun C h => by cases h) (hts (.arrayClass .byte) (wq_of (i := 1098) (by decide +kernel)))
  · exact ar_p (fun C h => by cases h) (hts (.arrayClass .boolean) (wq_of (i := 1768) (by decide +kernel)))
  · exact ar_p (fun C h => by cases h) (hts (.arrayClass .long) (wq_of (i := 1767) (by decide +kernel)))
  · exact ar_o (hts (.arrayOver (.object "WheelLand$Sheet")) (wq_of (i := 227) (by decide +kernel)))
  · exact ar_o (hts (.arrayOver (.object "java/lang/Object")) (wq_of (i := 535) (by decide +kernel)))
  · exact ar_a (hts (.arrayOver (.array .int)) (wq_of (i := 1450) (by decide +kernel)))
  · exact ar_a (hts (.arrayOver (.array (.array .int))) (wq_of (i := 1452) (by decide +kernel)))
  · exact ar_o (hts (.arrayOver (.object "java/lang/String")) (wq_of (i := 1454) (by decide +kernel)))
  · exact ar_a (hts (.arrayOver (.array .boolean)) (wq_of (i := 1474) (by decide +kernel)))
def inW : List Nat := [137, 1190, 294, 250, 597, 335, 744, 184, 163, 219, 1108, 411, 129, 1444]
set_option maxRecDepth 1000000 in
theorem cl_inst : ∀ k, k < 14 → wq (inW.getD k 0) (.instantiable (vwCl.getD k ("", fun _ => ("", "", "", false), 0)).1 (vwCl.getD k ("", fun _ => ("", "", "", false), 0)).2.2) = true := by decide +kernel
theorem kn_all (hts : ∀ w ∈ lw_use, w.before args s = true) : ∃ (D : va_G) (cA : Nat → ClassId), va_K D vwCl (ktys cA) s := by
  have h : ∀ c : Nat, ∃ x : ClassId × (Nat → Nat), ∀ q, vwCl[c]? = some q → u_Kn s q.1 q.2.1 q.2.2 x.1 x.2 := by
    intro c
    cases hq : vwCl[c]? with
    | none => exact ⟨(0, fun _ => 0), fun q h => by cases h⟩
    | some q =>
      have hl := (List.getElem?_eq_some_iff.mp hq).1
      have hi := cl_inst c hl
      rw [List.getD_eq_getElem?_getD (l := vwCl), hq] at hi
      obtain ⟨cC, iS, hk⟩ := u_known (C := q.1) (T := q.2.1) (N := q.2.2) hts (cl_ws c q hq) (hts _ (wq_of hi))
      exact ⟨(cC, iS), fun q' h => by cases h; exact hk⟩
  have g : ∀ k : Nat, ∃ c : ClassId, 20 ≤ k → k < 30 → ArrOfT s c (aty k) ∧ va_RA s c (aty k) := by
    intro k
    by_cases hk : 20 ≤ k ∧ k < 30
    · obtain ⟨c, hc⟩ := ar_all hts (k - 20) (by omega)
      rw [show 20 + (k - 20) = k by omega] at hc
      exact ⟨c, fun _ _ => hc⟩
    · exact ⟨0, fun h1 h2 => absurd ⟨h1, h2⟩ hk⟩
  refine ⟨(fun c => (Classical.choose (h c)).1, fun c => (Classical.choose (h c)).2), fun k => Classical.choose (g k), fun c q hq => Classical.choose_spec (h c) q hq, ?_⟩
  intro k q hq
  unfold ktys at hq
  rw [List.getElem?_map] at hq
  obtain ⟨i, hi, rfl⟩ := Option.map_eq_some_iff.mp hq
  obtain ⟨hl, rfl⟩ := List.getElem?_eq_some_iff.mp hi
  rw [List.length_range] at hl
  rw [List.getElem_range]
  exact Classical.choose_spec (g (20 + k)) (by omega) (by omega)
end ST1
