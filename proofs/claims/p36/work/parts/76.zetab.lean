/-! what class and model have alike -/
def zTS : List (Nat × Nat × Nat × Nat) := [(2, 2, 37, 1), (3, 2, 37, 2), (1, 0, 37, 0), (27, 0, 37, 96)]
def zTN : List Nat := [2, 3]
def zTF : List (Nat × Nat × Nat) := [(2, 2, 65), (2, 11, 74), (3, 2, 80), (3, 3, 81), (3, 4, 82), (3, 5, 83), (3, 7, 85), (3, 11, 89), (3, 12, 90), (3, 13, 91)]
def zTZ : List (Nat × Nat) := [(2, 74), (3, 89), (3, 90), (3, 91)]
def zTR : List (Nat × Nat × Nat × Nat) := [(3, 1, 2, 79)]
def zE (h : Hp) : Prop := zQS zTS h ∧ zNM zTN h ∧ zFL zTF h ∧ zZL zTZ h ∧ zRL zTR h ∧ zRO h
theorem zE_s2_2 {h : Hp} (E : zE h) : fld h 2 2 = fld h 37 1 := E.1.at (a1 := 2) (j1 := 2) (a2 := 37) (j2 := 1) (by decide +kernel)
theorem zE_s3_2 {h : Hp} (E : zE h) : fld h 3 2 = fld h 37 2 := E.1.at (a1 := 3) (j1 := 2) (a2 := 37) (j2 := 2) (by decide +kernel)
theorem zE_s1_0 {h : Hp} (E : zE h) : fld h 1 0 = fld h 37 0 := E.1.at (a1 := 1) (j1 := 0) (a2 := 37) (j2 := 0) (by decide +kernel)
theorem zE_s27_0 {h : Hp} (E : zE h) : fld h 27 0 = fld h 37 96 := E.1.at (a1 := 27) (j1 := 0) (a2 := 37) (j2 := 96) (by decide +kernel)
theorem zE_n2 {h : Hp} (E : zE h) : ∀ i : Nat, (i : Int) < fld h 2 2 → fld h (zv h 2 i) 0 = i := E.2.1.at (A := 2) (by decide +kernel)
theorem zE_n3 {h : Hp} (E : zE h) : ∀ i : Nat, (i : Int) < fld h 3 2 → fld h (zv h 3 i) 0 = i := E.2.1.at (A := 3) (by decide +kernel)
theorem zE_f2_2 {h : Hp} (E : zE h) : zF1 2 2 65 h := E.2.2.1.at (by decide +kernel)
theorem zE_f2_11 {h : Hp} (E : zE h) : zF1 2 11 74 h := E.2.2.1.at (by decide +kernel)
theorem zE_f3_2 {h : Hp} (E : zE h) : zF1 3 2 80 h := E.2.2.1.at (by decide +kernel)
theorem zE_f3_3 {h : Hp} (E : zE h) : zF1 3 3 81 h := E.2.2.1.at (by decide +kernel)
theorem zE_f3_4 {h : Hp} (E : zE h) : zF1 3 4 82 h := E.2.2.1.at (by decide +kernel)
theorem zE_f3_5 {h : Hp} (E : zE h) : zF1 3 5 83 h := E.2.2.1.at (by decide +kernel)
theorem zE_f3_7 {h : Hp} (E : zE h) : zF1 3 7 85 h := E.2.2.1.at (by decide +kernel)
theorem zE_f3_11 {h : Hp} (E : zE h) : zF1 3 11 89 h := E.2.2.1.at (by decide +kernel)
theorem zE_f3_12 {h : Hp} (E : zE h) : zF1 3 12 90 h := E.2.2.1.at (by decide +kernel)
theorem zE_f3_13 {h : Hp} (E : zE h) : zF1 3 13 91 h := E.2.2.1.at (by decide +kernel)
theorem zE_z2_74 {h : Hp} (E : zE h) : zZ1 2 74 h := E.2.2.2.1.at (by decide +kernel)
theorem zE_z3_89 {h : Hp} (E : zE h) : zZ1 3 89 h := E.2.2.2.1.at (by decide +kernel)
theorem zE_z3_90 {h : Hp} (E : zE h) : zZ1 3 90 h := E.2.2.2.1.at (by decide +kernel)
theorem zE_z3_91 {h : Hp} (E : zE h) : zZ1 3 91 h := E.2.2.2.1.at (by decide +kernel)
theorem zE_r3_1 {h : Hp} (E : zE h) : zR1 3 1 2 79 h := E.2.2.2.2.1.at (by decide +kernel)
def zkRoad (h : Hp) : Bool := (List.range 8).all (fun a => (List.range 8).all (fun b => decide (fld h 7 (8 * a + b) = if a = b then 0 else 1000000) && (decide (fld h 8 (8 * a + b) = if a = b then 0 else 1000000) && decide (fld h (48 + (a : Int)) b = 0))))
theorem zkRoad_ok {h : Hp} (e : zkRoad h = true) : zRO h := by
  have w : ∀ a b : Nat, a < 8 → b < 8 → (zLa h a b = if a = b then 0 else 1000000) ∧ (zLe h a b = if a = b then 0 else 1000000) ∧ fld h (48 + (a : Int)) b = 0 := by
    intro a b ha hb
    have q := List.all_eq_true.mp (List.all_eq_true.mp e a (List.mem_range.mpr ha)) b (List.mem_range.mpr hb)
    simp only [Bool.and_eq_true, decide_eq_true_eq] at q
    exact q
  refine ⟨fun a b ha hb => ?_, ⟨fun a b ha hb => ?_, fun a ha => ?_, fun a b c ha hb hc hc8 => ?_, fun a b ha hb hne hl => ?_⟩, fun a b ha hb => ?_⟩
  · rw [(w a b ha hb).1]
    split <;> omega
  · rw [(w a b ha hb).1, (w a b ha hb).2.1]
    split <;> omega
  · rw [(w a a ha ha).2.1, if_pos rfl]
  · rw [(w a b ha hb).2.1, (w a c ha hc8).2.1, (w c b hc8 hb).2.1]
    split <;> split <;> split <;> omega
  · rw [(w a b ha hb).2.1, if_neg hne] at hl
    omega
  · obtain ⟨w1, w2, w3⟩ := w a b ha hb
    rw [w1, w3, if_pos rfl]
    exact ⟨rfl, fun z => absurd rfl z⟩
def zkE (h : Hp) : Bool := zTS.all (fun e => decide (fld h e.1 e.2.1 = fld h e.2.2.1 e.2.2.2)) && ((zTN.all (fun A => decide (fld h A 2 = 0)) && (zTF.all (fun e => decide (fld h e.1 2 = 0)) && zTR.all (fun e => decide (fld h e.1 2 = 0)))) && (zTZ.all (fun e => (List.range (zmN e.1)).all (fun i => decide (fld h e.2 i = 0))) && zkRoad h))
theorem zkE_ok {h : Hp} (e : zkE h = true) : zE h := by
  unfold zkE at e
  simp only [Bool.and_eq_true] at e
  obtain ⟨e1, ⟨e2, e3, e4⟩, e5, e6⟩ := e
  refine ⟨fun q hq => of_decide_eq_true (List.all_eq_true.mp e1 q hq), fun A hA i hi => ?_, fun q hq i hi => ?_, fun q hq i hi hm => ?_, fun q hq i hi => ?_, zkRoad_ok e6⟩
  · have := of_decide_eq_true (List.all_eq_true.mp e2 A hA)
    omega
  · have := of_decide_eq_true (List.all_eq_true.mp e3 q hq)
    omega
  · exact of_decide_eq_true (List.all_eq_true.mp (List.all_eq_true.mp e5 q hq) i (List.mem_range.mpr (by unfold zmN; omega)))
  · have := of_decide_eq_true (List.all_eq_true.mp e4 q hq)
    omega
