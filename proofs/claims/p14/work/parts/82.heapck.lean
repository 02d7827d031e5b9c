/-! what holds behind both constructors -/
def zkS (h : Hp) : Bool := zShL.all (fun e => (List.range (e.2.1 + 1 - e.1)).all (fun i => match cel h ((e.1 + i : Nat) : Int) with
  | some (k, l) => Nat.beq k e.2.2.1 && Nat.beq l.length e.2.2.2
  | none => false))
def zkB (h : Hp) : Bool := zBdL.all (fun e => (List.range (e.2.1 + 1 - e.1)).all (fun i => match cel h ((e.1 + i : Nat) : Int) with
  | some (_, l) => Nat.ble e.2.2.2.1 l.length && ((l.drop e.2.2.1).take (e.2.2.2.1 - e.2.2.1)).all (fun x => decide (e.2.2.2.2.1 ≤ x) && decide (x ≤ e.2.2.2.2.2))
  | none => false))
def zkR (h : Hp) : Bool := zRwL.all (fun e => (List.range e.2.1).all (fun j => decide (fld h (e.1 : Int) j = (e.2.2.1 : Int) + (e.2.2.2 : Int) * (j : Int))))
def zkO (h : Hp) : Bool := (Nat.beq h.length 365 && Nat.ble (sz h) 3000000) && ((zLis.all (fun A => decide (fld h (A : Int) 2 = 0) && decide (fld h (A : Int) 1 = -2)) && (List.range 12).all (fun i => decide (fld h 15 i = 0))) && ((decide (fld h 37 1 = 0) && decide (fld h 37 2 = 0)) && ((decide (fld h 37 52 = 0) && decide (fld h 37 53 = 0)) && zkE h)))
def zkA (h : Hp) : Bool := zkS h && (zkB h && (zkR h && zkO h))
theorem zkS_ok {h : Hp} (e : zkS h = true) : zSh h := by
  intro q hq r k1 k2
  have w := List.all_eq_true.mp (List.all_eq_true.mp e q hq) (r - q.1).toNat (List.mem_range.mpr (by omega))
  rw [show ((q.1 + (r - q.1).toNat : Nat) : Int) = r by omega] at w
  cases hc : cel h r with
  | none => rw [hc] at w; cases w
  | some z =>
    obtain ⟨k, l⟩ := z
    rw [hc] at w
    dsimp only at w
    rw [Bool.and_eq_true] at w
    rw [sh_of hc, Nat.eq_of_beq_eq_true w.1, Nat.eq_of_beq_eq_true w.2]
theorem zkB_ok {h : Hp} (e : zkB h = true) : zBd h := by
  intro q hq r j k1 k2 k3 k4
  have w := List.all_eq_true.mp (List.all_eq_true.mp e q hq) (r - q.1).toNat (List.mem_range.mpr (by omega))
  rw [show ((q.1 + (r - q.1).toNat : Nat) : Int) = r by omega] at w
  cases hc : cel h r with
  | none => rw [hc] at w; cases w
  | some z =>
    obtain ⟨k, l⟩ := z
    rw [hc] at w
    dsimp only at w
    rw [Bool.and_eq_true] at w
    have hl := Nat.le_of_ble_eq_true w.1
    have hj : j < l.length := by omega
    have m : l[j] ∈ (l.drop q.2.2.1).take (q.2.2.2.1 - q.2.2.1) := by
      rw [List.mem_iff_getElem]
      refine ⟨j - q.2.2.1, by rw [List.length_take, List.length_drop]; omega, ?_⟩
      rw [List.getElem_take, List.getElem_drop]
      congr 1
      omega
    have b := List.all_eq_true.mp w.2 _ m
    rw [Bool.and_eq_true, decide_eq_true_eq, decide_eq_true_eq] at b
    rw [fld_of hc, List.getD_eq_getElem?_getD, List.getElem?_eq_getElem hj]
    exact b
theorem zkR_ok {h : Hp} (e : zkR h = true) : zRw h := by
  intro q hq j k1
  exact of_decide_eq_true (List.all_eq_true.mp (List.all_eq_true.mp e q hq) j (List.mem_range.mpr k1))
theorem zkA_ok {h : Hp} (e : zkA h = true) : CI h ∧ zAM h ∧ zCW h ∧ zE h ∧ (h.length : Int) - (2 * fld h 4 2 + fld h 21 2) ≤ 400 ∧ (sz h : Int) - (1007 * fld h 4 2 + 1000 * fld h 21 2) ≤ 3000000 := by
  unfold zkA at e
  simp only [Bool.and_eq_true] at e
  obtain ⟨e1, e2, e3, e4⟩ := e
  unfold zkO at e4
  simp only [Bool.and_eq_true, decide_eq_true_eq, List.all_eq_true] at e4
  obtain ⟨⟨l1, l2⟩, ⟨q1, q2⟩, ⟨m1, m2⟩, ⟨m3, m4⟩, m5⟩ := e4
  have l1 := Nat.eq_of_beq_eq_true l1
  have l2 := Nat.le_of_ble_eq_true l2
  have f2 : fld h 2 2 = 0 := (q1 2 (by decide)).1
  have f4 : fld h 4 2 = 0 := (q1 4 (by decide)).1
  have f21 : fld h 21 2 = 0 := (q1 21 (by decide)).1
  refine ⟨⟨⟨zkS_ok e1, zkB_ok e2, zkR_ok e3⟩, fun r k n j k1 k2 k3 => ?_, fun A hA => Or.inl (q1 A hA), fun A hA B hB hne ha => ?_, fun i hi => Or.inl (q2 i (List.mem_range.mpr hi))⟩, fun j hj => by omega, ⟨fun s c hs => by omega, fun k hk => by omega⟩, zkE_ok m5, by omega, by omega⟩
  · have := (sh_pos k2).2
    omega
  · have := (q1 A hA).2
    omega
set_option maxRecDepth 100000 in
theorem zbK_A : zbK zkA = true := by decide +kernel
