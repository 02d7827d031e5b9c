/-! an array that stays -/
section
variable {h g : Hp} {ms : Zms} {c s : Int}
theorem zXR.fa {a : Nat} (R : zXR ms c s h g) (e : zun ms a = true) (ha : 0 < a ∧ a ≤ 365) : fld g (a : Int) = fld h (a : Int) := by
  funext j
  refine R.2.1 a j (by omega) (by omega) (fun f hf hz => ?_)
  have e := List.all_eq_true.mp e f hf
  rw [Bool.or_eq_true] at e
  rcases e with e | e
  · have e : f.2.1 < a := Nat.le_of_ble_eq_true e
    omega
  · have e : a < f.1 := Nat.le_of_ble_eq_true e
    omega
end
