/-! what of the model stays from call to call, as one function of table and place -/
section YM
variable {h h' g : Hp} {a i n : Nat} {x : Int} {ms : Zms}
def zu (f : Nat → Int) (i : Nat) (x : Int) : Nat → Int := fun k => if k = i then x else f k
theorem zu_eq {f : Nat → Int} : zu f i x i = x := if_pos rfl
theorem zu_ne {f : Nat → Int} {k : Nat} (e : k ≠ i) : zu f i x k = f k := if_neg e
/-- a row behind a write of one of its places -/
theorem fld_zu {r : Int} {k : Nat} (s : sh h r = some (k, n)) (hi : i < n) (e : h' = wr h r i x) : fld h' r = zu (fld h r) i x := by
  funext j
  by_cases q : j = i
  · rw [q, zu_eq, e]
    exact fld_wr_eq s hi
  · rw [zu_ne q, e]
    exact fld_wr (Or.inr q)
end YM
