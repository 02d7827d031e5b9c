/-! the heap behind both constructors -/
noncomputable def zbK (chk : Hp → Bool) : Bool := match bx 1500 9 1 0 [(2, 1)] [] [(12, List.replicate 13 0)] with
  | some (none, h1) => (match bx 1500 9 2 0 [(2, ((h1.length + 1 : Nat) : Int))] [] (h1 ++ [(13, List.replicate 97 0)]) with
    | some (none, h2) => chk h2
    | _ => false)
  | _ => false
set_option maxRecDepth 100000 in
theorem zbK_1 : zbK (fun h => Nat.beq h.length 365) = true := by decide +kernel
