noncomputable def ckM (y : Nat) : Bool := plainName (mN y).cls && (kcs.getD y []).all (fun x => dcAll mK mL mN mB mR y x.1 x.2)
set_option maxRecDepth 1000000 in
theorem tq : (List.range' 40 1).all (fun y => (kcs.getD y []).all (fun x => dq (mB y) x.1 .iadd 1 == false || true)) = true := by decide +kernel
