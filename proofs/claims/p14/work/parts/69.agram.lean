/-! the class's grammar, search -/
section ZK
def msxK : Zms := [(9, 9, 2, 7), (11, 11, 0, 400)]
def zKX (sc : List Int) (D y : Nat) (a : Int) : Prop := ∀ h : Hp, CI h → zwC sc D y [(2, 9), (0, a)] h (zwRt 0 (fun x g => CI g ∧ zXR msxK (0) (0) h g ∧ (0 ≤ x ∧ x ≤ 1)))
theorem zKX.up {sc : List Int} {D D' y : Nat} {a : Int} (hD : D ≤ D') (H : zKX sc D y a) : zKX sc D' y a := fun h C => zwC_up hD (H h C)
def msxT : Zms := [(19, 19, 4, 5), (24, 24, 0, 6), (25, 25, 0, 6), (26, 26, 0, 6)]
def zKS (sc : List Int) (D : Nat) (a : Int) : Prop := ∀ h : Hp, CI h → ∀ b : Int, -2147483648 ≤ b ∧ b ≤ 2147483647 → zwC sc D 212 [(2, 19), (0, a), (0, b)] h (zwRv (fun g => CI g ∧ zXR msxT (0) (0) h g))
end ZK
