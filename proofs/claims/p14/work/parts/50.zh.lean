/-! the model's search, all depths -/
theorem zTX.up {sc : List Int} {D D' : Nat} {a : Int} (hD : D ≤ D') (H : zTX sc D a) : zTX sc D' a := fun h I hY hL pk => zwC_up hD (H h I hY hL pk)
theorem ztries (sc : List Int) : ∀ (n : Nat) (a : Int), n ≤ 6 → a = 6 - (n : Int) → zTX sc (10 * n + 10) a
  | 0, a, _, ha => by
    have ha : a = 6 := by omega
    subst ha
    exact m213 6 0 (by omega) (fun h => by omega)
  | n + 1, a, hn, ha => m213 a (10 * n + 10) (by omega) (fun _ => ztries sc n (a + 1) (by omega) (by omega))
theorem ztries0 (sc : List Int) : zTX sc 80 0 := zTX.up (by decide) (ztries sc 6 0 (by decide) (by decide))
