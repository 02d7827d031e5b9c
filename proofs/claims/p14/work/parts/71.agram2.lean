/-! the class's grammar and search, all depths -/
section ZK2
theorem zkgram (sc : List Int) : ∀ (n : Nat) (a : Int), n ≤ 8 → a = 8 - (n : Int) → zKX sc (25 * n + 22) 241 a ∧ zKX sc (25 * n + 23) 281 a ∧ zKX sc (25 * n + 25) 242 a
  | 0, a, _, ha => by
    have ha : a = 8 := by omega
    subst ha
    exact ⟨x241 8 0 (by omega) (fun h => by omega), x281 8 0 (by omega) (fun h => by omega) (fun h => by omega) (fun h => by omega), x242 8 0 (by omega) (fun h => by omega) (fun h => by omega) (fun h => by omega)⟩
  | n + 1, a, hn, ha => by
    obtain ⟨k1, k2, k3⟩ := zkgram sc n (a + 1) (by omega) (by omega)
    have q1 := zKX.up (show 25 * n + 22 ≤ 25 * (n + 1) by omega) k1
    have q2 := zKX.up (show 25 * n + 23 ≤ 25 * (n + 1) by omega) k2
    have q3 := zKX.up (show 25 * n + 25 ≤ 25 * (n + 1) by omega) k3
    exact ⟨x241 a (25 * (n + 1)) (by omega) (fun _ => q1), x281 a (25 * (n + 1)) (by omega) (fun _ => q1) (fun _ => q2) (fun _ => q3), x242 a (25 * (n + 1)) (by omega) (fun _ => q1) (fun _ => q2) (fun _ => q3)⟩
theorem zk_sum (sc : List Int) : zKX sc 230 241 0 := zKX.up (by decide) (zkgram sc 8 0 (by decide) (by decide)).1
theorem zk_either (sc : List Int) : zKX sc 230 242 0 := zKX.up (by decide) (zkgram sc 8 0 (by decide) (by decide)).2.2
theorem zksearch (sc : List Int) : ∀ (n : Nat) (a : Int), n ≤ 6 → a = 6 - (n : Int) → zKS sc (9 * n + 9) a
  | 0, a, _, ha => by
    have ha : a = 6 := by omega
    subst ha
    exact x212 6 0 (by omega) (fun h => by omega)
  | n + 1, a, hn, ha => by
    have k := zksearch sc n (a + 1) (by omega) (by omega)
    exact x212 a (9 * (n + 1)) (by omega) (fun _ => k)
theorem zk_search (sc : List Int) : zKS sc 70 0 := fun h C b hb => zwC_up (by decide) (zksearch sc 6 0 (by decide) (by decide) h C b hb)
end ZK2
