/-! the grammar of the model, all depths -/
section ZG
theorem zPX.up {sc : List Int} {D D' y : Nat} {a : Int} (hD : D ≤ D') (H : zPX sc D y a) : zPX sc D' y a := fun h I hP pc pk => zwC_up hD (H h I hP pc pk)
theorem zgram (sc : List Int) : ∀ (n : Nat) (a : Int), n ≤ 8 → a = 8 - (n : Int) → zPX sc (25 * n + 22) 248 a ∧ zPX sc (25 * n + 23) 286 a ∧ zPX sc (25 * n + 25) 249 a
  | 0, a, _, ha => by
    have ha : a = 8 := by omega
    subst ha
    exact ⟨m248 8 0 (by omega) (fun h => by omega), m286 8 0 (by omega) (fun h => by omega) (fun h => by omega) (fun h => by omega), m249 8 0 (by omega) (fun h => by omega) (fun h => by omega) (fun h => by omega)⟩
  | n + 1, a, hn, ha => by
    obtain ⟨k1, k2, k3⟩ := zgram sc n (a + 1) (by omega) (by omega)
    have q1 := zPX.up (show 25 * n + 22 ≤ 25 * (n + 1) by omega) k1
    have q2 := zPX.up (show 25 * n + 23 ≤ 25 * (n + 1) by omega) k2
    have q3 := zPX.up (show 25 * n + 25 ≤ 25 * (n + 1) by omega) k3
    exact ⟨m248 a (25 * (n + 1)) (by omega) (fun _ => q1), m286 a (25 * (n + 1)) (by omega) (fun _ => q1) (fun _ => q2) (fun _ => q3), m249 a (25 * (n + 1)) (by omega) (fun _ => q1) (fun _ => q2) (fun _ => q3)⟩
theorem zg_sum (sc : List Int) : zPX sc 230 248 0 := zPX.up (by decide) (zgram sc 8 0 (by decide) (by decide)).1
theorem zg_either (sc : List Int) : zPX sc 230 249 0 := zPX.up (by decide) (zgram sc 8 0 (by decide) (by decide)).2.2
/-- the codes of the clauses that were read -/
def zRD (h : Hp) : Prop := ∀ c : Nat, c < 5 → 0 < fld h 163 c → zok (fld h (149 + (c : Int))) (fld h 163 c).toNat
theorem zRD.mr {h g : Hp} {ms : Zms} (H : zRD h) (R : zMR ms h g) (e : (zqN ms 163 163 0 5 && ms.all (fun q => Nat.blt q.2.1 149 || Nat.blt 153 q.1)) = true) : zRD g := by
  rw [Bool.and_eq_true] at e
  intro c hc hp
  rw [R.f e.1 (r := 163) (j := c) ⟨by decide, by decide⟩ ⟨by omega, by omega⟩] at hp ⊢
  have q : fld g (149 + (c : Int)) = fld h (149 + (c : Int)) := by
    refine funext (fun j => R.2.2.2 _ j (fun f hf hz => ?_))
    have e := List.all_eq_true.mp e.2 f hf
    rw [Bool.or_eq_true] at e
    rcases e with e | e
    · have := Nat.le_of_ble_eq_true e
      omega
    · have := Nat.le_of_ble_eq_true e
      omega
  rw [q]
  exact H c hc hp
/-- one more clause -/
theorem zRD.put {h h1 h2 g : Hp} {c k : Int} (H : zRD h) (hc : 0 ≤ c ∧ c ≤ 4) (e0 : fld h1 37 45 = 0) (e1 : fld h1 37 47 = c) (er : ∀ r : Int, 149 ≤ r → r ≤ 153 → fld h1 r = fld h r) (el : fld h2 163 = fld h 163) (S : zPS h1 h2) (hk : fld h2 37 45 = k) (e : g = wr h2 163 c.toNat k) (hs : sh h2 163 = some (20, 5)) : zRD g := by
  obtain ⟨b1, b2, b3, b4, b5, b6⟩ := S
  rw [e1] at b4 b6
  rw [e0, hk] at b4
  intro j hj hp
  have er2 : fld g (149 + (j : Int)) = fld h2 (149 + (j : Int)) := funext (fun i => by rw [e]; exact fld_wr (Or.inl (by omega)))
  rw [er2]
  by_cases hq : (j : Int) = c
  · have hj2 : j = c.toNat := by omega
    have e9 : fld g 163 j = k := by rw [e, hj2]; exact fld_wr_eq hs (by omega)
    rw [e9, hq]
    exact zsg_ok b4
  · have e9 : fld g 163 j = fld h 163 j := by rw [e, fld_wr (Or.inr (by omega)), el]
    rw [e9] at hp ⊢
    rw [b6 _ (by omega) (by omega) (by omega), er _ (by omega) (by omega)]
    exact H j hj hp
end ZG
