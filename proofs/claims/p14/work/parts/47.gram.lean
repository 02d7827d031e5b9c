/-! the grammar of the model, all depths -/
section ZG
theorem zPX.up {sc : List Int} {D D' y : Nat} {a : Int} (hD : D ≤ D') (H : zPX sc D y a) : zPX sc D' y a := fun h I hP pc pk => zwC_up hD (H h I hP pc pk)
theorem zgram (sc : List Int) : ∀ (n : Nat) (a : Int), n ≤ 8 → a = 8 - (n : Int) → zPX sc (25 * n + 22) 248 a ∧ zPX sc (25 * n + 23) 286 a ∧ zPX sc (25 * n + 25) 249 a
  | 0, a, _, ha => by
    have ha : a = 8 := by omega
    subst ha
    exact ⟨m248 8 0 (by omega) (fun h => by omega), m286 8 0 (by omega) (fun h => by omega) (fun h => by omega) (fun h => by omega), m249 8 0 (by omega) (fun h => by omega) (fun h => by omega) (fun h => by omega)⟩
  | n + 1, a, hn, ha => by
    obtain ⟨k1, k2, k3⟩ := zgram sc n (a + 1) (by omega) (by omega)
    have q1 := zPX.up (show 25 * n + 22 ≤ 25 * (n + 1) by omega) k1
    have q2 := zPX.up (show 25 * n + 23 ≤ 25 * (n + 1) by omega) k2
    have q3 := zPX.up (show 25 * n + 25 ≤ 25 * (n + 1) by omega) k3
    exact ⟨m248 a (25 * (n + 1)) (by omega) (fun _ => q1), m286 a (25 * (n + 1)) (by omega) (fun _ => q1) (fun _ => q2) (fun _ => q3), m249 a (25 * (n + 1)) (by omega) (fun _ => q1) (fun _ => q2) (fun _ => q3)⟩
theorem zg_sum (sc : List Int) : zPX sc 230 248 0 := zPX.up (by decide) (zgram sc 8 0 (by decide) (by decide)).1
theorem zg_either (sc : List Int) : zPX sc 230 249 0 := zPX.up (by decide) (zgram sc 8 0 (by decide) (by decide)).2.2
/-- the codes of the clauses that were read -/
def zRD (h : Hp) : Prop := ∀ c : Nat, c < 5 → 0 < fld h 163 c → zok (fld h (149 + (c : Int))) (fld h 163 c).toNat
theorem zRD.mr {h g : Hp} {ms : Zms} (H : zRD h) (R : zMR ms h g) (e : (zqN ms 163 163 0 5 && ms.all (fun q => Nat.blt q.2.1 149 || Nat.blt 153 q.1)) = true) : zRD g := by
  rw [Bool.and_eq_true] at e
  intro c hc hp
  rw [R.f e.1 (r := 163) (j := c) ⟨by decide, by decide⟩ ⟨by omega, by omega⟩] at hp ⊢
  have q : fld g (149 + (c : Int)) = fld h (149 + (c : Int)) := by
    refine funext (fun j => R.2.2.2 _ j (fun f hf hz => ?_))
    have e := List.all_eq_true.mp e.2 f hf
    rw [Bool.or_eq_true] at e
    rcases e with e | e
    · have := Nat.le_of_ble_eq_true e
      omega
    · have := Nat.le_of_ble_eq_true e
      omega
  rw [q]
  exact H c hc hp
/-- one more clause -/
theorem zRD.put {h h1 h2 g : Hp} {c k : Int} (H : zRD h) (hc : 0 ≤ c ∧ c ≤ 4) (e0 : fld h1 37 45 = 0) (e1 : fld h1 37 47 = c) (er : ∀ r : Int, 149 ≤ r → r ≤ 153 → fld h1 r = fld h r) (el : fld h2 163 = fld h 163) (S : zPS h1 h2) (hk : fld h2 37 45 = k) (e : g = wr h2 163 c.toNat k) (hs : sh h2 163 = some (20, 5)) : zRD g := by
  obtain ⟨b1, b2, b3, b4, b5, b6⟩ := S
  rw [e1] at b4 b6
  rw [e0, hk] at b4
  intro j hj hp
  have er2 : fld g (149 + (j : Int)) = fld h2 (149 + (j : Int)) := funext (fun i => by rw [e]; exact fld_wr (Or.inl (by omega)))
  rw [er2]
  by_cases hq : (j : Int) = c
  · have hj2 : j = c.toNat := by omega
    have e9 : fld g 163 j = k := by rw [e, hj2]; exact fld_wr_eq hs (by omega)
    rw [e9, hq]
    exact zsg_ok b4
  · have e9 : fld g 163 j = fld h 163 j := by rw [e, fld_wr (Or.inr (by omega)), el]
    rw [e9] at hp ⊢
    rw [b6 _ (by omega) (by omega) (by omega), er _ (by omega) (by omega)]
    exact H j hj hp
end ZG
section ZH
variable {h h1 g hr : Hp}
theorem zMR.one {r : Int} {j : Nat} {x : Int} {a1 a2 j1 j2 : Nat} (k1 : (a1 : Int) ≤ r ∧ r ≤ (a2 : Int)) (k2 : j1 ≤ j ∧ j < j2) (e : g = wr h r j x) : zMR [(a1, a2, j1, j2)] h g :=
  (zMR.rf _ _).w (a1 := a1) (a2 := a2) (j1 := j1) (j2 := j2) (by unfold zqM; simp) k1 k2 e
/-- sheets: all rows but those of sheet s are as they were at hr -/
def zSH (hr h : Hp) (s : Int) : Prop := ∀ r : Int, 101 ≤ r → r ≤ 163 → r ≠ 155 + s → ¬ (101 + 6 * s ≤ r ∧ r ≤ 105 + 6 * s) → fld h r = fld hr r
theorem zSH.w {s r x : Int} {j : Nat} (H : zSH hr h s) (e : g = wr h r j x) (hq : r = 155 + s ∨ (101 + 6 * s ≤ r ∧ r ≤ 105 + 6 * s) ∨ r = 37) : zSH hr g s := by
  intro q k1 k2 k3 k4
  rw [← H q k1 k2 k3 k4]
  funext i
  rw [e]
  refine fld_wr (Or.inl ?_)
  intro hz
  subst hz
  omega
/-- row c of sheet s: the first n are those that were read -/
def zSC (hr h : Hp) (s c n : Int) : Prop := ∀ i : Nat, (i : Int) < n → fld h (101 + 6 * s + c) i = fld hr (149 + c) i
def zSA (hr h : Hp) (s c : Int) : Prop := ∀ q : Nat, (q : Int) < c → fld h (155 + s) q = fld hr 163 q ∧ zSC hr h s q (2 * fld hr 163 q)
theorem zSA.w {s c r x : Int} {j : Nat} (H : zSA hr h s c) (e : g = wr h r j x) (hq : (r = 155 + s ∧ (j : Int) = c) ∨ r = 101 + 6 * s + c ∨ r = 37) (hs : 0 ≤ s ∧ s ≤ 7) (hc : 0 ≤ c ∧ c ≤ 5) : zSA hr g s c := by
  intro q k1
  obtain ⟨a1, a2⟩ := H q k1
  refine ⟨?_, fun i hi => ?_⟩
  · rw [e, fld_wr (by omega)]
    exact a1
  · rw [e, fld_wr (by omega)]
    exact a2 i hi
theorem zSC.w {s c r x : Int} {j : Nat} {n : Int} (H : zSC hr h s c n) (e : g = wr h r j x) (hq : r ≠ 101 + 6 * s + c) : zSC hr g s c n := fun i hi => by
  rw [e, fld_wr (Or.inl (Ne.symm hq))]
  exact H i hi
theorem zSC.s {s c x : Int} {j : Nat} {n : Int} (H : zSC hr h s c n) (e : g = wr h (101 + 6 * s + c) j x) (hn : (j : Int) = n) (hx : x = fld hr (149 + c) j) (hs : sh h (101 + 6 * s + c) = some (20, 840)) (hj : j < 840) : zSC hr g s c (n + 1) := by
  intro i hi
  rw [e]
  by_cases hq : i = j
  · rw [hq, fld_wr_eq hs hj, hx]
  · rw [fld_wr (Or.inr hq)]
    exact H i (by omega)
theorem zSA.s {s c : Int} (H : zSA hr h s c) (hc : 0 ≤ c) (hl : fld h (155 + s) c.toNat = fld hr 163 c.toNat) (S : zSC hr h s c (2 * fld hr 163 c.toNat)) : zSA hr h s (c + 1) := by
  intro q k1
  by_cases hq : (q : Int) < c
  · exact H q hq
  · have e1 : (q : Int) = c := by omega
    have e2 : q = c.toNat := by omega
    rw [e1, e2]
    exact ⟨hl, S⟩
/-- a sheet more -/
theorem zCW.sh {s : Int} (H : zCW hr) (RD : zRD hr) (I : zI hr) (S : zSH hr h s) (A : zSA hr h s 5) (hs : 0 ≤ s ∧ s ≤ 7) (e0 : fld hr 37 52 = s) (e1 : fld h 37 52 = s) (e2 : fld h 37 53 = fld hr 37 53) (e3 : fld h 164 = fld hr 164) (e : g = wr h 37 52 (s + 1)) (hsh : sh h 37 = some (13, 97)) : zCW g := by
  have f1 : fld g 37 52 = s + 1 := by rw [e]; exact fld_wr_eq hsh (by decide)
  have fo : ∀ (r : Int) (j : Nat), r ≠ 37 → fld g r j = fld h r j := fun r j hr => by rw [e]; exact fld_wr (Or.inl hr)
  have f2 : fld g 37 53 = fld hr 37 53 := by rw [e, fld_wr (Or.inr (by decide))]; exact e2
  refine ⟨fun q c hq hc hp => ?_, fun k hk => ?_⟩
  · rw [f1] at hq
    have w : fld g (101 + 6 * (q : Int) + (c : Int)) = fld h (101 + 6 * (q : Int) + (c : Int)) := funext (fun j => fo _ j (by omega))
    rw [w]
    rw [fo _ c (by omega)] at hp ⊢
    by_cases hqs : (q : Int) = s
    · rw [hqs] at hp ⊢
      obtain ⟨a1, a2⟩ := A c (by omega)
      rw [a1] at hp ⊢
      refine zok_c (RD c hc hp) (fun j hj => ?_)
      exact (a2 j (by omega)).symm
    · have z1 := S (155 + (q : Int)) (by omega) (by omega) (by omega) (by omega)
      have z2 := S (101 + 6 * (q : Int) + (c : Int)) (by omega) (by omega) (by omega) (by omega)
      rw [z1] at hp ⊢
      rw [z2]
      exact H.1 q c (by omega) hc hp
  · rw [f2] at hk
    rw [f1, fo _ k (by decide), e3]
    have := H.2 k hk
    omega
end ZH
