/-! tables that stay where what they rest on stays -/
section YFR
variable {h h1 g : Hp} {ms ms' : Zms} {c s c' s' : Int} {a i k n : Nat} {x : Int}
theorem yK_3 (e : yK a = 3) : a = 48 := by
  cases c1 : Nat.beq a 48 with
  | true => exact Nat.eq_of_beq_eq_true c1
  | false =>
    exfalso
    unfold yK at e
    rw [c1] at e
    revert e
    cases Nat.beq a 37 <;> cases Nat.beq a 39 <;> cases Nat.beq a 57 <;> cases Nat.beq a 98 <;> cases Nat.beq a 164 <;> cases Nat.beq a 186 <;> cases (Nat.beq a 8 || (Nat.beq a 101 || Nat.beq a 155)) <;> cases Nat.beq (yFx a) 0 <;> cases Nat.beq (yRA a).1 0 <;> cases Nat.beq (yFA a) 0 <;> decide
theorem yK_5 (e : yK a = 5) : a = 98 := by
  cases c1 : Nat.beq a 98 with
  | true => exact Nat.eq_of_beq_eq_true c1
  | false =>
    exfalso
    unfold yK at e
    rw [c1] at e
    revert e
    cases Nat.beq a 37 <;> cases Nat.beq a 39 <;> cases Nat.beq a 48 <;> cases Nat.beq a 57 <;> cases Nat.beq a 164 <;> cases Nat.beq a 186 <;> cases (Nat.beq a 8 || (Nat.beq a 101 || Nat.beq a 155)) <;> cases Nat.beq (yFx a) 0 <;> cases Nat.beq (yRA a).1 0 <;> cases Nat.beq (yFA a) 0 <;> decide
theorem yK_6 (e : yK a = 6) : a = 164 := by
  cases c1 : Nat.beq a 164 with
  | true => exact Nat.eq_of_beq_eq_true c1
  | false =>
    exfalso
    unfold yK at e
    rw [c1] at e
    revert e
    cases Nat.beq a 37 <;> cases Nat.beq a 39 <;> cases Nat.beq a 48 <;> cases Nat.beq a 57 <;> cases Nat.beq a 98 <;> cases Nat.beq a 186 <;> cases (Nat.beq a 8 || (Nat.beq a 101 || Nat.beq a 155)) <;> cases Nat.beq (yFx a) 0 <;> cases Nat.beq (yRA a).1 0 <;> cases Nat.beq (yFA a) 0 <;> decide
theorem yK_7 (e : yK a = 7) : a = 186 := by
  cases c1 : Nat.beq a 186 with
  | true => exact Nat.eq_of_beq_eq_true c1
  | false =>
    exfalso
    unfold yK at e
    rw [c1] at e
    revert e
    cases Nat.beq a 37 <;> cases Nat.beq a 39 <;> cases Nat.beq a 48 <;> cases Nat.beq a 57 <;> cases Nat.beq a 98 <;> cases Nat.beq a 164 <;> cases (Nat.beq a 8 || (Nat.beq a 101 || Nat.beq a 155)) <;> cases Nat.beq (yFx a) 0 <;> cases Nat.beq (yRA a).1 0 <;> cases Nat.beq (yFA a) 0 <;> decide
/-- the lists and the objects stay -/
def yXo (ms : Zms) : Bool := (zun ms 2 && (zun ms 3 && (zun ms 4 && zun ms 5))) && (zqN ms 1011 1011 0 17 && (zqN ms 1004 1004 0 19 && (zqN ms 1006 1006 0 7 && (zqN ms 1001 1001 0 6 && zqN ms 1020 1020 0 157))))
/-- one place of a table, where what it rests on stays -/
theorem yC_z (C : CI h) (R : zXR ms c s h g) (e : yXo ms = true) (hS : a = 37 → ySc i = true → fld g ((ySr i).1 : Nat) (ySr i).2 = fld h ((ySr i).1 : Nat) (ySr i).2) (h7 : a = 48 → i < 64 → fld g 7 i = fld h 7 i) (h10 : a = 98 → i < 400 → fld g 10 i = fld h 10 i) (h1 : a = 57 → fld g 1 0 = fld h 1 0) (h13 : a = 164 → fld g 13 1 = fld h 13 1 ∧ fld g 15 = fld h 15) (h20 : a = 186 → zun ms 20 = true) (hX : yK a = 9 → i < ySz a → fld g ((yFx a : Nat) : Int) i = fld h ((yFx a : Nat) : Int) i) (h8 : yK a ≠ 8) : yC g a i = yC h a i := by
  unfold yXo at e
  simp only [Bool.and_eq_true] at e
  obtain ⟨⟨e2, e3, e4, e5⟩, o11, o4, o6, o1, o20⟩ := e
  have m2 : (2 : Nat) ∈ zLis := by decide
  have m3 : (3 : Nat) ∈ zLis := by decide
  have m4 : (4 : Nat) ∈ zLis := by decide
  have m5 : (5 : Nat) ∈ zLis := by decide
  have m20 : (20 : Nat) ∈ zLis := by decide
  have L : ∀ A : Nat, (A = 2 ∨ A = 3 ∨ A = 4 ∨ A = 5) → A ∈ zLis ∧ fld g A 2 = fld h A 2 ∧ ∀ i : Nat, (i : Int) < fld h A 2 → zv g A i = zv h A i := by
    intro A hA
    rcases hA with rfl | rfl | rfl | rfl
    · exact ⟨m2, R.vz m2 e2, fun i hi => R.v C m2 e2 hi⟩
    · exact ⟨m3, R.vz m3 e3, fun i hi => R.v C m3 e3 hi⟩
    · exact ⟨m4, R.vz m4 e4, fun i hi => R.v C m4 e4 hi⟩
    · exact ⟨m5, R.vz m5 e5, fun i hi => R.v C m5 e5 hi⟩
  have F : ∀ (A j : Nat), A ∈ zLis → zfin (zkd A) j = true → ∀ i : Nat, (i : Int) < fld h A 2 → fld g (zv h A i) j = fld h (zv h A i) j := by
    intro A j hA hf i hi
    obtain ⟨h1, n, h2⟩ := zv_s C hA hi
    exact R.2.2.1 _ _ n j h1 h2 hf
  obtain ⟨-, l2, v2⟩ := L 2 (by omega)
  have l2 : fld g 2 2 = fld h 2 2 := l2
  unfold yC
  split
  · rename_i hK
    have z := yK_1 hK
    cases c2 : ySc i with
    | false => rfl
    | true => exact hS z c2
  · rw [l2]
    by_cases q : i < 32 ∧ ((i / 4 : Nat) : Int) < fld h 2 2
    · rw [if_pos q, if_pos q, v2 _ q.2, F 2 1 m2 rfl _ q.2]
    · rw [if_neg q, if_neg q]
  · rename_i hK
    by_cases q : i < 64
    · rw [if_pos q, if_pos q, h7 (yK_3 hK) q]
    · rw [if_neg q, if_neg q]
  · rename_i hK
    rw [l2, h1 (yK_4 hK)]
    by_cases q : i < 1256 ∧ ((i / 157 : Nat) : Int) < fld h 2 2 ∧ ((i % 157 : Nat) : Int) ≤ fld h 1 0
    · rw [if_pos q, if_pos q, v2 _ q.2.1, F 2 16 m2 rfl _ q.2.1]
      have gv : gV h (zv h 2 (i / 157)) := (zv_g C (A := 2) m2 q.2.1).2
      exact R.dy (k := 20) (n := 157) (j1 := 0) (j2 := 157) o20 gv.2.2.1 gv.2.2.2 (by decide) ⟨Nat.zero_le _, Nat.mod_lt _ (by decide)⟩
    · rw [if_neg q, if_neg q]
  · rename_i hK
    by_cases q : i < 400
    · rw [if_pos q, if_pos q, h10 (yK_5 hK) q]
    · rw [if_neg q, if_neg q]
  · rename_i hK
    obtain ⟨p1, p2⟩ := h13 (yK_6 hK)
    rw [p1, p2]
    by_cases q : (i : Int) < fld h 13 1
    · have hb := C.1.b (a1 := 13) (a2 := 13) (j1 := 1) (j2 := 2) (lo := 0) (hi := 12) (by decide +kernel) (r := 13) (j := 1) (by decide) (by decide) (by decide) (by decide)
      rw [if_pos q, if_pos q]
      rcases C.2.2.2.2 i (by omega) with z | z
      · rw [z]
        unfold fld
        rw [cel_0, cel_0]
      · exact R.2.2.1 _ 10 3 0 z.1 z.2.1 rfl
    · rw [if_neg q, if_neg q]
  · rename_i hK
    have e20 := h20 (yK_7 hK)
    have l20 : fld g 20 2 = fld h 20 2 := R.vz m20 e20
    rw [l20]
    by_cases q : (i : Int) < fld h 20 2
    · rw [if_pos q, if_pos q, R.v C m20 e20 q, F 20 0 m20 rfl i q]
    · rw [if_neg q, if_neg q]
  · rename_i hK
    exact absurd hK h8
  · rename_i hK
    by_cases q : i < ySz a
    · rw [if_pos q, if_pos q, hX hK q]
    · rw [if_neg q, if_neg q]
  · rename_i hK
    have w := yK_10 hK
    obtain ⟨lA, zA, vA⟩ := L (yRA a).1 (by omega)
    rw [zA]
    by_cases q : (i : Int) < fld h ((yRA a).1 : Nat) 2
    · have wf : zfin (zkd (yRA a).1) (yRA a).2.1 = true := by
        rcases w with ⟨z1, z2⟩ | ⟨z1, z2⟩ | ⟨z1, z2⟩ | ⟨z1, z2⟩ <;> rw [z1, z2] <;> rfl
      rw [if_pos q, if_pos q, vA i q, F _ _ lA wf i q]
      have gr : ∃ kk nn, 365 < fld h (zv h (yRA a).1 i) (yRA a).2.1 ∧ sh h (fld h (zv h (yRA a).1 i) (yRA a).2.1) = some (kk, nn) ∧ zfin kk 0 = true := by
        have G := (zv_g C lA q).2
        unfold zG at G
        rcases w with ⟨z1, z2⟩ | ⟨z1, z2⟩ | ⟨z1, z2⟩ | ⟨z1, z2⟩
        · rw [z1] at G ⊢; rw [z2]; exact ⟨11, 17, G.2.2.1, G.2.2.2.1, rfl⟩
        · rw [z1] at G ⊢; rw [z2]; exact ⟨4, 19, G.2.2.1, G.2.2.2.1, rfl⟩
        · rw [z1] at G ⊢; rw [z2]; exact ⟨6, 7, G.2.2.1.1, G.2.2.1.2.1, rfl⟩
        · rw [z1] at G ⊢; rw [z2]; exact ⟨4, 19, G.2.2.2.1, G.2.2.2.2.1, rfl⟩
      obtain ⟨kk, nn, g1, g2, g3⟩ := gr
      exact R.2.2.1 _ kk nn 0 g1 g2 g3
    · rw [if_neg q, if_neg q]
  · rename_i hK
    obtain ⟨u1, u2, u3⟩ := yF_of hK
    obtain ⟨lA, zA, vA⟩ := L (yFA a) (by omega)
    rw [zA]
    by_cases q : (i : Int) < fld h ((yFA a : Nat) : Int) 2
    · rw [if_pos q, if_pos q, vA i q]
      have tb := List.all_eq_true.mp yF_len a (List.mem_range.mpr (yF_lt hK))
      rw [hK] at tb
      simp only [Nat.beq_refl, Bool.not_true, Bool.false_or] at tb
      have tb : yFj a < (if yFA a = 2 then 17 else if yFA a = 3 then 19 else if yFA a = 4 then 7 else 6) := Nat.le_of_ble_eq_true tb
      obtain ⟨h1, n, h2⟩ := zv_s C lA q
      rcases u3 with z | z | z | z
      · rw [z] at h1 h2 tb ⊢; exact R.dy (k := 11) (j1 := 0) (j2 := 17) o11 h1 h2 (by decide) ⟨Nat.zero_le _, tb⟩
      · rw [z] at h1 h2 tb ⊢; exact R.dy (k := 4) (j1 := 0) (j2 := 19) o4 h1 h2 (by decide) ⟨Nat.zero_le _, tb⟩
      · rw [z] at h1 h2 tb ⊢; exact R.dy (k := 6) (j1 := 0) (j2 := 7) o6 h1 h2 (by decide) ⟨Nat.zero_le _, tb⟩
      · rw [z] at h1 h2 tb ⊢; exact R.dy (k := 1) (j1 := 0) (j2 := 6) o1 h1 h2 (by decide) ⟨Nat.zero_le _, tb⟩
    · rw [if_neg q, if_neg q]
  · rfl
/-- how many rows a table has, and how wide they are -/
def yTp (a : Nat) : Nat := if a = 39 ∨ a = 48 ∨ a = 57 ∨ a = 155 then 7 else if a = 101 then 47 else if a = 206 then 155 else 0
def yWw (a : Nat) : Nat := if yWd a = 0 then ySz a else yWd a
def ySa : List (Nat × Nat) := [(0, 3), (38, 39), (41, 42), (52, 54), (64, 65), (69, 72), (78, 79), (86, 87), (96, 97)]
/-- a table of the model's stays -/
def yTf (ms : Zms) (a : Nat) : Bool := if a = 37 then ySa.all (fun q => zqN ms 37 37 q.1 q.2) else if a = 186 then zqN ms 186 186 0 6 && zqN ms 37 37 86 87 else zqN ms a (a + yTp a) 0 (yWw a)
theorem yM_z (F : ∀ (a1 a2 j1 j2 : Nat), zqN ms a1 a2 j1 j2 = true → ∀ (p : Int) (q : Nat), (a1 : Int) ≤ p → p ≤ (a2 : Int) → j1 ≤ q → q < j2 → 0 < p ∧ p ≤ 365 → fld g p q = fld h p q) (e : 366 ≤ a ∨ yTf ms a = true) (b86 : fld h 37 86 ≤ 6) : yM g a i = yM h a i := by
  unfold yM
  cases c1 : Nat.beq a 37 with
  | true =>
    simp only [cond_true]
    have z := Nat.eq_of_beq_eq_true c1
    subst z
    rcases e with e | e
    · omega
    unfold yTf at e
    rw [if_pos rfl] at e
    have f := fun q hq => List.all_eq_true.mp e q hq
    cases c2 : ySc i with
    | false => rfl
    | true =>
      show fld g 37 i = fld h 37 i
      rcases ySc_of c2 with z | rfl | rfl | rfl | rfl | rfl | z | rfl | rfl | rfl
      · exact F 37 37 0 3 (f (0, 3) (by decide)) 37 i (by decide) (by decide) (by omega) (by omega) (by decide)
      · exact F 37 37 38 39 (f (38, 39) (by decide)) 37 38 (by decide) (by decide) (by omega) (by omega) (by decide)
      · exact F 37 37 41 42 (f (41, 42) (by decide)) 37 41 (by decide) (by decide) (by omega) (by omega) (by decide)
      · exact F 37 37 52 54 (f (52, 54) (by decide)) 37 52 (by decide) (by decide) (by omega) (by omega) (by decide)
      · exact F 37 37 52 54 (f (52, 54) (by decide)) 37 53 (by decide) (by decide) (by omega) (by omega) (by decide)
      · exact F 37 37 64 65 (f (64, 65) (by decide)) 37 64 (by decide) (by decide) (by omega) (by omega) (by decide)
      · exact F 37 37 69 72 (f (69, 72) (by decide)) 37 i (by decide) (by decide) (by omega) (by omega) (by decide)
      · exact F 37 37 78 79 (f (78, 79) (by decide)) 37 78 (by decide) (by decide) (by omega) (by omega) (by decide)
      · exact F 37 37 86 87 (f (86, 87) (by decide)) 37 86 (by decide) (by decide) (by omega) (by omega) (by decide)
      · exact F 37 37 96 97 (f (96, 97) (by decide)) 37 96 (by decide) (by decide) (by omega) (by omega) (by decide)
  | false =>
    have n37 := Nat.ne_of_beq_eq_false c1
    simp only [cond_false]
    cases c3 : Nat.beq a 186 with
    | true =>
      simp only [cond_true]
      have z := Nat.eq_of_beq_eq_true c3
      subst z
      rcases e with e | e
      · omega
      unfold yTf at e
      rw [if_neg (by decide), if_pos rfl, Bool.and_eq_true] at e
      rw [F 37 37 86 87 e.2 37 86 (by decide) (by decide) (by omega) (by omega) (by decide)]
      by_cases hk : (i : Int) < fld h 37 86
      · rw [if_pos hk, if_pos hk]
        exact F 186 186 0 6 e.1 186 i (by decide) (by decide) (by omega) (by omega) (by decide)
      · rw [if_neg hk, if_neg hk]
    | false =>
      have n186 := Nat.ne_of_beq_eq_false c3
      simp only [cond_false]
      cases c4 : Nat.blt i (ySz a) with
      | false => rfl
      | true =>
        have hi : i < ySz a := Nat.le_of_ble_eq_true c4
        simp only [cond_true]
        have w := yM_wh hi
        have key : fld g ((a + i / yWd a : Nat) : Int) (i % yWd a) = fld h ((a + i / yWd a : Nat) : Int) (i % yWd a) := by
          rcases e with e | e
          · omega
          unfold yTf at e
          rw [if_neg n37, if_neg n186] at e
          refine F a (a + yTp a) 0 (yWw a) e _ _ (by omega) ?_ (Nat.zero_le _) ?_ ?_
          · unfold yTp
            rcases w with ⟨w1, w2, w3, w4, w5, w6⟩ | ⟨w1, w2, w3, w4⟩
            · rcases w1 with rfl | rfl | rfl | rfl | rfl | rfl
              · rw [if_pos (by decide)]; omega
              · rw [if_pos (by decide)]; omega
              · rw [if_pos (by decide)]; omega
              · rw [if_neg (by decide), if_pos rfl]; omega
              · rw [if_pos (by decide)]; omega
              · rw [if_neg (by decide), if_neg (by decide), if_pos rfl]; omega
            · omega
          · unfold yWw
            split
            · rename_i z
              rw [z, Nat.mod_zero]
              exact hi
            · rename_i z
              exact Nat.mod_lt _ (Nat.pos_of_ne_zero z)
          · rcases w with ⟨w1, w2, ⟨w31, w32, w33, w34, w35, w36⟩, w4, w5, w6⟩ | ⟨w1, w2, w3, w4⟩ <;> omega
        cases c5 : Nat.beq a 93 with
        | false => exact key
        | true =>
          have hb := Nat.eq_of_beq_eq_true c5
          subst hb
          have key : fld g ((93 + i / 0 : Nat) : Int) (i % 0) = fld h ((93 + i / 0 : Nat) : Int) (i % 0) := key
          rw [Nat.div_zero, Nat.mod_zero] at key
          show w32 _ = w32 _
          rw [show fld g 93 i = fld h 93 i from key]
theorem yM_zx (R : zXR ms c s h g) (e : 366 ≤ a ∨ yTf ms a = true) (b86 : fld h 37 86 ≤ 6) : yM g a i = yM h a i := yM_z (fun _ _ _ _ e p q k1 k2 k3 k4 k5 => R.f e ⟨k1, k2⟩ ⟨k3, k4⟩ k5) e b86
/-- a table of the class's stays -/
def yCf (ms : Zms) (a : Nat) : Bool := if a = 37 then zqN ms 1 1 0 2 && (zqN ms 9 9 0 1 && (zun ms 14 && (zqN ms 13 13 1 2 && (zqN ms 34 34 0 3 && (zun ms 20 && zqN ms 27 27 0 1))))) else if a = 48 then zqN ms 7 7 0 64 else if a = 98 then zqN ms 10 10 0 400 else if a = 57 then zqN ms 1 1 0 1 else if a = 164 then zqN ms 13 13 1 2 && zun ms 15 else if a = 186 then zun ms 20 else if a = 165 then zqN ms 16 16 0 12 else if a = 206 then zqN ms 35 35 0 936 else if a = 363 ∨ a = 364 ∨ a = 365 then zqN ms 28 30 0 8 else true
theorem ySz_x {r m : Nat} (e : (Nat.beq (yFx a) r && Nat.beq (ySz a) m) = true) : yFx a = r ∧ ySz a = m := by
  rw [Bool.and_eq_true] at e
  exact ⟨Nat.eq_of_beq_eq_true e.1, Nat.eq_of_beq_eq_true e.2⟩
theorem yC_zx (C : CI h) (R : zXR ms c s h g) (e : yXo ms = true) (t : 366 ≤ a ∨ yCf ms a = true) (h8 : yK a ≠ 8) : yC g a i = yC h a i := by
  have e2 := e
  unfold yXo at e2
  simp only [Bool.and_eq_true] at e2
  obtain ⟨⟨e2, e3, e4, e5⟩, -⟩ := e2
  have t : a < 366 → yCf ms a = true := fun w => t.resolve_left (by omega)
  have m14 : (14 : Nat) ∈ zLis := by decide
  have m20 : (20 : Nat) ∈ zLis := by decide
  refine yC_z C R e (fun z1 z2 => ?_) (fun z z7 => ?_) (fun z z10 => ?_) (fun z => ?_) (fun z => ?_) (fun z => ?_) (fun z zi => ?_) h8
  · subst z1
    have t := t (by decide)
    unfold yCf at t
    rw [if_pos rfl] at t
    simp only [Bool.and_eq_true] at t
    obtain ⟨t1, t2, t3, t4, t5, t6, t7⟩ := t
    rcases ySc_of z2 with z | rfl | rfl | rfl | rfl | rfl | z | rfl | rfl | rfl
    · have z : i = 0 ∨ i = 1 ∨ i = 2 := by omega
      rcases z with rfl | rfl | rfl
      · exact R.f t1 (r := 1) (j := 0) ⟨by decide, by decide⟩ ⟨by decide, by decide⟩ ⟨by decide, by decide⟩
      · exact R.vz (A := 2) (by decide) e2
      · exact R.vz (A := 3) (by decide) e3
    · exact R.f t1 (r := 1) (j := 1) ⟨by decide, by decide⟩ ⟨by decide, by decide⟩ ⟨by decide, by decide⟩
    · exact R.f t2 (r := 9) (j := 0) ⟨by decide, by decide⟩ ⟨by decide, by decide⟩ ⟨by decide, by decide⟩
    · exact R.vz (A := 14) m14 t3
    · exact R.f t4 (r := 13) (j := 1) ⟨by decide, by decide⟩ ⟨by decide, by decide⟩ ⟨by decide, by decide⟩
    · exact R.vz (A := 4) (by decide) e4
    · have z : i = 69 ∨ i = 70 ∨ i = 71 := by omega
      rcases z with rfl | rfl | rfl
      · exact R.f t5 (r := 34) (j := 0) ⟨by decide, by decide⟩ ⟨by decide, by decide⟩ ⟨by decide, by decide⟩
      · exact R.f t5 (r := 34) (j := 1) ⟨by decide, by decide⟩ ⟨by decide, by decide⟩ ⟨by decide, by decide⟩
      · exact R.f t5 (r := 34) (j := 2) ⟨by decide, by decide⟩ ⟨by decide, by decide⟩ ⟨by decide, by decide⟩
    · exact R.vz (A := 5) (by decide) e5
    · exact R.vz (A := 20) m20 t6
    · exact R.f t7 (r := 27) (j := 0) ⟨by decide, by decide⟩ ⟨by decide, by decide⟩ ⟨by decide, by decide⟩
  · subst z
    have t : zqN ms 7 7 0 64 = true := t (by decide)
    exact R.f t (r := 7) ⟨by decide, by decide⟩ ⟨Nat.zero_le _, z7⟩ ⟨by decide, by decide⟩
  · subst z
    have t : zqN ms 10 10 0 400 = true := t (by decide)
    exact R.f t (r := 10) ⟨by decide, by decide⟩ ⟨Nat.zero_le _, z10⟩ ⟨by decide, by decide⟩
  · subst z
    have t : zqN ms 1 1 0 1 = true := t (by decide)
    exact R.f t (r := 1) (j := 0) ⟨by decide, by decide⟩ ⟨by decide, by decide⟩ ⟨by decide, by decide⟩
  · subst z
    have t : (zqN ms 13 13 1 2 && zun ms 15) = true := t (by decide)
    rw [Bool.and_eq_true] at t
    exact ⟨R.f t.1 (r := 13) (j := 1) ⟨by decide, by decide⟩ ⟨by decide, by decide⟩ ⟨by decide, by decide⟩, R.fa (a := 15) t.2 (by decide)⟩
  · subst z
    have t : zun ms 20 = true := t (by decide)
    exact t
  · rcases yK_9 z with rfl | rfl | rfl | rfl | rfl
    · have t : zqN ms 16 16 0 12 = true := t (by decide)
      exact R.f t (r := 16) ⟨by decide, by decide⟩ ⟨Nat.zero_le _, zi⟩ ⟨by decide, by decide⟩
    · have t : zqN ms 35 35 0 936 = true := t (by decide)
      exact R.f t (r := 35) ⟨by decide, by decide⟩ ⟨Nat.zero_le _, zi⟩ ⟨by decide, by decide⟩
    · have t : zqN ms 28 30 0 8 = true := t (by decide)
      exact R.f t (r := 28) ⟨by decide, by decide⟩ ⟨Nat.zero_le _, zi⟩ ⟨by decide, by decide⟩
    · have t : zqN ms 28 30 0 8 = true := t (by decide)
      exact R.f t (r := 29) ⟨by decide, by decide⟩ ⟨Nat.zero_le _, zi⟩ ⟨by decide, by decide⟩
    · have t : zqN ms 28 30 0 8 = true := t (by decide)
      exact R.f t (r := 30) ⟨by decide, by decide⟩ ⟨Nat.zero_le _, zi⟩ ⟨by decide, by decide⟩
/-- all the class's tables stay: what the model's calls touch -/
def yXc (ms : Zms) : Bool := yXo ms && (List.range 366).all (fun a => yCf ms a)
theorem yC_zm (C : CI h) (R : zXR ms c s h g) (e : yXc ms = true) (h8 : yK a ≠ 8) : yC g a i = yC h a i := by
  unfold yXc at e
  rw [Bool.and_eq_true] at e
  refine yC_zx C R e.1 ?_ h8
  by_cases w : a < 366
  · exact Or.inr (List.all_eq_true.mp e.2 a (List.mem_range.mpr w))
  · exact Or.inl (by omega)
theorem yC_8 (e : yK a = 8) : yC h a i = yM h a i := by
  unfold yC
  rw [e]
  rfl
/-- class and model alike behind a call that both tell alike -/
theorem yEq_z {F : zT → zT} (H : yM h = yC h) (C1 : CI h1) (Q : zXR ms c s h h1) (Z : zXR ms' c' s' h1 g) (eQ : yFr ms = true) (eZ : yXc ms' = true) (b86 : fld h 37 86 ≤ 6) (X : yC h1 = F (yC h)) (M : yM g = F (yM h1)) : yM g = yC g := by
  funext a i
  by_cases e : yK a = 8
  · exact (yC_8 e).symm
  · rw [yC_zm C1 Z eZ e, M, X, yM_xr Q eQ b86, H]
/-- .. behind a call that one tells another way -/
theorem yEq_s (H : yM h = yC h) (C : CI h) (C1 : CI h1) (Q : zXR ms c s h h1) (Z : zXR ms' c' s' h1 g) (ex : List Nat) (e1 : yXo ms = true) (e2 : yXo ms' = true) (eA : (List.range 366).all (fun a => ex.contains a || (Nat.beq (yK a) 8 || (yCf ms a && (yCf ms' a && (yTf ms a && yTf ms' a))))) = true) (b86 : fld h 37 86 ≤ 6) (b86' : fld h1 37 86 ≤ 6) (hx : ∀ a i, ex.contains a = true → yM g a i = yC g a i) : yM g = yC g := by
  funext a i
  by_cases e : yK a = 8
  · exact (yC_8 e).symm
  cases c0 : ex.contains a with
  | true => exact hx a i c0
  | false =>
    have t : 366 ≤ a ∨ (yCf ms a = true ∧ yCf ms' a = true ∧ yTf ms a = true ∧ yTf ms' a = true) := by
      by_cases w : a < 366
      · right
        have q := List.all_eq_true.mp eA a (List.mem_range.mpr w)
        rw [c0, zbq_f e] at q
        simp only [Bool.false_or, Bool.and_eq_true] at q
        exact q
      · exact Or.inl (by omega)
    rw [yC_zx C1 Z e2 (t.imp id (fun w => w.2.1)) e, yC_zx C Q e1 (t.imp id (fun w => w.1)) e, yM_zx Z (t.imp id (fun w => w.2.2.2)) b86', yM_zx Q (t.imp id (fun w => w.2.2.1)) b86, H]
end YFR
