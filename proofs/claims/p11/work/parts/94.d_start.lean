/-! all tables as both constructors leave them -/
section YST
variable {h : Hp} {a i r : Nat}
def wkZ (h : Hp) (r : Nat) : Bool := match cel h (r : Int) with
  | some (_, l) => l.all (fun x => decide (x = 0))
  | none => false
theorem wkZ_ok (e : wkZ h r = true) : ∀ q : Nat, fld h (r : Int) q = 0 := by
  intro q
  unfold wkZ at e
  cases hc : cel h (r : Int) with
  | none => rw [hc] at e; cases e
  | some z =>
    obtain ⟨k, l⟩ := z
    rw [hc] at e
    dsimp only at e
    rw [fld_of hc, List.getD_eq_getElem?_getD]
    by_cases hq : q < l.length
    · rw [List.getElem?_eq_getElem hq]
      exact of_decide_eq_true (List.all_eq_true.mp e _ (List.getElem_mem hq))
    · rw [List.getElem?_eq_none (by omega)]
      rfl
/-- the model's rows that stay, and the class's -/
def wkZr : List (Nat × Nat) := [(10, 1), (16, 1), (28, 3), (35, 1), (39, 8), (48, 8), (57, 8), (65, 34), (164, 2), (170, 6), (180, 7), (206, 156), (363, 3)]
def wkD (h : Hp) : Bool := wkZr.all (fun e => (List.range e.2).all (fun j => wkZ h (e.1 + j))) && ((List.range 64).all (fun i => decide (fld h 7 i = 0) || decide (fld h 7 i = 1000000)) && ([0, 1, 2, 38, 41, 52, 53, 64, 69, 70, 71, 78, 86, 96].all (fun i => decide (fld h 37 i = 0) && decide (fld h ((ySr i).1 : Nat) (ySr i).2 = 0)) && ([2, 3, 4, 5, 14, 20].all (fun A => decide (fld h ((A : Nat) : Int) 2 = 0)) && decide (fld h 13 1 = 0))))
theorem wkD_ok (e : wkD h = true) : wD h := by
  unfold wkD at e
  simp only [Bool.and_eq_true, List.all_eq_true] at e
  obtain ⟨e1, e2, e3, e4, e5⟩ := e
  have e5 := of_decide_eq_true e5
  have Z : ∀ b n : Nat, (b, n) ∈ wkZr → ∀ (p : Nat) (q : Nat), b ≤ p → p < b + n → fld h (p : Int) q = 0 := fun b n m p q h1 h2 => by
    have w := e1 (b, n) m (p - b) (List.mem_range.mpr (by omega))
    have w := wkZ_ok w q
    rwa [show b + (p - b) = p by omega] at w
  have L : ∀ A : Nat, A ∈ [2, 3, 4, 5, 14, 20] → fld h (A : Int) 2 = 0 := fun A m => of_decide_eq_true (e4 A m)
  have l2 : fld h 2 2 = 0 := L 2 (by decide)
  have l3 : fld h 3 2 = 0 := L 3 (by decide)
  have l4 : fld h 4 2 = 0 := L 4 (by decide)
  have l5 : fld h 5 2 = 0 := L 5 (by decide)
  have l14 : fld h 14 2 = 0 := L 14 (by decide)
  have l20 : fld h 20 2 = 0 := L 20 (by decide)
  have S : ∀ i, i ∈ [0, 1, 2, 38, 41, 52, 53, 64, 69, 70, 71, 78, 86, 96] → fld h 37 i = 0 ∧ fld h ((ySr i).1 : Nat) (ySr i).2 = 0 := fun i m => by
    have w := e3 i m
    exact ⟨of_decide_eq_true w.1, of_decide_eq_true w.2⟩
  have sM : ∀ i, ySc i = true → i ∈ [0, 1, 2, 38, 41, 52, 53, 64, 69, 70, 71, 78, 86, 96] := fun i c => by
    simp only [List.mem_cons, List.not_mem_nil, or_false]
    have := ySc_of c
    omega
  have m86 : fld h 37 86 = 0 := (S 86 (by decide)).1
  have zM : ∀ a i, yK a ≠ 8 → a ≠ 37 → yM h a i = 0 := by
    intro a i h8 h37
    by_cases h186 : a = 186
    · rw [h186, yM_186, if_neg (by omega)]
    by_cases hi : i < ySz a
    · have w := yM_wh hi
      have key : fld h ((a + i / yWd a : Nat) : Int) (i % yWd a) = 0 := by
        have n8 : a ≠ 8 := fun z => h8 (by rw [z]; rfl)
        have n101 : a ≠ 101 := fun z => h8 (by rw [z]; rfl)
        have n155 : a ≠ 155 := fun z => h8 (by rw [z]; rfl)
        have c : (39 ≤ a + i / yWd a ∧ a + i / yWd a < 47) ∨ (48 ≤ a + i / yWd a ∧ a + i / yWd a < 56) ∨ (57 ≤ a + i / yWd a ∧ a + i / yWd a < 65) ∨ (65 ≤ a + i / yWd a ∧ a + i / yWd a < 99) ∨ (164 ≤ a + i / yWd a ∧ a + i / yWd a < 166) ∨ (170 ≤ a + i / yWd a ∧ a + i / yWd a < 176) ∨ (180 ≤ a + i / yWd a ∧ a + i / yWd a < 187) ∨ (206 ≤ a + i / yWd a ∧ a + i / yWd a < 362) ∨ (363 ≤ a + i / yWd a ∧ a + i / yWd a < 366) ∨ (166 ≤ a ∧ a < 170 ∧ ySz a = 0) ∨ (176 ≤ a ∧ a < 180 ∧ ySz a = 0) := by
          rcases w with ⟨w1, w2, ⟨w31, w32, w33, w34, w35, w36⟩, w4, w5, w6⟩ | ⟨w1, w2, w3, w4⟩
          · omega
          · rcases (show (65 ≤ a ∧ a < 99) ∨ (164 ≤ a ∧ a < 166) ∨ (166 ≤ a ∧ a < 170) ∨ (170 ≤ a ∧ a < 176) ∨ (176 ≤ a ∧ a < 180) ∨ (180 ≤ a ∧ a < 187) ∨ (363 ≤ a ∧ a < 366) by omega) with z | z | z | z | z | z | z
            · omega
            · omega
            · have y : a = 166 ∨ a = 167 ∨ a = 168 ∨ a = 169 := by omega
              have : ySz a = 0 := by rcases y with rfl | rfl | rfl | rfl <;> rfl
              omega
            · omega
            · have y : a = 176 ∨ a = 177 ∨ a = 178 ∨ a = 179 := by omega
              have : ySz a = 0 := by rcases y with rfl | rfl | rfl | rfl <;> rfl
              omega
            · omega
            · omega
        rcases c with c | c | c | c | c | c | c | c | c | c | c
        · exact Z 39 8 (by decide) _ _ c.1 (by omega)
        · exact Z 48 8 (by decide) _ _ c.1 (by omega)
        · exact Z 57 8 (by decide) _ _ c.1 (by omega)
        · exact Z 65 34 (by decide) _ _ c.1 (by omega)
        · exact Z 164 2 (by decide) _ _ c.1 (by omega)
        · exact Z 170 6 (by decide) _ _ c.1 (by omega)
        · exact Z 180 7 (by decide) _ _ c.1 (by omega)
        · exact Z 206 156 (by decide) _ _ c.1 (by omega)
        · exact Z 363 3 (by decide) _ _ c.1 (by omega)
        · omega
        · omega
      unfold yM
      rw [zbq_f h37, zbq_f h186, blt_t hi]
      simp only [cond_false, cond_true]
      rw [key]
      cases c5 : Nat.beq a 93 with
      | false => rfl
      | true =>
        have hb := Nat.eq_of_beq_eq_true c5
        subst hb
        have key : fld h ((93 + i / 0 : Nat) : Int) (i % 0) = 0 := key
        rw [Nat.div_zero, Nat.mod_zero] at key
        show w32 _ = 0
        rw [show fld h 93 i = 0 from key]
        rfl
    · exact yM_o h37 h186 (by omega)
  have zC : ∀ a i, yK a ≠ 8 → a ≠ 37 → yC h a i = 0 := by
    intro a i h8 h37
    unfold yC
    split
    · rename_i hK
      exact absurd (yK_1 hK) h37
    · exact if_neg (fun z => by have := z.2; omega)
    · by_cases q : i < 64
      · rw [if_pos q]
        have w := e2 i (List.mem_range.mpr q)
        rw [Bool.or_eq_true, decide_eq_true_eq, decide_eq_true_eq] at w
        split <;> omega
      · rw [if_neg q]
    · exact if_neg (fun z => by have := z.2.1; omega)
    · by_cases q : i < 400
      · rw [if_pos q, show fld h 10 i = 0 from Z 10 1 (by decide) 10 i (by decide) (by decide)]
        rfl
      · rw [if_neg q]
    · exact if_neg (by omega)
    · exact if_neg (by omega)
    · rename_i hK
      exact absurd hK h8
    · rename_i hK
      by_cases q : i < ySz a
      · rw [if_pos q]
        rcases yK_9 hK with rfl | rfl | rfl | rfl | rfl
        · exact Z 16 1 (by decide) 16 i (by decide) (by decide)
        · exact Z 35 1 (by decide) 35 i (by decide) (by decide)
        · exact Z 28 3 (by decide) 28 i (by decide) (by decide)
        · exact Z 28 3 (by decide) 29 i (by decide) (by decide)
        · exact Z 28 3 (by decide) 30 i (by decide) (by decide)
      · rw [if_neg q]
    · rename_i hK
      refine if_neg ?_
      rcases yK_10 hK with ⟨z, -⟩ | ⟨z, -⟩ | ⟨z, -⟩ | ⟨z, -⟩ <;> rw [z]
      · show ¬ (i : Int) < fld h 3 2
        omega
      · show ¬ (i : Int) < fld h 4 2
        omega
      · show ¬ (i : Int) < fld h 5 2
        omega
      · show ¬ (i : Int) < fld h 5 2
        omega
    · rename_i hK
      refine if_neg ?_
      rcases (yF_of hK).2.2 with z | z | z | z <;> rw [z]
      · show ¬ (i : Int) < fld h 2 2
        omega
      · show ¬ (i : Int) < fld h 3 2
        omega
      · show ¬ (i : Int) < fld h 4 2
        omega
      · show ¬ (i : Int) < fld h 5 2
        omega
    · rfl
  have H : yM h = yC h := by
    funext a i
    by_cases h8 : yK a = 8
    · exact (yC_8 h8).symm
    by_cases h37 : a = 37
    · subst h37
      cases c : ySc i with
      | false =>
        show cond (ySc i) _ _ = cond (ySc i) _ _
        rw [c]
        rfl
      | true =>
        have w := S i (sM i c)
        rw [yM_s c, yC_s c, w.1, w.2]
    · rw [zM a i h8 h37, zC a i h8 h37]
  have m0 : yM h 37 0 = 0 := (S 0 (by decide)).1
  have m1 : yM h 37 1 = 0 := (S 1 (by decide)).1
  have m2 : yM h 37 2 = 0 := (S 2 (by decide)).1
  have m64 : yM h 37 64 = 0 := (S 64 (by decide)).1
  have m78 : yM h 37 78 = 0 := (S 78 (by decide)).1
  have m52 : fld h 37 52 = 0 := (S 52 (by decide)).1
  refine ⟨H, ⟨fun A hA j hj => ?_, fun A j B hB k hk => ?_, fun j hj => by omega, fun j hj => by omega, fun j hj => by omega, fun j k hj => by omega⟩, ⟨⟨⟨?_, fun k hk => by omega, fun v hv => by omega, fun l hl => by omega⟩, ⟨fun k hk => by omega, fun v hv => by omega, by omega, by omega, by omega, by omega⟩, fun v hv => by omega, fun j hj => zM 206 j (by decide) (by decide)⟩, ⟨by omega, fun v hv => by omega, fun u hu => by omega, fun k hk => by omega⟩, fun v hv => by omega⟩, fun s c s0 s1 => by omega, fun v k hv => by omega⟩
  · exfalso
    rcases hA with rfl | rfl | rfl | rfl
    · have hj : (j : Int) < fld h 2 2 := hj
      omega
    · have hj : (j : Int) < fld h 3 2 := hj
      omega
    · have hj : (j : Int) < fld h 4 2 := hj
      omega
    · have hj : (j : Int) < fld h 14 2 := hj
      omega
  · exfalso
    rcases hB with ⟨rfl, -⟩ | ⟨rfl, -⟩ | ⟨rfl, -⟩ | ⟨rfl, -⟩
    · have hk : (k : Int) < fld h 3 2 := hk
      omega
    · have hk : (k : Int) < fld h 4 2 := hk
      omega
    · have hk : (k : Int) < fld h 5 2 := hk
      omega
    · have hk : (k : Int) < fld h 5 2 := hk
      omega
  · omega
/-- bounds of the model's rows, everywhere -/
theorem yM_185 (I : zI h) (i : Nat) : 0 ≤ yM h 185 i ∧ yM h 185 i ≤ 1 := by
  by_cases q : i < 200
  · rw [yM_p (a := 185) (n := 200) rfl q]
    exact I.b (a1 := 185) (a2 := 185) (j1 := 0) (j2 := 200) (lo := 0) (hi := 1) (by decide +kernel) (r := 185) (j := i) (by decide) (by decide) (by omega) (by omega)
  · rw [yM_o (by decide) (by decide) (by show 200 ≤ i; omega)]
    exact ⟨by decide, by decide⟩
theorem yM_74 (I : zI h) (i : Nat) : 0 ≤ yM h 74 i ∧ yM h 74 i ≤ 9999 := by
  by_cases q : i < 8
  · rw [yM_p (a := 74) (n := 8) rfl q]
    exact I.b (a1 := 74) (a2 := 74) (j1 := 0) (j2 := 8) (lo := 0) (hi := 9999) (by decide +kernel) (r := 74) (j := i) (by decide) (by decide) (by omega) (by omega)
  · rw [yM_o (by decide) (by decide) (by show 8 ≤ i; omega)]
    exact ⟨by decide, by decide⟩
theorem yM_83 (I : zI h) (i : Nat) : 0 ≤ yM h 83 i ∧ yM h 83 i ≤ 9 := by
  by_cases q : i < 20
  · rw [yM_p (a := 83) (n := 20) rfl q]
    exact I.b (a1 := 83) (a2 := 83) (j1 := 0) (j2 := 20) (lo := 0) (hi := 9) (by decide +kernel) (r := 83) (j := i) (by decide) (by decide) (by omega) (by omega)
  · rw [yM_o (by decide) (by decide) (by show 20 ≤ i; omega)]
    exact ⟨by decide, by decide⟩
end YST
