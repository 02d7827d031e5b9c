/-! a cloth, a house, a village more: the class's tables -/
section YV
variable {h h1 b g : Hp} {S : zT} {a i j k l n v A : Nat} {x r q : Int} {L : List Int} {ms : Zms} {c s : Int}
theorem zfresh (C : CI b) (Q : zXR ms c s b h) (hA : A ∈ zLis) (e : zun ms A = true) (er : r = ((b.length + 1 : Nat) : Int)) : ∀ i : Nat, (i : Int) < fld h A 2 → zv h A i ≠ r := fun i hi z => by
  have l : fld h A 2 = fld b A 2 := Q.vz hA e
  obtain ⟨-, n, w⟩ := zv_s C hA (i := i) (by omega)
  have p := (sh_pos w).2
  rw [Q.v C hA e (by omega)] at z
  omega
theorem zfreshP (C : CI b) (Q : zXR ms c s b h) (e : zun ms 2 = true) (eq : q = ((b.length + 2 : Nat) : Int)) : ∀ i : Nat, (i : Int) < fld h 2 2 → fld h (zv h 2 i) 16 ≠ q := fun i hi z => by
  have l : fld h 2 2 = fld b 2 2 := Q.vz (A := 2) (by decide) e
  have G := zV_g C (v := i) (by omega)
  have p := (sh_pos G.2.2.2).2
  rw [Q.v C (A := 2) (by decide) e (show (i : Int) < fld b 2 2 by omega), zS_fin Q G.1 G.2.1 rfl] at z
  omega
/-- behind the end of a list there is nothing -/
theorem yC_bey (e : (Nat.beq (yK a) 11 && Nat.beq (yFA a) A) = true) (hn : (n : Int) = fld h A 2) : yC h a n = 0 := by
  rw [Bool.and_eq_true] at e
  have e1 := Nat.eq_of_beq_eq_true e.1
  have e2 := Nat.eq_of_beq_eq_true e.2
  unfold yC
  rw [e1, e2]
  exact if_neg (by omega)
/-- a cloth more -/
theorem yC_clo0 (C : CI h) (J : yR h) (D : zAdded h 5 r g) (G : gC h r) (F : cel h r = some (1, L)) (hn : (n : Int) = fld h 5 2) (h0 : L.getD 0 0 = zv h 4 l) (hl : (l : Int) < fld h 4 2) (h1 : L.getD 1 0 = zv h 3 k) (hk : (k : Int) < fld h 3 2) : yC g = zs (zs (zs (zs (zs (zs (zs (yC h) 180 n l) 181 n k) 182 n (L.getD 2 0)) 183 n (L.getD 3 0)) 184 n (L.getD 5 0)) 185 n (L.getD 4 0)) 37 78 (n + 1) := by
  have hA : (5 : Nat) = 2 ∨ (5 : Nat) = 3 ∨ (5 : Nat) = 4 ∨ (5 : Nat) = 5 := by decide
  have en : (fld h ((5 : Nat) : Int) 2).toNat = n := by show (fld h 5 2).toNat = n; omega
  have zn : zv g 5 n = r := by rw [← en]; exact D.2.2.2.2.1
  have ln : fld g 5 2 = fld h 5 2 + 1 := D.2.2.1
  have hi : (n : Int) < fld g 5 2 := by omega
  have fr : ∀ j, fld g (zv g 5 n) j = L.getD j 0 := fun j => by rw [zn, zAdded.o C (by decide) D (sh_of F) (by decide) G.1, fld_of F]
  funext a i
  rw [zs_if]
  by_cases e1 : a = 37 ∧ i = 78
  · rw [if_pos e1, e1.1, e1.2]
    show fld g 5 2 = _
    omega
  rw [if_neg e1, zs_if]
  by_cases e2 : a = 185 ∧ i = n
  · rw [if_pos e2, e2.1, e2.2, yC_f (A := 5) (j := 4) rfl hi, fr]
  rw [if_neg e2, zs_if]
  by_cases e3 : a = 184 ∧ i = n
  · rw [if_pos e3, e3.1, e3.2, yC_f (A := 5) (j := 5) rfl hi, fr]
  rw [if_neg e3, zs_if]
  by_cases e4 : a = 183 ∧ i = n
  · rw [if_pos e4, e4.1, e4.2, yC_f (A := 5) (j := 3) rfl hi, fr]
  rw [if_neg e4, zs_if]
  by_cases e5 : a = 182 ∧ i = n
  · rw [if_pos e5, e5.1, e5.2, yC_f (A := 5) (j := 2) rfl hi, fr]
  rw [if_neg e5, zs_if]
  by_cases e6 : a = 181 ∧ i = n
  · rw [if_pos e6, e6.1, e6.2, yC_r (A := 5) (j := 1) (B := 3) rfl hi, fr, h1, D.ov C hA (by decide) hk]
    exact J.1 3 (by decide) k hk
  rw [if_neg e6, zs_if]
  by_cases e7 : a = 180 ∧ i = n
  · rw [if_pos e7, e7.1, e7.2, yC_r (A := 5) (j := 0) (B := 4) rfl hi, fr, h0, D.ov C hA (by decide) hl]
    exact J.1 4 (by decide) l hl
  rw [if_neg e7]
  refine yC_adn C hA D (show (n : Int) = fld h ((5 : Nat) : Int) 2 from hn) ?_
  rintro (⟨t1, t2⟩ | ⟨t1, t2, t3⟩ | ⟨t1, t2, t3⟩ | ⟨t1, -⟩)
  · have q := yK_1 t1
    rcases ySr_c (i := i) with ⟨w, -⟩ | ⟨w, -⟩ | ⟨w, -⟩ | ⟨w, y⟩ | ⟨-, -, -, -, -, w⟩
    · rw [w] at t2; revert t2; decide
    · rw [w] at t2; revert t2; decide
    · rw [w] at t2; revert t2; decide
    · exact e1 ⟨q, y⟩
    · exact w t2
  · rcases yFA_c (a := a) with ⟨w, -⟩ | ⟨w, -⟩ | ⟨w, -⟩ | ⟨-, w1, w2⟩ | w <;> omega
  · rcases yRA_c (a := a) with ⟨w, -⟩ | ⟨w, -⟩ | ⟨-, w⟩ | ⟨-, w⟩ | w
    · rw [w] at t2; revert t2; decide
    · rw [w] at t2; revert t2; decide
    · exact e7 ⟨w, t3⟩
    · exact e6 ⟨w, t3⟩
    · rw [w] at t2; revert t2; decide
  · omega
theorem yC_clo {x0 x1 x2 x3 x4 x5 : Int} (C : CI h) (J : yR h) (D : zAdded h 5 r g) (G : gC h r) (F : cel h r = some (1, [x0, x1, x2, x3, x4, x5])) (hn : (n : Int) = fld h 5 2) (h0 : x0 = zv h 4 l) (hl : (l : Int) < fld h 4 2) (h1 : x1 = zv h 3 k) (hk : (k : Int) < fld h 3 2) : yC g = zs (zs (zs (zs (zs (zs (zs (yC h) 180 n l) 181 n k) 182 n x2) 183 n x3) 184 n x5) 185 n x4) 37 78 (n + 1) := yC_clo0 C J D G F hn h0 hl h1 hk
theorem yR_clo {x0 x1 x2 x3 x4 x5 : Int} (C : CI h) (J : yR h) (D : zAdded h 5 r g) (G : gC h r) (F : cel h r = some (1, [x0, x1, x2, x3, x4, x5])) (hn : (n : Int) = fld h 5 2) (h0 : x0 = zv h 4 l) (hl : (l : Int) < fld h 4 2) (h1 : x1 = zv h 3 k) (hk : (k : Int) < fld h 3 2) (fr : ∀ i : Nat, (i : Int) < fld h 5 2 → zv h 5 i ≠ r) : yR g := by
  refine yR_add C J (A := 5) (by decide) D G hn (fun z => absurd rfl z) (fun j B hj => ?_) (fun z => by omega) (fun _ => fr)
  have e : (j = 0 ∧ B = 4) ∨ (j = 1 ∧ B = 3) := by omega
  rcases e with ⟨rfl, rfl⟩ | ⟨rfl, rfl⟩
  · exact ⟨l, hl, by rw [fld_of F]; exact h0⟩
  · exact ⟨k, hk, by rw [fld_of F]; exact h1⟩
/-- a house more -/
def yHou (S : zT) (n : Nat) (w x2 x3 x4 x5 : Int) : zT := zs (zs (zs (zs (zs (zs (zs S 79 n w) 80 n x2) 81 n x3) 82 n x4) 83 n x5) 85 n 10) 37 2 (n + 1)
theorem yC_hou {x0 x1 x2 x3 x4 x5 w : Int} (C : CI h) (J : yR h) (D : zAdded h 3 r g) (G : gH h r) (F : cel h r = some (4, [x0, x1, x2, x3, x4, x5, 0, 10, 0, 0, 0, 0, 0, 0, 0, 0, 0, 0, 0])) (hn : (n : Int) = fld h 3 2) (h1 : x1 = zv h 2 v) (hv : (v : Int) < fld h 2 2) (hw : w = v) : yC g = yHou (yC h) n w x2 x3 x4 x5 := by
  subst hw
  have hA : (3 : Nat) = 2 ∨ (3 : Nat) = 3 ∨ (3 : Nat) = 4 ∨ (3 : Nat) = 5 := by decide
  have en : (fld h ((3 : Nat) : Int) 2).toNat = n := by show (fld h 3 2).toNat = n; omega
  have zn : zv g 3 n = r := by rw [← en]; exact D.2.2.2.2.1
  have ln : fld g 3 2 = fld h 3 2 + 1 := D.2.2.1
  have hi : (n : Int) < fld g 3 2 := by omega
  have fr : ∀ j, fld g (zv g 3 n) j = ([x0, x1, x2, x3, x4, x5, 0, 10, 0, 0, 0, 0, 0, 0, 0, 0, 0, 0, 0] : List Int).getD j 0 := fun j => by rw [zn, zAdded.o C (by decide) D (sh_of F) (by decide) G.1, fld_of F]
  have by_ : ∀ a, (Nat.beq (yK a) 11 && Nat.beq (yFA a) 3) = true → yC h a n = 0 := fun a e => yC_bey (A := 3) e hn
  funext a i
  unfold yHou
  rw [zs_if]
  by_cases e1 : a = 37 ∧ i = 2
  · rw [if_pos e1, e1.1, e1.2]
    show fld g 3 2 = _
    omega
  rw [if_neg e1, zs_if]
  by_cases e2 : a = 85 ∧ i = n
  · rw [if_pos e2, e2.1, e2.2, yC_f (A := 3) (j := 7) rfl hi, fr]
    rfl
  rw [if_neg e2, zs_if]
  by_cases e3 : a = 83 ∧ i = n
  · rw [if_pos e3, e3.1, e3.2, yC_f (A := 3) (j := 5) rfl hi, fr]
    rfl
  rw [if_neg e3, zs_if]
  by_cases e4 : a = 82 ∧ i = n
  · rw [if_pos e4, e4.1, e4.2, yC_f (A := 3) (j := 4) rfl hi, fr]
    rfl
  rw [if_neg e4, zs_if]
  by_cases e5 : a = 81 ∧ i = n
  · rw [if_pos e5, e5.1, e5.2, yC_f (A := 3) (j := 3) rfl hi, fr]
    rfl
  rw [if_neg e5, zs_if]
  by_cases e6 : a = 80 ∧ i = n
  · rw [if_pos e6, e6.1, e6.2, yC_f (A := 3) (j := 2) rfl hi, fr]
    rfl
  rw [if_neg e6, zs_if]
  by_cases e7 : a = 79 ∧ i = n
  · rw [if_pos e7, e7.1, e7.2, yC_r (A := 3) (j := 1) (B := 2) rfl hi, fr]
    show fld g x1 0 = _
    rw [h1, D.ov C hA (by decide) hv]
    exact J.1 2 (by decide) v hv
  rw [if_neg e7]
  by_cases e8 : i = n ∧ (a = 84 ∨ (86 ≤ a ∧ a ≤ 96))
  · obtain ⟨z, e8⟩ := e8
    subst z
    have w : a = 84 ∨ a = 86 ∨ a = 87 ∨ a = 88 ∨ a = 89 ∨ a = 90 ∨ a = 91 ∨ a = 92 ∨ a = 93 ∨ a = 94 ∨ a = 95 ∨ a = 96 := by omega
    rcases w with rfl | rfl | rfl | rfl | rfl | rfl | rfl | rfl | rfl | rfl | rfl | rfl
    · rw [by_ 84 rfl, yC_f (A := 3) (j := 6) rfl hi, fr]; rfl
    · rw [by_ 86 rfl, yC_f (A := 3) (j := 8) rfl hi, fr]; rfl
    · rw [by_ 87 rfl, yC_f (A := 3) (j := 9) rfl hi, fr]; rfl
    · rw [by_ 88 rfl, yC_f (A := 3) (j := 10) rfl hi, fr]; rfl
    · rw [by_ 89 rfl, yC_f (A := 3) (j := 11) rfl hi, fr]; rfl
    · rw [by_ 90 rfl, yC_f (A := 3) (j := 12) rfl hi, fr]; rfl
    · rw [by_ 91 rfl, yC_f (A := 3) (j := 13) rfl hi, fr]; rfl
    · rw [by_ 92 rfl, yC_f (A := 3) (j := 14) rfl hi, fr]; rfl
    · rw [by_ 93 rfl, yC_f (A := 3) (j := 15) rfl hi, fr]; rfl
    · rw [by_ 94 rfl, yC_f (A := 3) (j := 16) rfl hi, fr]; rfl
    · rw [by_ 95 rfl, yC_f (A := 3) (j := 18) rfl hi, fr]; rfl
    · rw [by_ 96 rfl, yC_f (A := 3) (j := 17) rfl hi, fr]; rfl
  refine yC_adn C hA D (show (n : Int) = fld h ((3 : Nat) : Int) 2 from hn) ?_
  rintro (⟨t1, t2⟩ | ⟨t1, t2, t3⟩ | ⟨t1, t2, t3⟩ | ⟨t1, -⟩)
  · have q := yK_1 t1
    rcases ySr_c (i := i) with ⟨w, -⟩ | ⟨w, y⟩ | ⟨w, -⟩ | ⟨w, -⟩ | ⟨-, -, -, w, -⟩
    · rw [w] at t2; revert t2; decide
    · exact e1 ⟨q, y⟩
    · rw [w] at t2; revert t2; decide
    · rw [w] at t2; revert t2; decide
    · exact w t2
  · rcases yFA_c (a := a) with ⟨w, -⟩ | ⟨-, w1, w2⟩ | ⟨w, -⟩ | ⟨w, -⟩ | w <;> omega
  · rcases yRA_c (a := a) with ⟨-, w⟩ | ⟨w, -⟩ | ⟨w, -⟩ | ⟨w, -⟩ | w
    · exact e7 ⟨w, t3⟩
    · rw [w] at t2; revert t2; decide
    · rw [w] at t2; revert t2; decide
    · rw [w] at t2; revert t2; decide
    · rw [w] at t2; revert t2; decide
  · omega
theorem yR_hou {x0 x1 x2 x3 x4 x5 : Int} (C : CI h) (J : yR h) (D : zAdded h 3 r g) (G : gH h r) (F : cel h r = some (4, [x0, x1, x2, x3, x4, x5, 0, 10, 0, 0, 0, 0, 0, 0, 0, 0, 0, 0, 0])) (hn : (n : Int) = fld h 3 2) (h0 : x0 = n) (h1 : x1 = zv h 2 v) (hv : (v : Int) < fld h 2 2) : yR g := by
  refine yR_add C J (A := 3) (by decide) D G hn (fun _ => by rw [fld_of F]; exact h0) (fun j B hj => ?_) (fun z => by omega) (fun z => by omega)
  have e : j = 1 ∧ B = 2 := by omega
  obtain ⟨rfl, rfl⟩ := e
  exact ⟨v, hv, by rw [fld_of F]; exact h1⟩
/-- a village more -/
def z57 (S : zT) (n m : Nat) : zT := fun a i => if a = 57 ∧ i / 157 = n ∧ i % 157 < m then 10 else S a i
theorem z57_n (e : a ≠ 57) : z57 S n l a i = S a i := if_neg (fun z => e z.1)
def yVi0 (S : zT) (n : Nat) (a b c : Int) : zT := zs (zs (zs (zs (zs (zs (zs (zs S 39 (4 * n) (zid a 0)) 39 (4 * n + 1) (zid a 1)) 39 (4 * n + 2) (zid a 2)) 39 (4 * n + 3) (zid a 3)) 65 n b) 66 n c) 70 n 20) 71 n 10
def yVil (S : zT) (n : Nat) (a b c : Int) : zT := zs (z57 (yVi0 S n a b c) n ((S 37 0).toNat + 1)) 37 1 (n + 1)
theorem yVi0_n {x y z : Int} (e : a ≠ 39 ∧ a ≠ 65 ∧ a ≠ 66 ∧ a ≠ 70 ∧ a ≠ 71) : yVi0 S n x y z a i = S a i := by
  obtain ⟨e1, e2, e3, e4, e5⟩ := e
  unfold yVi0
  rw [zs_na e5, zs_na e4, zs_na e3, zs_na e2, zs_na e1, zs_na e1, zs_na e1, zs_na e1]
theorem yC_vil {x0 x1 x2 x3 : Int} (C : CI h) (Cg : CI g) (J : yR h) (D : zAdded h 2 r g) (G : gV h r) (F : cel h r = some (11, [x0, x1, x2, x3, 0, 0, 0, 0, 20, 10, 0, 0, 0, 0, 0, 0, q])) (F1 : ∀ j : Nat, j < 157 → fld h q j = 10) (hn : (n : Int) = fld h 2 2) : yC g = yVil (yC h) n x1 x2 x3 := by
  have hA : (2 : Nat) = 2 ∨ (2 : Nat) = 3 ∨ (2 : Nat) = 4 ∨ (2 : Nat) = 5 := by decide
  have en : (fld h ((2 : Nat) : Int) 2).toNat = n := by show (fld h 2 2).toNat = n; omega
  have zn : zv g 2 n = r := by rw [← en]; exact D.2.2.2.2.1
  have ln : fld g 2 2 = fld h 2 2 + 1 := D.2.2.1
  have hi : (n : Int) < fld g 2 2 := by omega
  have bg := zLb_2 Cg
  have fr : ∀ j, fld g (zv g 2 n) j = ([x0, x1, x2, x3, 0, 0, 0, 0, 20, 10, 0, 0, 0, 0, 0, 0, q] : List Int).getD j 0 := fun j => by rw [zn, zAdded.o C (by decide) D (sh_of F) (by decide) G.1, fld_of F]
  have by_ : ∀ a, (Nat.beq (yK a) 11 && Nat.beq (yFA a) 2) = true → yC h a n = 0 := fun a e => yC_bey (A := 2) e hn
  have fq : ∀ j : Nat, j < 157 → fld g q j = 10 := (zNewP C D G F rfl F1).2.2
  have f1 : fld g 1 0 = fld h 1 0 := congrFun (D.fp C hA (q := 1) (by decide) (by decide)) 0
  funext a i
  unfold yVil
  rw [zs_if]
  by_cases e1 : a = 37 ∧ i = 1
  · rw [if_pos e1, e1.1, e1.2]
    show fld g 2 2 = _
    omega
  rw [if_neg e1]
  by_cases h57 : a = 57
  · subst h57
    have e0 : yC h 37 0 = fld h 1 0 := rfl
    have b0 := C.1.b (a1 := 1) (a2 := 1) (j1 := 0) (j2 := 1) (lo := 0) (hi := 156) (by decide +kernel) (r := 1) (j := 0) (by decide) (by decide) (by decide) (by decide)
    by_cases w : i / 157 = n
    · have L1 : yC g 57 i = (if i < 1256 ∧ ((i / 157 : Nat) : Int) < fld g 2 2 ∧ ((i % 157 : Nat) : Int) ≤ fld g 1 0 then fld g (fld g (zv g 2 (i / 157)) 16) (i % 157) else 0) := rfl
      have L2 : yC h 57 i = (if i < 1256 ∧ ((i / 157 : Nat) : Int) < fld h 2 2 ∧ ((i % 157 : Nat) : Int) ≤ fld h 1 0 then fld h (fld h (zv h 2 (i / 157)) 16) (i % 157) else 0) := rfl
      have R1 : z57 (yVi0 (yC h) n x1 x2 x3) n ((yC h 37 0).toNat + 1) 57 i = (if 57 = 57 ∧ i / 157 = n ∧ i % 157 < (yC h 37 0).toNat + 1 then 10 else yVi0 (yC h) n x1 x2 x3 57 i) := rfl
      rw [L1, R1, yVi0_n (by decide)]
      by_cases u : ((i % 157 : Nat) : Int) ≤ fld g 1 0
      · rw [if_pos ⟨by omega, by omega, u⟩, if_pos ⟨rfl, w, by omega⟩, w, fr]
        exact fq _ (Nat.mod_lt _ (by decide))
      · rw [if_neg (fun z => u z.2.2), if_neg (fun z => u (by omega)), L2, if_neg (fun z => by omega)]
    · refine Eq.trans ?_ ((if_neg (fun z => w z.2.1)).trans (yVi0_n (by decide))).symm
      refine yC_adn C hA D (show (n : Int) = fld h ((2 : Nat) : Int) 2 from hn) ?_
      rintro (⟨t1, t2⟩ | ⟨t1, t2, t3⟩ | ⟨t1, t2, t3⟩ | ⟨-, ⟨t1, t2⟩ | ⟨t1, t2⟩⟩)
      · revert t1; decide
      · revert t1; decide
      · revert t1; decide
      · revert t1; decide
      · exact w t2
  rw [z57_n h57]
  unfold yVi0
  rw [zs_if]
  by_cases e2 : a = 71 ∧ i = n
  · rw [if_pos e2, e2.1, e2.2, yC_f (A := 2) (j := 9) rfl hi, fr]
    rfl
  rw [if_neg e2, zs_if]
  by_cases e3 : a = 70 ∧ i = n
  · rw [if_pos e3, e3.1, e3.2, yC_f (A := 2) (j := 8) rfl hi, fr]
    rfl
  rw [if_neg e3, zs_if]
  by_cases e4 : a = 66 ∧ i = n
  · rw [if_pos e4, e4.1, e4.2, yC_f (A := 2) (j := 3) rfl hi, fr]
    rfl
  rw [if_neg e4, zs_if]
  by_cases e5 : a = 65 ∧ i = n
  · rw [if_pos e5, e5.1, e5.2, yC_f (A := 2) (j := 2) rfl hi, fr]
    rfl
  rw [if_neg e5, zs_if]
  by_cases e6 : a = 39 ∧ i = 4 * n + 3
  · rw [if_pos e6, e6.1, e6.2]
    show (if 4 * n + 3 < 32 ∧ (((4 * n + 3) / 4 : Nat) : Int) < fld g 2 2 then zid (fld g (zv g 2 ((4 * n + 3) / 4)) 1) ((4 * n + 3) % 4) else 0) = _
    rw [if_pos ⟨by omega, by omega⟩, show (4 * n + 3) / 4 = n by omega, show (4 * n + 3) % 4 = 3 by omega, fr]
    rfl
  rw [if_neg e6, zs_if]
  by_cases e7 : a = 39 ∧ i = 4 * n + 2
  · rw [if_pos e7, e7.1, e7.2]
    show (if 4 * n + 2 < 32 ∧ (((4 * n + 2) / 4 : Nat) : Int) < fld g 2 2 then zid (fld g (zv g 2 ((4 * n + 2) / 4)) 1) ((4 * n + 2) % 4) else 0) = _
    rw [if_pos ⟨by omega, by omega⟩, show (4 * n + 2) / 4 = n by omega, show (4 * n + 2) % 4 = 2 by omega, fr]
    rfl
  rw [if_neg e7, zs_if]
  by_cases e8 : a = 39 ∧ i = 4 * n + 1
  · rw [if_pos e8, e8.1, e8.2]
    show (if 4 * n + 1 < 32 ∧ (((4 * n + 1) / 4 : Nat) : Int) < fld g 2 2 then zid (fld g (zv g 2 ((4 * n + 1) / 4)) 1) ((4 * n + 1) % 4) else 0) = _
    rw [if_pos ⟨by omega, by omega⟩, show (4 * n + 1) / 4 = n by omega, show (4 * n + 1) % 4 = 1 by omega, fr]
    rfl
  rw [if_neg e8, zs_if]
  by_cases e9 : a = 39 ∧ i = 4 * n
  · rw [if_pos e9, e9.1, e9.2]
    show (if 4 * n < 32 ∧ (((4 * n) / 4 : Nat) : Int) < fld g 2 2 then zid (fld g (zv g 2 ((4 * n) / 4)) 1) ((4 * n) % 4) else 0) = _
    rw [if_pos ⟨by omega, by omega⟩, show (4 * n) / 4 = n by omega, show (4 * n) % 4 = 0 by omega, fr]
    rfl
  rw [if_neg e9]
  by_cases e10 : i = n ∧ (a = 67 ∨ a = 68 ∨ a = 69 ∨ (72 ≤ a ∧ a ≤ 78))
  · obtain ⟨z, e10⟩ := e10
    subst z
    have w : a = 67 ∨ a = 68 ∨ a = 69 ∨ a = 72 ∨ a = 73 ∨ a = 74 ∨ a = 75 ∨ a = 76 ∨ a = 77 ∨ a = 78 := by omega
    rcases w with rfl | rfl | rfl | rfl | rfl | rfl | rfl | rfl | rfl | rfl
    · rw [by_ 67 rfl, yC_f (A := 2) (j := 5) rfl hi, fr]; rfl
    · rw [by_ 68 rfl, yC_f (A := 2) (j := 6) rfl hi, fr]; rfl
    · rw [by_ 69 rfl, yC_f (A := 2) (j := 7) rfl hi, fr]; rfl
    · rw [by_ 72 rfl, yC_f (A := 2) (j := 4) rfl hi, fr]; rfl
    · rw [by_ 73 rfl, yC_f (A := 2) (j := 10) rfl hi, fr]; rfl
    · rw [by_ 74 rfl, yC_f (A := 2) (j := 11) rfl hi, fr]; rfl
    · rw [by_ 75 rfl, yC_f (A := 2) (j := 12) rfl hi, fr]; rfl
    · rw [by_ 76 rfl, yC_f (A := 2) (j := 13) rfl hi, fr]; rfl
    · rw [by_ 77 rfl, yC_f (A := 2) (j := 14) rfl hi, fr]; rfl
    · rw [by_ 78 rfl, yC_f (A := 2) (j := 15) rfl hi, fr]; rfl
  refine yC_adn C hA D (show (n : Int) = fld h ((2 : Nat) : Int) 2 from hn) ?_
  rintro (⟨t1, t2⟩ | ⟨t1, t2, t3⟩ | ⟨t1, t2, t3⟩ | ⟨-, ⟨t1, t2⟩ | ⟨t1, t2⟩⟩)
  · have q := yK_1 t1
    rcases ySr_c (i := i) with ⟨w, y⟩ | ⟨w, -⟩ | ⟨w, -⟩ | ⟨w, -⟩ | ⟨-, -, w, -⟩
    · exact e1 ⟨q, y⟩
    · rw [w] at t2; revert t2; decide
    · rw [w] at t2; revert t2; decide
    · rw [w] at t2; revert t2; decide
    · exact w t2
  · rcases yFA_c (a := a) with ⟨-, w1, w2⟩ | ⟨w, -⟩ | ⟨w, -⟩ | ⟨w, -⟩ | w <;> omega
  · rcases yRA_c (a := a) with ⟨w, -⟩ | ⟨w, -⟩ | ⟨w, -⟩ | ⟨w, -⟩ | w <;> (rw [w] at t2; revert t2; decide)
  · have q := yK_2 t1
    omega
  · exact h57 (yK_4 t1)
theorem yR_vil {x0 x1 x2 x3 : Int} (C : CI h) (J : yR h) (D : zAdded h 2 r g) (G : gV h r) (F : cel h r = some (11, [x0, x1, x2, x3, 0, 0, 0, 0, 20, 10, 0, 0, 0, 0, 0, 0, q])) (hn : (n : Int) = fld h 2 2) (h0 : x0 = n) (h1 : 0 ≤ x1) : yR g := by
  refine yR_add C J (A := 2) (by decide) D G hn (fun _ => by rw [fld_of F]; exact h0) (fun j B hj => by omega) (fun _ => by rw [fld_of F]; exact h1) (fun z => by omega)
/-- its price row is another -/
theorem zPd_vil {x0 x1 x2 x3 : Int} (P : zPd h) (C : CI h) (D : zAdded h 2 r g) (G : gV h r) (F : cel h r = some (11, [x0, x1, x2, x3, 0, 0, 0, 0, 20, 10, 0, 0, 0, 0, 0, 0, q])) (hn : (n : Int) = fld h 2 2) (fr : ∀ i : Nat, (i : Int) < fld h 2 2 → fld h (zv h 2 i) 16 ≠ q) : zPd g := by
  have hA : (2 : Nat) = 2 ∨ (2 : Nat) = 3 ∨ (2 : Nat) = 4 ∨ (2 : Nat) = 5 := by decide
  have en : (fld h ((2 : Nat) : Int) 2).toNat = n := by show (fld h 2 2).toNat = n; omega
  have zn : zv g 2 n = r := by rw [← en]; exact D.2.2.2.2.1
  have ln : fld g 2 2 = fld h 2 2 + 1 := D.2.2.1
  have fn : fld g (zv g 2 n) 16 = q := by rw [zn, zAdded.o C (by decide) D (sh_of F) (by decide) G.1, fld_of F]; rfl
  have fo : ∀ v : Nat, (v : Int) < fld h 2 2 → fld g (zv g 2 v) 16 = fld h (zv h 2 v) 16 := fun v hv => by
    rw [D.v (A := 2) hv, D.ov C hA (by decide) hv]
  intro u w hu hw ne
  by_cases cu : u = n
  · by_cases cw : w = n
    · omega
    · rw [cu, fn, fo w (by omega)]
      exact fun z => fr w (by omega) z.symm
  · by_cases cw : w = n
    · rw [cw, fn, fo u (by omega)]
      exact fr u (by omega)
    · rw [fo u (by omega), fo w (by omega)]
      exact P u w (by omega) (by omega) ne
end YV
