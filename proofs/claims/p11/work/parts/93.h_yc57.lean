/-! one price of a village is told -/
section YC
variable {h h' h1 g : Hp} {a i k n : Nat} {x : Int} {ms : Zms} {c s : Int}
theorem yC_pd {R0 : Int} {n0 : Nat} (s0 : sh h R0 = some (20, n0)) (ha : a ≠ 57) (hS : a = 37 → ySc i = true → fld g ((ySr i).1 : Nat) (ySr i).2 = fld h ((ySr i).1 : Nat) (ySr i).2) (hL : ∀ A : Nat, (A = 2 ∨ A = 3 ∨ A = 4 ∨ A = 5 ∨ A = 20) → fld g A 2 = fld h A 2 ∧ ∀ m : Nat, (m : Int) < fld h A 2 → zv g A m = zv h A m) (h7 : a = 48 → fld g 7 i = fld h 7 i) (h10 : a = 98 → fld g 10 i = fld h 10 i) (h13 : a = 164 → fld g 13 1 = fld h 13 1 ∧ (i < 12 → fld g 15 i = fld h 15 i)) (hX : yK a = 9 → fld g ((yFx a : Nat) : Int) i = fld h ((yFx a : Nat) : Int) i) (C : CI h) (hO : ∀ (r : Int) (j : Nat), 365 < r → r ≠ R0 → fld g r j = fld h r j) (hM : yM g = yM h) : yC g a i = yC h a i := by
  have hk : ∀ (r : Int) (k n : Nat), sh h r = some (k, n) → k ≠ 20 → r ≠ R0 := fun r k n s e z => by
    rw [z, s0] at s
    exact e (congrArg Prod.fst (Option.some.inj s)).symm
  have hz : ∀ (r : Int) (A : Nat), (365 < r ∧ ∃ n, sh h r = some (zkd A, n)) → r ≠ R0 := fun r A w => by
    obtain ⟨-, n, w⟩ := w
    exact hk r _ n w (by unfold zkd; split <;> (try split) <;> (try split) <;> (try split) <;> decide)
  have m2 : (2 : Nat) ∈ zLis := by decide
  have m20 : (20 : Nat) ∈ zLis := by decide
  have e37 : yK a = 1 → a = 37 := fun e => by
    cases c1 : Nat.beq a 37 with
    | true => exact Nat.eq_of_beq_eq_true c1
    | false =>
      exfalso
      unfold yK at e
      rw [c1] at e
      revert e
      cases Nat.beq a 39 <;> cases Nat.beq a 48 <;> cases Nat.beq a 57 <;> cases Nat.beq a 98 <;> cases Nat.beq a 164 <;> cases Nat.beq a 186 <;> cases (Nat.beq a 8 || (Nat.beq a 101 || Nat.beq a 155)) <;> cases Nat.beq (yFx a) 0 <;> cases Nat.beq (yRA a).1 0 <;> cases Nat.beq (yFA a) 0 <;> decide
  have eK : ∀ n : Nat, yK a = n → (n = 3 → a = 48) ∧ (n = 4 → a = 57) ∧ (n = 5 → a = 98) ∧ (n = 6 → a = 164) := by
    intro n e
    unfold yK at e
    cases c1 : Nat.beq a 48 with
    | true => have q := Nat.eq_of_beq_eq_true c1; subst q; subst e; decide
    | false =>
    cases c2 : Nat.beq a 57 with
    | true => have q := Nat.eq_of_beq_eq_true c2; subst q; subst e; decide
    | false =>
    cases c3 : Nat.beq a 98 with
    | true => have q := Nat.eq_of_beq_eq_true c3; subst q; subst e; decide
    | false =>
    cases c4 : Nat.beq a 164 with
    | true => have q := Nat.eq_of_beq_eq_true c4; subst q; subst e; decide
    | false =>
      rw [c1, c2, c3, c4] at e
      revert e
      cases Nat.beq a 37 <;> cases Nat.beq a 39 <;> cases Nat.beq a 186 <;> cases (Nat.beq a 8 || (Nat.beq a 101 || Nat.beq a 155)) <;> cases Nat.beq (yFx a) 0 <;> cases Nat.beq (yRA a).1 0 <;> cases Nat.beq (yFA a) 0 <;> (intro e; subst e; exact ⟨fun z => absurd z (by decide), fun z => absurd z (by decide), fun z => absurd z (by decide), fun z => absurd z (by decide)⟩)
  obtain ⟨l2, v2⟩ := hL 2 (by omega)
  have l2 : fld g 2 2 = fld h 2 2 := l2
  unfold yC
  split
  · rename_i hK
    cases c2 : ySc i with
    | false => rfl
    | true => exact hS (e37 hK) c2
  · rw [l2]
    by_cases q : i < 32 ∧ ((i / 4 : Nat) : Int) < fld h 2 2
    · rw [if_pos q, if_pos q, v2 _ q.2, hO _ 1 (zv_s C m2 q.2).1 (hz _ 2 (zv_s C m2 q.2))]
    · rw [if_neg q, if_neg q]
  · rename_i hK
    rw [h7 ((eK _ hK).1 rfl)]
  · rename_i hK
    exact absurd ((eK _ hK).2.1 rfl) ha
  · rename_i hK
    rw [h10 ((eK _ hK).2.2.1 rfl)]
  · rename_i hK
    obtain ⟨f13, f15⟩ := h13 ((eK _ hK).2.2.2 rfl)
    rw [f13]
    by_cases q : (i : Int) < fld h 13 1
    · have hb := C.1.b (a1 := 13) (a2 := 13) (j1 := 1) (j2 := 2) (lo := 0) (hi := 12) (by decide +kernel) (r := 13) (j := 1) (by decide) (by decide) (by decide) (by decide)
      rw [if_pos q, if_pos q, f15 (by omega)]
      rcases C.2.2.2.2 i (by omega) with z | z
      · rw [z]
        unfold fld
        rw [cel_0, cel_0]
      · exact hO _ _ z.1 (hk _ _ _ z.2.1 (by decide))
    · rw [if_neg q, if_neg q]
  · obtain ⟨l20, v20⟩ := hL 20 (by omega)
    have l20 : fld g 20 2 = fld h 20 2 := l20
    rw [l20]
    by_cases q : (i : Int) < fld h 20 2
    · rw [if_pos q, if_pos q, v20 i q, hO _ 0 (zv_s C m20 q).1 (hz _ 20 (zv_s C m20 q))]
    · rw [if_neg q, if_neg q]
  · rw [hM]
  · rename_i hK
    rw [hX hK]
  · rename_i hK
    have w := yK_10 hK
    obtain ⟨zA, vA⟩ := hL (yRA a).1 (by omega)
    have lA : (yRA a).1 ∈ zLis := by
      unfold zLis
      rcases w with ⟨z, -⟩ | ⟨z, -⟩ | ⟨z, -⟩ | ⟨z, -⟩ <;> rw [z] <;> decide
    rw [zA]
    by_cases q : (i : Int) < fld h ((yRA a).1 : Nat) 2
    · rw [if_pos q, if_pos q, vA i q, hO _ _ (zv_s C lA q).1 (hz _ _ (zv_s C lA q))]
      have G := (zv_g C lA q).2
      unfold zG at G
      rcases w with ⟨z1, z2⟩ | ⟨z1, z2⟩ | ⟨z1, z2⟩ | ⟨z1, z2⟩
      · rw [z1] at G ⊢; rw [z2]; exact hO _ _ G.2.2.1 (hk _ _ _ G.2.2.2.1 (by decide))
      · rw [z1] at G ⊢; rw [z2]; exact hO _ _ G.2.2.1 (hk _ _ _ G.2.2.2.1 (by decide))
      · rw [z1] at G ⊢; rw [z2]; exact hO _ _ G.2.2.1.1 (hk _ _ _ G.2.2.1.2.1 (by decide))
      · rw [z1] at G ⊢; rw [z2]; exact hO _ _ G.2.2.2.1 (hk _ _ _ G.2.2.2.2.1 (by decide))
    · rw [if_neg q, if_neg q]
  · rename_i hK
    obtain ⟨u1, u2, u3⟩ := yF_of hK
    obtain ⟨zA, vA⟩ := hL (yFA a) (by omega)
    have lA : yFA a ∈ zLis := by
      unfold zLis
      rcases u3 with z | z | z | z <;> rw [z] <;> decide
    rw [zA]
    by_cases q : (i : Int) < fld h ((yFA a : Nat) : Int) 2
    · rw [if_pos q, if_pos q, vA i q, hO _ _ (zv_s C lA q).1 (hz _ _ (zv_s C lA q))]
    · rw [if_neg q, if_neg q]
  · rfl
theorem cond_le {b : Bool} {u v : Nat × Nat} (hu : u.1 ≤ 365) (hv : v.1 ≤ 365) : (cond b u v).1 ≤ 365 := by
  cases b
  · exact hv
  · exact hu
theorem ySr_le (i : Nat) : (ySr i).1 ≤ 365 := by
  unfold ySr
  repeat' (first | apply cond_le | decide)
/-- the villages' price rows are each another -/
def zPd (h : Hp) : Prop := ∀ v k : Nat, (v : Int) < fld h 2 2 → (k : Int) < fld h 2 2 → v ≠ k → fld h (zv h 2 v) 16 ≠ fld h (zv h 2 k) 16
theorem zPd.fr {ms : Zms} {c s : Int} (P : zPd h) (C : CI h) (R : zXR ms c s h g) (e : zun ms 2 = true) : zPd g := fun v k hv hk ne => by
  obtain ⟨v1, v2⟩ := zV_16 C R e hv
  obtain ⟨k1, k2⟩ := zV_16 C R e hk
  rw [v2, k2]
  exact P v k v1 k1 ne
/-- a price row is written -/
theorem yC_w57 {w : Nat} {r : Int} (C : CI h) (P : zPd h) (hk : (k : Int) < fld h 2 2) (hw : w < 157 ∧ (w : Int) ≤ fld h 1 0) (er : r = fld h (zv h 2 k) 16) (e : g = wr h r w x) : yC g = zs (yC h) 57 (157 * k + w) x := by
  have b2 := zLb_2 C
  have G := zV_g C hk
  obtain ⟨g1, g2, g3, g4⟩ := G
  rw [← er] at g3 g4
  have hO : ∀ (q : Int) (j : Nat), q ≠ r → fld g q j = fld h q j := fun q j hq => by rw [e]; exact fld_wr (Or.inl hq)
  have z25 : ∀ A ∈ zLis, 365 < fld h A 1 → fld h A 1 ≠ r := C.ne25 g4 (by decide)
  have hzv : ∀ A ∈ zLis, ∀ m : Nat, zv g A m = zv h A m := fun A hA m => zv_wr C hA g3 z25 e m
  have h36 : ∀ A : Nat, A ≤ 365 → ∀ j, fld g (A : Int) j = fld h (A : Int) j := fun A hA j => hO _ j (by omega)
  have hM : yM g = yM h := yM_fx (fun p q hp => hO p q (by omega))
  funext a i
  by_cases ha : a = 57
  · subst ha
    show (if i < 1256 ∧ ((i / 157 : Nat) : Int) < fld g 2 2 ∧ ((i % 157 : Nat) : Int) ≤ fld g 1 0 then fld g (fld g (zv g 2 (i / 157)) 16) (i % 157) else 0) = _
    rw [show fld g 2 2 = fld h 2 2 from h36 2 (by decide) 2, show fld g 1 0 = fld h 1 0 from h36 1 (by decide) 0, hzv 2 (by decide)]
    by_cases q : i < 1256 ∧ ((i / 157 : Nat) : Int) < fld h 2 2 ∧ ((i % 157 : Nat) : Int) ≤ fld h 1 0
    · have gv := zV_g C q.2.1
      have n16 : zv h 2 (i / 157) ≠ r := fun z => by
        have w2 := gv.2.1
        rw [z, g4] at w2
        cases w2
      rw [if_pos q, hO _ 16 n16]
      by_cases z : i = 157 * k + w
      · rw [z, zs_eq, show (157 * k + w) / 157 = k by omega, show (157 * k + w) % 157 = w by omega, ← er, e]
        exact fld_wr_eq g4 hw.1
      · rw [zs_ni z]
        show _ = (if i < 1256 ∧ ((i / 157 : Nat) : Int) < fld h 2 2 ∧ ((i % 157 : Nat) : Int) ≤ fld h 1 0 then fld h (fld h (zv h 2 (i / 157)) 16) (i % 157) else 0)
        rw [if_pos q]
        by_cases y : i / 157 = k
        · rw [y, ← er, e]
          exact fld_wr (Or.inr (by omega))
        · exact hO _ _ (by rw [er]; exact P _ _ q.2.1 hk y)
    · rw [if_neg q, zs_ni (fun z => q (by rw [z]; exact ⟨by omega, by rw [show (157 * k + w) / 157 = k by omega]; exact hk, by rw [show (157 * k + w) % 157 = w by omega]; exact hw.2⟩))]
      exact (if_neg q).symm
  · rw [zs_na ha]
    exact yC_pd g4 ha (fun _ _ => h36 _ (ySr_le i) _) (fun A hA => ⟨h36 A (by omega) 2, fun m _ => hzv A (by unfold zLis; rcases hA with z | z | z | z | z <;> rw [z] <;> decide) m⟩) (fun _ => h36 7 (by decide) i) (fun _ => h36 10 (by decide) i) (fun _ => ⟨h36 13 (by decide) 1, fun _ => h36 15 (by decide) i⟩) (fun q => h36 _ (by rcases yK_9 q with z | z | z | z | z <;> rw [z] <;> decide) i) C (fun q j _ hq => hO q j hq) hM
/-- weeks leave what is asked as it was -/
theorem zRq.go {q : qT} {ms : Zms} {c s : Int} (P : zRq q h) (C : CI h) (R : zXR ms c s h g) (K : zKw h g) (e : ((zun ms 14 && (zun ms 2 && (zuw ms 101 148 && zuw ms 155 162))) && (zkFo ms && (zqN ms 37 37 52 54 && (zun ms 164 && zun ms 165)))) = true) : zRq q g := by
  obtain ⟨⟨p1, p2, p3⟩, ⟨p4, p5⟩, p6⟩ := P
  simp only [Bool.and_eq_true] at e
  obtain ⟨⟨k1, k3, k4, k5⟩, e2, e3, e4, e5⟩ := e
  have e1 : (zun ms 14 && (zun ms 2 && (zuw ms 101 148 && zuw ms 155 162))) = true := by rw [k1, k3, k4, k5]; rfl
  have k6 := e2
  unfold zkFo at k6
  simp only [Bool.and_eq_true] at k6
  obtain ⟨-, -, -, -, -, k7⟩ := k6
  have f1 : fld g 37 52 = fld h 37 52 := R.f e3 ⟨by decide, by decide⟩ ⟨by decide, by decide⟩ ⟨by decide, by decide⟩
  have f2 : fld g 37 53 = fld h 37 53 := R.f e3 ⟨by decide, by decide⟩ ⟨by decide, by decide⟩ ⟨by decide, by decide⟩
  have f3 : fld g 13 1 = fld h 13 1 := R.f k7 ⟨by decide, by decide⟩ ⟨by decide, by decide⟩ ⟨by decide, by decide⟩
  have f4 : fld g 14 2 = fld h 14 2 := R.vz (A := 14) (by decide) k1
  have b := zLb_14 C
  have r1 : ∀ r : Int, 101 ≤ r → r ≤ 148 → fld g r = fld h r := fun r u v => R.rw k4 (by decide) (by decide) u v
  have r2 : ∀ r : Int, 155 ≤ r → r ≤ 162 → fld g r = fld h r := fun r u v => R.rw k5 (by decide) (by decide) u v
  refine ⟨⟨p1.go C R K e1, p2.kp C R e2, p3.of r1 r2 f1 (by omega)⟩, ⟨by omega, by omega⟩, fun c w N c0 c1 => ?_⟩
  rw [← p6 c w N c0 c1]
  exact zTl_of r1 r2 (R.fa (a := 164) e4 (by decide)) (R.fa (a := 165) e5 (by decide)) f2 (p2.bd C p4) ⟨c0, c1⟩
end YC
