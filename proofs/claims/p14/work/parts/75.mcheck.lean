/-! the model's check: an array of longs of its own; the model's calls keep the class -/
section ZJ
variable {sc : List Int} {h h' h1 h2 g : Hp}
def gJ (n : Nat) (h : Hp) (r : Int) : Prop := 365 < r ∧ sh h r = some (23, n)
theorem gJ.x {ms : Zms} {c s r : Int} {n : Nat} (G : gJ n h r) (R : zXR ms c s h h') : gJ n h' r := ⟨G.1, R.1 _ _ G.2⟩
theorem CI.wJ {r x : Int} {j n : Nat} (C : CI h) (e : h' = wr h r j x) (G : gJ n h r) (hj : j < 100000) : CI h' ∧ zXR [(1023, 1023, 0, 100000)] 0 0 h h' := by
  obtain ⟨hr, s⟩ := G
  have R : zXR [(1023, 1023, 0, 100000)] 0 0 h h' := C.wdX e hr s rfl (by decide) rfl ⟨Nat.zero_le _, hj⟩
  have fo : ∀ (q : Int) (i : Nat), q ≠ r → fld h' q i = fld h q i := fun q i hne => by rw [e]; exact fld_wr (Or.inl hne)
  refine ⟨⟨C.1.far (fun q k1 k2 => by rw [e, sh_wr]) (fun q i k1 k2 => fo q i (by omega)), C.2.1.wq e s (by unfold kty; simp), C.2.2.kp R (fun A hA => ?_) (fun A hA ha => ?_) (fun i hi => fo _ _ (by omega))⟩, R⟩
  · have hq := zLis_36 hA
    exact ⟨fo _ _ (by omega), fo _ _ (by omega)⟩
  · funext i
    refine fo _ _ (fun hz => ?_)
    obtain ⟨m, hm⟩ := (C.2.2.1 A hA).d25 ha
    rw [hz, s] at hm
    cases hm
/-- the model's calls -/
theorem CI.m {ms : Zms} (C : CI h) (I : zI g) (R : zMR ms h g) (e : ms.all (fun q => Nat.ble 37 q.1 && Nat.ble q.2.1 365) = true) : CI g ∧ zXR ms 0 0 h g := by
  obtain ⟨r1, r2, r3, r4⟩ := R
  have fo : ∀ (q : Int) (j : Nat), ¬ (37 ≤ q ∧ q ≤ 365) → fld g q j = fld h q j := by
    intro q j hq
    refine r4 q j (fun f hf hz => ?_)
    have w := List.all_eq_true.mp e f hf
    rw [Bool.and_eq_true] at w
    have w1 := Nat.le_of_ble_eq_true w.1
    have w2 := Nat.le_of_ble_eq_true w.2
    omega
  have X : zXR ms 0 0 h g := by
    refine ⟨fun q z hz => by rw [r1]; exact hz, fun q j _ _ hn => r4 q j hn, fun q k n j k1 _ _ => fo q j (by omega), by omega, ?_, ?_, fun q k n j k1 _ _ _ => fo q j (by omega), fun A hA _ ha j => fo _ j (by omega)⟩
    · rw [fo 4 2 (by omega), fo 21 2 (by omega)]; omega
    · rw [fo 4 2 (by omega), fo 21 2 (by omega)]; omega
  refine ⟨⟨I, fun q k n j k1 k2 k3 => ?_, C.2.2.kp X (fun A hA => ?_) (fun A hA ha => funext (fun j => fo _ j (by omega))) (fun i hi => fo _ _ (by omega))⟩, X⟩
  · rw [r1] at k2
    rw [fo q j (by omega)]
    exact C.2.1 q k n j k1 k2 k3
  · have hq := zLis_36 hA
    exact ⟨fo _ _ (by omega), fo _ _ (by omega)⟩
/-- the class's calls keep all that is said of the model -/
theorem zXR.same {ms : Zms} {c s : Int} (X : zXR ms c s h g) (e : ms.all (fun q => Nat.blt q.2.1 37 || Nat.blt 365 q.1) = true) {r : Int} (hr : 37 ≤ r ∧ r ≤ 365) : fld g r = fld h r := by
  funext j
  refine X.2.1 r j (by omega) hr.2 (fun f hf hz => ?_)
  have w := List.all_eq_true.mp e f hf
  rw [Bool.or_eq_true] at w
  rcases w with w | w
  · have w := Nat.le_of_ble_eq_true w
    omega
  · have w := Nat.le_of_ble_eq_true w
    omega
end ZJ
