/-! the lists' own methods -/
section ZL
variable {sc : List Int} {D D' y pc nx : Nat} {ls st st' : List Vl} {h h' h1 h2 g : Hp} {Q : Option Vl → Hp → Prop}
theorem zLis_sh (C : CI h) {A : Nat} (hA : A ∈ zLis) : sh h (A : Int) = some (0, 3) := by
  unfold zLis at hA
  simp only [List.mem_cons, List.not_mem_nil, or_false] at hA
  rcases hA with rfl | rfl | rfl | rfl | rfl | rfl | rfl
  · exact C.1.s (a1 := 2) (a2 := 2) (by decide +kernel) (by decide) (by decide)
  · exact C.1.s (a1 := 3) (a2 := 3) (by decide +kernel) (by decide) (by decide)
  · exact C.1.s (a1 := 4) (a2 := 4) (by decide +kernel) (by decide) (by decide)
  · exact C.1.s (a1 := 5) (a2 := 5) (by decide +kernel) (by decide) (by decide)
  · exact C.1.s (a1 := 14) (a2 := 14) (by decide +kernel) (by decide) (by decide)
  · exact C.1.s (a1 := 20) (a2 := 20) (by decide +kernel) (by decide) (by decide)
  · exact C.1.s (a1 := 21) (a2 := 21) (by decide +kernel) (by decide) (by decide)
def zmx (A : Nat) : Int := if A = 2 ∨ A = 14 then 8 else if A = 3 then 20 else if A = 4 then 300 else if A = 5 then 200 else 6
theorem zLis_b (C : CI h) {A : Nat} (hA : A ∈ zLis) : 0 ≤ fld h (A : Int) 2 ∧ fld h (A : Int) 2 ≤ zmx A := by
  unfold zLis at hA
  simp only [List.mem_cons, List.not_mem_nil, or_false] at hA
  rcases hA with rfl | rfl | rfl | rfl | rfl | rfl | rfl
  · exact C.1.b (a1 := 2) (a2 := 2) (j1 := 2) (j2 := 3) (lo := 0) (hi := 8) (by decide +kernel) (by decide) (by decide) (by decide) (by decide)
  · exact C.1.b (a1 := 3) (a2 := 3) (j1 := 2) (j2 := 3) (lo := 0) (hi := 20) (by decide +kernel) (by decide) (by decide) (by decide) (by decide)
  · exact C.1.b (a1 := 4) (a2 := 4) (j1 := 2) (j2 := 3) (lo := 0) (hi := 300) (by decide +kernel) (by decide) (by decide) (by decide) (by decide)
  · exact C.1.b (a1 := 5) (a2 := 5) (j1 := 2) (j2 := 3) (lo := 0) (hi := 200) (by decide +kernel) (by decide) (by decide) (by decide) (by decide)
  · exact C.1.b (a1 := 14) (a2 := 14) (j1 := 2) (j2 := 3) (lo := 0) (hi := 8) (by decide +kernel) (by decide) (by decide) (by decide) (by decide)
  · exact C.1.b (a1 := 20) (a2 := 20) (j1 := 2) (j2 := 3) (lo := 0) (hi := 6) (by decide +kernel) (by decide) (by decide) (by decide) (by decide)
  · exact C.1.b (a1 := 21) (a2 := 21) (j1 := 2) (j2 := 3) (lo := 0) (hi := 6) (by decide +kernel) (by decide) (by decide) (by decide) (by decide)
/-- writes at a list's own cell -/
theorem zI.wl (I : zI h) {A : Nat} (hA : A ∈ zLis) {j : Nat} {x : Int} (hj : j < 3) (h0 : -2147483648 ≤ x ∧ x ≤ 2147483647) (h1 : j = 1 → -2 ≤ x) (h2 : j = 2 → 0 ≤ x ∧ x ≤ zmx A) : zI (wr h (A : Int) j x) := by
  have e : j = 0 ∨ j = 1 ∨ j = 2 := by omega
  unfold zLis at hA
  simp only [List.mem_cons, List.not_mem_nil, or_false] at hA
  rcases e with rfl | rfl | rfl
  · rcases hA with rfl | rfl | rfl | rfl | rfl | rfl | rfl
    · exact I.w (a1 := 2) (a2 := 2) (j1 := 0) (j2 := 1) (lo := -2147483648) (hi := 2147483647) (by decide +kernel) (by decide) (by decide) (by decide) (by decide) h0.1 h0.2
    · exact I.w (a1 := 3) (a2 := 3) (j1 := 0) (j2 := 1) (lo := -2147483648) (hi := 2147483647) (by decide +kernel) (by decide) (by decide) (by decide) (by decide) h0.1 h0.2
    · exact I.w (a1 := 4) (a2 := 4) (j1 := 0) (j2 := 1) (lo := -2147483648) (hi := 2147483647) (by decide +kernel) (by decide) (by decide) (by decide) (by decide) h0.1 h0.2
    · exact I.w (a1 := 5) (a2 := 5) (j1 := 0) (j2 := 1) (lo := -2147483648) (hi := 2147483647) (by decide +kernel) (by decide) (by decide) (by decide) (by decide) h0.1 h0.2
    · exact I.w (a1 := 14) (a2 := 14) (j1 := 0) (j2 := 1) (lo := -2147483648) (hi := 2147483647) (by decide +kernel) (by decide) (by decide) (by decide) (by decide) h0.1 h0.2
    · exact I.w (a1 := 20) (a2 := 20) (j1 := 0) (j2 := 1) (lo := -2147483648) (hi := 2147483647) (by decide +kernel) (by decide) (by decide) (by decide) (by decide) h0.1 h0.2
    · exact I.w (a1 := 21) (a2 := 21) (j1 := 0) (j2 := 1) (lo := -2147483648) (hi := 2147483647) (by decide +kernel) (by decide) (by decide) (by decide) (by decide) h0.1 h0.2
  · have h1 := h1 rfl
    rcases hA with rfl | rfl | rfl | rfl | rfl | rfl | rfl
    · exact I.w (a1 := 2) (a2 := 2) (j1 := 1) (j2 := 2) (lo := -2) (hi := 2147483647) (by decide +kernel) (by decide) (by decide) (by decide) (by decide) h1 h0.2
    · exact I.w (a1 := 3) (a2 := 3) (j1 := 1) (j2 := 2) (lo := -2) (hi := 2147483647) (by decide +kernel) (by decide) (by decide) (by decide) (by decide) h1 h0.2
    · exact I.w (a1 := 4) (a2 := 4) (j1 := 1) (j2 := 2) (lo := -2) (hi := 2147483647) (by decide +kernel) (by decide) (by decide) (by decide) (by decide) h1 h0.2
    · exact I.w (a1 := 5) (a2 := 5) (j1 := 1) (j2 := 2) (lo := -2) (hi := 2147483647) (by decide +kernel) (by decide) (by decide) (by decide) (by decide) h1 h0.2
    · exact I.w (a1 := 14) (a2 := 14) (j1 := 1) (j2 := 2) (lo := -2) (hi := 2147483647) (by decide +kernel) (by decide) (by decide) (by decide) (by decide) h1 h0.2
    · exact I.w (a1 := 20) (a2 := 20) (j1 := 1) (j2 := 2) (lo := -2) (hi := 2147483647) (by decide +kernel) (by decide) (by decide) (by decide) (by decide) h1 h0.2
    · exact I.w (a1 := 21) (a2 := 21) (j1 := 1) (j2 := 2) (lo := -2) (hi := 2147483647) (by decide +kernel) (by decide) (by decide) (by decide) (by decide) h1 h0.2
  · obtain ⟨k1, k2⟩ := h2 rfl
    rcases hA with rfl | rfl | rfl | rfl | rfl | rfl | rfl
    · exact I.w (a1 := 2) (a2 := 2) (j1 := 2) (j2 := 3) (lo := 0) (hi := 8) (by decide +kernel) (by decide) (by decide) (by decide) (by decide) k1 k2
    · exact I.w (a1 := 3) (a2 := 3) (j1 := 2) (j2 := 3) (lo := 0) (hi := 20) (by decide +kernel) (by decide) (by decide) (by decide) (by decide) k1 k2
    · exact I.w (a1 := 4) (a2 := 4) (j1 := 2) (j2 := 3) (lo := 0) (hi := 300) (by decide +kernel) (by decide) (by decide) (by decide) (by decide) k1 k2
    · exact I.w (a1 := 5) (a2 := 5) (j1 := 2) (j2 := 3) (lo := 0) (hi := 200) (by decide +kernel) (by decide) (by decide) (by decide) (by decide) k1 k2
    · exact I.w (a1 := 14) (a2 := 14) (j1 := 2) (j2 := 3) (lo := 0) (hi := 8) (by decide +kernel) (by decide) (by decide) (by decide) (by decide) k1 k2
    · exact I.w (a1 := 20) (a2 := 20) (j1 := 2) (j2 := 3) (lo := 0) (hi := 6) (by decide +kernel) (by decide) (by decide) (by decide) (by decide) k1 k2
    · exact I.w (a1 := 21) (a2 := 21) (j1 := 2) (j2 := 3) (lo := 0) (hi := 6) (by decide +kernel) (by decide) (by decide) (by decide) (by decide) k1 k2
theorem zLis_36 {A : Nat} (hA : A ∈ zLis) : 0 < (A : Int) ∧ (A : Int) ≤ 21 ∧ A ≠ 15 := by
  unfold zLis at hA
  simp only [List.mem_cons, List.not_mem_nil, or_false] at hA
  omega
/-- the count of changes -/
theorem CI.wm {A : Nat} (C : CI h) (hA : A ∈ zLis) {x : Int} (hx : -2147483648 ≤ x ∧ x ≤ 2147483647) (e : g = wr h (A : Int) 0 x) : CI g := by
  have hq := zLis_36 hA
  have R : zXR [(A, A, 0, 1)] 0 0 h g := zXR.wc e rfl ⟨hq.1, by omega, Or.inr (by decide)⟩ ⟨by decide, by decide⟩
  refine ⟨by rw [e]; exact C.1.wl hA (by decide) hx (by omega) (by omega), fun q k n i k1 k2 k3 => ?_, C.2.2.kp R (fun B hB => ?_) (fun B hB ha => ?_) (fun i hi => ?_)⟩
  · rw [e, sh_wr] at k2
    rw [e, fld_wr (Or.inl (by omega))]
    exact C.2.1 q k n i k1 k2 k3
  · exact ⟨by rw [e]; exact fld_wr (Or.inr (by decide)), by rw [e]; exact fld_wr (Or.inr (by decide))⟩
  · funext i
    rw [e]
    exact fld_wr (Or.inl (by omega))
  · rw [e]
    exact fld_wr (Or.inl (by omega))
/-- one more stands in a list -/
theorem CI.add {A : Nat} {d r s : Int} {n : Nat} (C : CI h) (hA : A ∈ zLis) (G : zG A h r) (hs : fld h A 2 = s) (hm : s < zmx A)
    (e1 : ∀ q z, sh h q = some z → sh g q = some z) (hlen : h.length ≤ g.length) (e2 : ∀ q : Int, q ≤ h.length → q ≠ A → q ≠ d → fld g q = fld h q) (e3 : fld g A 0 = fld h A 0 ∧ fld g A 1 = d ∧ fld g A 2 = s + 1)
    (hd : 365 < d ∧ d ≤ 2147483647) (hn : sh g d = some (25, n)) (hn2 : s + 1 ≤ n ∧ n ≤ 600) (hdd : d = fld h A 1 ∨ (h.length : Int) < d) (e4 : ∀ i : Nat, (i : Int) < s → fld g d i = fld h (fld h A 1) i) (e5 : fld g d s.toNat = r)
    (e6 : ∀ (q : Int) (k m : Nat), 365 < q → sh g q = some (k, m) → k ≠ 25 → q ≤ h.length ∧ sh h q = some (k, m)) (I : zI g) {cc ss : Int} (hcl : (g.length : Int) - (2 * fld g 4 2 + fld g 21 2) ≤ h.length - (2 * fld h 4 2 + fld h 21 2) + cc) (hcs : (sz g : Int) - (1007 * fld g 4 2 + 1000 * fld g 21 2) ≤ sz h - (1007 * fld h 4 2 + 1000 * fld h 21 2) + ss) :
    CI g ∧ zXR [(A, A, 0, 3)] cc ss h g := by
  have hq := zLis_36 hA
  have h365 := C.len
  have hb := zLis_b C hA
  have hd25 : ∀ (q : Int) (k m : Nat), sh h q = some (k, m) → k ≠ 25 → q ≠ d := by
    intro q k m hs' hk hz
    have := e1 q _ hs'
    rw [hz, hn] at this
    cases this
    exact hk rfl
  have R : zXR [(A, A, 0, 3)] cc ss h g := by
    refine ⟨e1, fun q j k1 k2 hne => ?_, fun q k m j k1 k2 k3 => ?_, hlen, hcl, hcs, fun q k m j k1 k2 k3 hne => ?_, fun B hB hne ha i => ?_⟩
    · have := hne _ List.mem_cons_self
      dsimp only at this
      by_cases hz : q = A
      · subst hz
        have hj : ¬ j < 3 := by omega
        have w1 := e1 A _ (zLis_sh C hA)
        obtain ⟨l1, c1, n1⟩ := sh_cel w1
        obtain ⟨l2, c2, n2⟩ := sh_cel (zLis_sh C hA)
        rw [fld_of c1, fld_of c2, List.getD_eq_getElem?_getD, List.getElem?_eq_none (by omega), List.getD_eq_getElem?_getD, List.getElem?_eq_none (by omega)]
      · rw [e2 q (by omega) hz (by omega)]
    · have hk25 : k ≠ 25 := by
        intro hz
        subst hz
        cases k3
      rw [e2 q (sh_pos k2).2 (by omega) (hd25 q k m k2 hk25)]
    · rw [e2 q (sh_pos k2).2 (by omega) (hd25 q k m k2 k3)]
    · obtain ⟨m, hm⟩ := (C.2.2.1 B hB).d25 ha
      have hBA : B ≠ A := fun hz => hne _ List.mem_cons_self ⟨Nat.le_of_eq hz.symm, Nat.le_of_eq hz⟩
      have hp := (sh_pos hm).2
      rw [e2 (fld h B 1) hp (by omega) (fun hz => ?_)]
      rcases hdd with hdd | hdd
      · exact C.2.2.2.1 B hB A hA hBA ha (hz.trans hdd)
      · omega
  refine ⟨⟨I, fun q k m j k1 k2 k3 => ?_, fun B hB => ?_, fun B hB B' hB' hne ha => ?_, fun i hi => ?_⟩, R⟩
  · have hk25 : k ≠ 25 := by
      intro hz
      subst hz
      cases k3
    obtain ⟨w1, w2⟩ := e6 q k m k1 k2 hk25
    rw [e2 q w1 (by omega) (hd25 q k m w2 hk25)]
    exact C.2.1 q k m j k1 w2 k3
  · by_cases hz : B = A
    · subst hz
      refine Or.inr ⟨by rw [e3.2.1]; exact hd.1, n, by rw [e3.2.1]; exact hn, by rw [e3.2.2]; omega, by omega, hn2.2, fun i hi => ?_⟩
      rw [e3.2.2] at hi
      rw [e3.2.1]
      by_cases hi2 : (i : Int) < s
      · rw [e4 i hi2]
        rcases C.2.2.1 B hA with ⟨a, b⟩ | ⟨a, n', b, c', c0, d', f⟩
        · omega
        · exact (f i (by omega)).x R
      · rw [show i = s.toNat by omega, e5]
        exact G.x R
    · have hqB := zLis_36 hB
      have w := e2 (B : Int) (by omega) (by omega) (by omega)
      refine (C.2.2.1 B hB).kp R (by rw [w]) (by rw [w]) (fun ha => ?_)
      obtain ⟨m, hm'⟩ := (C.2.2.1 B hB).d25 ha
      have hle := (sh_pos hm').2
      refine e2 _ hle (by omega) ?_
      intro hz2
      rcases hdd with hdd | hdd
      · exact C.2.2.2.1 B hB A hA hz ha (by rw [hz2]; exact hdd)
      · omega
  · have q1 := zLis_36 hB
    have q2 := zLis_36 hB'
    by_cases z1 : B = A
    · subst z1
      rw [e3.2.1, e2 (B' : Int) (by omega) (by omega) (by omega)]
      intro hz2
      by_cases ha' : 365 < fld h B' 1
      · obtain ⟨m, hm'⟩ := (C.2.2.1 B' hB').d25 ha'
        have hle := (sh_pos hm').2
        rcases hdd with hdd | hdd
        · exact C.2.2.2.1 B' hB' B hB (Ne.symm hne) ha' (by omega)
        · omega
      · omega
    · by_cases z2 : B' = A
      · subst z2
        have w := e2 (B : Int) (by omega) (by omega) (by omega)
        rw [w] at ha
        rw [e3.2.1, w]
        intro hz2
        obtain ⟨m, hm'⟩ := (C.2.2.1 B hB).d25 ha
        have hle := (sh_pos hm').2
        rcases hdd with hdd | hdd
        · exact C.2.2.2.1 B hB B' hB' hne ha (by omega)
        · omega
      · have w1 := e2 (B : Int) (by omega) (by omega) (by omega)
        have w2 := e2 (B' : Int) (by omega) (by omega) (by omega)
        rw [w1] at ha
        rw [w1, w2]
        exact C.2.2.2.1 B hB B' hB' hne ha
  · have w := e2 15 (by omega) (by omega) (by omega)
    rw [w]
    exact (C.2.2.2.2 i hi).imp id (fun z => z.x R)
end ZL
