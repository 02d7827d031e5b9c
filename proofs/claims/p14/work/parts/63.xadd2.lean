/-! lists: add and clear -/
section ZD
variable {sc : List Int} {D D' y pc nx : Nat} {ls st st' : List Vl} {h h' h1 h2 g : Hp} {Q : Option Vl → Hp → Prop}
theorem zLis_m (C : CI h) {A : Nat} (hA : A ∈ zLis) : -2147483648 ≤ fld h (A : Int) 0 ∧ fld h (A : Int) 0 ≤ 2147483647 := by
  unfold zLis at hA
  simp only [List.mem_cons, List.not_mem_nil, or_false] at hA
  rcases hA with rfl | rfl | rfl | rfl | rfl | rfl | rfl
  · exact C.1.b (a1 := 2) (a2 := 2) (j1 := 0) (j2 := 1) (lo := -2147483648) (hi := 2147483647) (by decide +kernel) (by decide) (by decide) (by decide) (by decide)
  · exact C.1.b (a1 := 3) (a2 := 3) (j1 := 0) (j2 := 1) (lo := -2147483648) (hi := 2147483647) (by decide +kernel) (by decide) (by decide) (by decide) (by decide)
  · exact C.1.b (a1 := 4) (a2 := 4) (j1 := 0) (j2 := 1) (lo := -2147483648) (hi := 2147483647) (by decide +kernel) (by decide) (by decide) (by decide) (by decide)
  · exact C.1.b (a1 := 5) (a2 := 5) (j1 := 0) (j2 := 1) (lo := -2147483648) (hi := 2147483647) (by decide +kernel) (by decide) (by decide) (by decide) (by decide)
  · exact C.1.b (a1 := 14) (a2 := 14) (j1 := 0) (j2 := 1) (lo := -2147483648) (hi := 2147483647) (by decide +kernel) (by decide) (by decide) (by decide) (by decide)
  · exact C.1.b (a1 := 20) (a2 := 20) (j1 := 0) (j2 := 1) (lo := -2147483648) (hi := 2147483647) (by decide +kernel) (by decide) (by decide) (by decide) (by decide)
  · exact C.1.b (a1 := 21) (a2 := 21) (j1 := 0) (j2 := 1) (lo := -2147483648) (hi := 2147483647) (by decide +kernel) (by decide) (by decide) (by decide) (by decide)
def zcc (A : Nat) : Int := if A = 4 then -1 else if A = 21 then 0 else 1
def zss (A : Nat) : Int := if A = 4 then -7 else if A = 21 then 0 else 1000
theorem zcc_ok {A : Nat} (e1 : fld g A 2 = fld h A 2 + 1) (e2 : ∀ q : Int, q = 4 ∨ q = 21 → q ≠ A → fld g q 2 = fld h q 2) (hl : g.length ≤ h.length + 1) (hz : sz g ≤ sz h + 600) :
    (g.length : Int) - (2 * fld g 4 2 + fld g 21 2) ≤ h.length - (2 * fld h 4 2 + fld h 21 2) + zcc A ∧ (sz g : Int) - (1007 * fld g 4 2 + 1000 * fld g 21 2) ≤ sz h - (1007 * fld h 4 2 + 1000 * fld h 21 2) + zss A := by
  unfold zcc zss
  by_cases a : A = 4
  · subst a
    have f := e2 21 (Or.inr rfl) (by decide)
    have e1 : fld g 4 2 = fld h 4 2 + 1 := e1
    rw [if_pos rfl, if_pos rfl, f, e1]
    omega
  · rw [if_neg a, if_neg a]
    have f := e2 4 (Or.inl rfl) (by omega)
    by_cases b : A = 21
    · subst b
      have e1 : fld g 21 2 = fld h 21 2 + 1 := e1
      rw [if_pos rfl, if_pos rfl, f, e1]
      omega
    · have f2 := e2 21 (Or.inr rfl) (by omega)
      rw [if_neg b, if_neg b, f, f2]
      omega
/-- one more in a list -/
def zAdded (h : Hp) (A : Nat) (r : Int) (g : Hp) : Prop := CI g ∧ zXR [(A, A, 0, 3)] (zcc A) (zss A) h g ∧ fld g A 2 = fld h A 2 + 1 ∧ (∀ i : Nat, (i : Int) < fld h A 2 → fld g (fld g A 1) i = fld h (fld h A 1) i) ∧ fld g (fld g A 1) (fld h A 2).toNat = r ∧ ∀ q : Int, q ≤ h.length → q ≠ A → q ≠ fld h A 1 → fld g q = fld h q
/-- the heap before the last two writes of add -/
def zPre (h : Hp) (A : Nat) (d : Int) (n : Nat) (g : Hp) : Prop :=
  (∀ q z, sh h q = some z → sh g q = some z) ∧ (∀ q : Int, q ≤ h.length → q ≠ A → fld g q = fld h q) ∧ (fld g A 0 = fld h A 0 ∧ fld g A 1 = d ∧ fld g A 2 = fld h A 2) ∧ (365 < d ∧ d ≤ 2147483647) ∧ sh g d = some (25, n) ∧ (fld h A 2 + 1 ≤ n ∧ n ≤ 600) ∧ (d = fld h A 1 ∨ (h.length : Int) < d) ∧ (∀ i : Nat, (i : Int) < fld h A 2 → fld g d i = fld h (fld h A 1) i) ∧
  (∀ (q : Int) (k m : Nat), 365 < q → sh g q = some (k, m) → k ≠ 25 → q ≤ h.length ∧ sh h q = some (k, m)) ∧ zI g ∧ (h.length ≤ g.length ∧ g.length ≤ h.length + 1) ∧ sz g ≤ sz h + 600
theorem zAdd_fin {A : Nat} {d r : Int} {n : Nat} (C : CI h) (hA : A ∈ zLis) (G : zG A h r) (hm : fld h A 2 < zmx A) (p : zPre h A d n h1) (e : g = wr (wr h1 d (fld h A 2).toNat r) A 2 (fld h A 2 + 1)) : zAdded h A r g := by
  obtain ⟨p1, p2, ⟨p3, p4, p5⟩, hd, hn, hn2, hdd, p6, p7, I, hl, hz⟩ := p
  have hq := zLis_36 hA
  have hb := zLis_b C hA
  have hne : (A : Int) ≠ d := by omega
  have hne2 : d ≠ (A : Int) := by omega
  have s1 : sh h1 (A : Int) = some (0, 3) := p1 _ _ (zLis_sh C hA)
  have w0 : fld g A 0 = fld h A 0 := by rw [e, fld_wr (Or.inr (by decide)), fld_wr (Or.inl hne), p3]
  have w1 : fld g A 1 = d := by rw [e, fld_wr (Or.inr (by decide)), fld_wr (Or.inl hne), p4]
  have w2 : fld g A 2 = fld h A 2 + 1 := by rw [e]; exact fld_wr_eq (by rw [sh_wr]; exact s1) (by decide)
  have w3 : ∀ i : Nat, (i : Int) < fld h A 2 → fld g d i = fld h (fld h A 1) i := fun i hi => by rw [e, fld_wr (Or.inl hne2), fld_wr (Or.inr (by omega))]; exact p6 i hi
  have w4 : fld g d (fld h A 2).toNat = r := by rw [e, fld_wr (Or.inl hne2)]; exact fld_wr_eq hn (by omega)
  have w5 : ∀ q : Int, q ≤ h.length → q ≠ A → q ≠ d → fld g q = fld h q := fun q k1 k2 k3 => by
    rw [← p2 q k1 k2, e]
    funext j
    rw [fld_wr (Or.inl k2), fld_wr (Or.inl k3)]
  have l1 : g.length = h1.length := by rw [e, len_wr, len_wr]
  have l2 : sz g = sz h1 := by rw [e, sz_wr, sz_wr]
  have hlen := C.len
  have cc := zcc_ok (h := h) (g := g) (A := A) w2 (fun q k1 k2 => congrFun (w5 q (by omega) k2 (by omega)) 2) (by omega) (by omega)
  have Ig : zI g := by
    rw [e]
    refine zI.wl (I.far (fun q k1 k2 => by rw [sh_wr]) (fun q j k1 k2 => fld_wr (Or.inl (by omega)))) hA (by decide) (by have := zmx_le A; omega) (by omega) (by omega)
  obtain ⟨Cg, R⟩ := CI.add (g := g) (d := d) (n := n) (r := r) C hA G rfl hm (fun q z hs => by rw [e, sh_wr, sh_wr]; exact p1 q z hs) (by omega) w5 ⟨w0, w1, w2⟩ hd (by rw [e, sh_wr, sh_wr]; exact hn) hn2 hdd w3 w4 (fun q k m k1 k2 k3 => by rw [e, sh_wr, sh_wr] at k2; exact p7 q k m k1 k2 k3) Ig cc.1 cc.2
  refine ⟨Cg, R, w2, by rw [w1]; exact w3, by rw [w1]; exact w4, fun q k1 k2 k3 => w5 q k1 k2 ?_⟩
  omega
theorem x181t {A : Nat} {d r : Int} {n : Nat} (C : CI h) (hA : A ∈ zLis) (G : zG A h r) (hm : fld h A 2 < zmx A) (p : zPre h A d n h1) : zwW sc 4 181 11 [(2, (A : Int)), (2, r), (2, d), (0, fld h A 2)] [] h1 (zwRv (zAdded h A r)) := by
  have hb := zLis_b C hA
  have hz := zmx_le A
  obtain ⟨hr, k, m, hk, hs⟩ := zG_sh G
  refine zwW_p [(1, 2, 2), (1, 3, 0), (1, 1, 2)] (q := 14) (ls' := [(2, (A : Int)), (2, r), (2, d), (0, fld h A 2)]) (st' := [(2, r), (0, fld h A 2), (2, d)]) (by decide +kernel) rfl ?_
  refine zwW_ast (a := 24) (kd := 25) (n := n) (nx := 15) (by decide +kernel) p.2.2.2.2.1 rfl hb.1 (by have := p.2.2.2.2.2.1; omega) (kept25 hr hk (p.1 _ _ hs)) ?_
  rintro g1 e1
  refine zwW_p [(1, 0, 2), (1, 3, 0), (0, 1, 0)] (q := 18) (ls' := [(2, (A : Int)), (2, r), (2, d), (0, fld h A 2)]) (st' := [(0, 1), (0, fld h A 2), (2, (A : Int))]) (by decide +kernel) rfl ?_
  refine zwW_add (nx := 19) (by decide +kernel) (by omega) ?_
  refine zwW_put (kd := 0) (bn := 2) (t := 0) (n := 3) (nx := 22) (by decide +kernel) (by rw [e1, sh_wr]; exact p.1 _ _ (zLis_sh C hA)) rfl rfl ?_
  rintro g2 e2
  exact zwW_retv (nx := 23) (a := 0) (b := 0) (by decide +kernel) (zAdd_fin C hA G hm p (by rw [e2, e1]))
theorem zGrown.pre {A : Nat} {x : Int} (C : CI h) (hA : A ∈ zLis) (hl : h.length ≤ 2000000000) (p : zGrown h A x g) : ∃ n, zPre h A x n g := by
  obtain ⟨hx, l, e, a, b, c⟩ := p
  have hq := zLis_36 hA
  have hlen := C.len
  have hO : zOld h (h ++ [(25, l)]) := zOld.app _
  have s0 := hO.sp (zLis_sh C hA)
  have hne : x ≠ (A : Int) := by omega
  refine ⟨l.length, fun q z hs => by rw [e, sh_wr]; exact hO.sp hs, fun q k1 k2 => ?_, ⟨?_, ?_, ?_⟩, by omega, ?_, ⟨a, b⟩, Or.inr (by omega), fun i hi => ?_, fun q k m k1 k2 k3 => ?_, ?_, ?_, ?_⟩
  · funext j
    rw [e, fld_wr (Or.inl k2), hO.fl k1]
  · rw [e, fld_wr (Or.inr (by decide)), hO.fl (by omega)]
  · rw [e]; exact fld_wr_eq s0 (by decide)
  · rw [e, fld_wr (Or.inr (by decide)), hO.fl (by omega)]
  · rw [e, sh_wr, hx]; exact sh_new 25 l
  · rw [e, fld_wr (Or.inl hne), hx, fld_new]; exact c i hi
  · rw [e, sh_wr] at k2
    by_cases hle : q ≤ h.length
    · refine ⟨hle, ?_⟩
      unfold sh at k2 ⊢
      rw [cel_app _ q hle] at k2
      exact k2
    · have := (sh_pos k2).2
      rw [List.length_append, List.length_singleton] at this
      obtain rfl : q = ((h.length + 1 : Nat) : Int) := by omega
      rw [sh_new] at k2
      cases k2
      exact absurd rfl k3
  · rw [e]
    refine zI.wl (C.1.far (fun q k1 k2 => ?_) (fun q j k1 k2 => congrFun (hO.fl (by omega)) j)) hA (by decide) (by omega) (by omega) (by omega)
    unfold sh
    rw [cel_app _ q (by omega)]
  · rw [e, len_wr, List.length_append, List.length_singleton]; omega
  · rw [e, sz_wr, sz_app]; show sz h + sz [(25, l)] ≤ _; unfold sz; simp; omega
theorem x181 {A : Nat} {r : Int} (C : CI h) (hA : A ∈ zLis) (G : zG A h r) (hm : fld h A 2 < zmx A) (hl : h.length ≤ 2000000000) : zwC sc 5 181 [(2, (A : Int)), (2, r), (2, fld h A 1), (0, fld h A 2)] h (zwRv (zAdded h A r)) := by
  have hb := zLis_b C hA
  have hz := zmx_le A
  have hs := zLis_sh C hA
  have hq := zLis_36 hA
  refine zwC_of (D := 4) 4 (by decide +kernel) rfl (ls := [(2, (A : Int)), (2, r), (2, fld h A 1), (0, fld h A 2)]) rfl ?_
  refine zwW_p [(1, 3, 0), (1, 2, 2)] (q := 2) (ls' := [(2, (A : Int)), (2, r), (2, fld h A 1), (0, fld h A 2)]) (st' := [(2, fld h A 1), (0, fld h A 2)]) (by decide +kernel) rfl ?_
  have grow : ((fld h A 2 = 0 ∧ fld h A 1 = -2) ∨ (∃ n : Nat, sh h (fld h A 1) = some (25, n) ∧ fld h A 2 = n ∧ 0 < n ∧ ∀ i, i < n → ∃ q, sh h (fld h (fld h A 1) i) = some (zKd A, q))) → zwW sc 4 181 6 [(2, (A : Int)), (2, r), (2, fld h A 1), (0, fld h A 2)] [] h (zwRv (zAdded h A r)) := by
    intro hf
    refine zwW_p [(1, 0, 2)] (q := 7) (ls' := [(2, (A : Int)), (2, r), (2, fld h A 1), (0, fld h A 2)]) (st' := [(2, (A : Int))]) (by decide +kernel) rfl ?_
    refine zwW_cv (op := 60) (k' := 228) (n := 0) (kd := 0) (m := 3) (nx := 10) (r := (A : Int)) (tl := []) (st' := []) (by decide +kernel) rfl (by decide +kernel) hs (x228 C hA hf hl) rfl ?_
    rintro x g hp
    obtain ⟨n, p⟩ := hp.pre C hA hl
    refine zwW_p [(2, 2, 2)] (q := 11) (ls' := [(2, (A : Int)), (2, r), (2, x), (0, fld h A 2)]) (st' := []) (by decide +kernel) rfl ?_
    exact x181t C hA G hm p
  rcases C.2.2.1 A hA with ⟨a, b⟩ | ⟨a, n, b, c, c0, d, e⟩
  · have grow := grow (Or.inl ⟨a, b⟩)
    rw [b] at grow ⊢
    rw [a] at grow ⊢
    refine zwW_elen (nx := 3) (by decide +kernel) ?_
    exact zwic_ne (q := 11) (nx := 6) (by decide +kernel) (fun c => absurd rfl c) (fun _ => grow)
  · refine zwW_len (nx := 3) (by decide +kernel) b rfl ?_
    refine zwic_ne (q := 11) (nx := 6) (by decide +kernel) (fun cne => ?_) (fun ceq => ?_)
    · have hlt : (n : Int) ≤ 600 := by omega
      have hd := C.1.b (h := h) (r := (A : Int)) (j := 1) (a1 := A) (a2 := A) (j1 := 1) (j2 := 2) (lo := -2) (hi := 2147483647) (by
        have hA' := hA
        unfold zLis at hA'
        simp only [List.mem_cons, List.not_mem_nil, or_false] at hA'
        rcases hA' with rfl | rfl | rfl | rfl | rfl | rfl | rfl <;> decide +kernel) (Int.le_refl _) (Int.le_refl _) (by decide) (by decide)
      refine x181t (n := n) C hA G hm ⟨fun _ _ hz => hz, fun _ _ _ => rfl, ⟨rfl, rfl, rfl⟩, ⟨a, hd.2⟩, b, ⟨by omega, d⟩, Or.inl rfl, fun _ _ => rfl, fun q k m k1 k2 k3 => ⟨(sh_pos k2).2, k2⟩, C.1, ⟨Nat.le_refl _, Nat.le_succ _⟩, Nat.le_add_right _ _⟩
    · refine grow (Or.inr ⟨n, b, by omega, c0, fun i hi => zG_kd (e i (by omega))⟩)
theorem zqI_one (A a b : Nat) : zqI [(A, A, a, b)] [(A, A, a, b)] = true := by
  unfold zqI zqM
  simp
theorem x100 {A : Nat} {r : Int} (C : CI h) (hA : A ∈ zLis) (G : zG A h r) (hm : fld h A 2 < zmx A) (hl : h.length ≤ 2000000000) : zwC sc 6 100 [(2, (A : Int)), (2, r)] h (zwRt 0 (fun x g => x = 1 ∧ zAdded h A r g)) := by
  have hs := zLis_sh C hA
  have hq := zLis_36 hA
  have hmb := zLis_m C hA
  refine zwC_of (D := 5) 2 (by decide +kernel) rfl (ls := [(2, (A : Int)), (2, r)]) rfl ?_
  refine zwW_p [(1, 0, 2), (12, 0, 0)] (q := 2) (ls' := [(2, (A : Int)), (2, r)]) (st' := [(2, (A : Int)), (2, (A : Int))]) (by decide +kernel) rfl ?_
  refine zwW_get (kd := 0) (bn := 0) (t := 0) (n := 3) (nx := 5) (by decide +kernel) hs rfl ?_
  refine zwW_p [(0, 1, 0)] (q := 6) (ls' := [(2, (A : Int)), (2, r)]) (st' := [(0, 1), (0, fld h A 0), (2, (A : Int))]) (by decide +kernel) rfl ?_
  refine zwW_any2 (a := 0) (nx := 7) (by decide +kernel) rfl hmb (Or.inr ⟨by decide, by decide⟩) ?_
  intro z l1 l2
  refine zwW_put (kd := 0) (bn := 0) (t := 0) (n := 3) (nx := 10) (by decide +kernel) hs rfl rfl ?_
  rintro g e
  have Cg : CI g := C.wm hA ⟨l1, l2⟩ e
  have R : zXR [(A, A, 0, 3)] 0 0 h g := zXR.wc e rfl ⟨by omega, by omega, Or.inr (by decide)⟩ ⟨by decide, by decide⟩
  have f1 : fld g A 1 = fld h A 1 := by rw [e]; exact fld_wr (Or.inr (by decide))
  have f2 : fld g A 2 = fld h A 2 := by rw [e]; exact fld_wr (Or.inr (by decide))
  have hsg := zLis_sh Cg hA
  refine zwW_p [(1, 0, 2), (1, 1, 2), (1, 0, 2)] (q := 13) (ls' := [(2, (A : Int)), (2, r)]) (st' := [(2, (A : Int)), (2, r), (2, (A : Int))]) (by decide +kernel) rfl ?_
  refine zwW_get (kd := 0) (bn := 1) (t := 2) (n := 3) (nx := 16) (by decide +kernel) hsg rfl ?_
  refine zwW_p [(1, 0, 2)] (q := 17) (ls' := [(2, (A : Int)), (2, r)]) (st' := [(2, (A : Int)), (2, fld g A 1), (2, r), (2, (A : Int))]) (by decide +kernel) rfl ?_
  refine zwW_get (kd := 0) (bn := 2) (t := 0) (n := 3) (nx := 20) (by decide +kernel) hsg rfl ?_
  refine zwW_cvv (op := 60) (k' := 181) (n := 3) (kd := 0) (m := 3) (nx := 23) (r := (A : Int)) (tl := [(2, r), (2, fld g A 1), (0, fld g A 2)]) (st' := []) (by decide +kernel) rfl (by decide +kernel) hsg (x181 Cg hA (G.x R) (by omega) (by rw [e, len_wr]; exact hl)) rfl ?_
  rintro g2 ⟨a, b, c, d, e', f⟩
  refine zwW_p [(0, 1, 0)] (q := 24) (ls' := [(2, (A : Int)), (2, r)]) (st' := [(0, 1)]) (by decide +kernel) rfl ?_
  have hne : ∀ i : Nat, (i : Int) < fld h A 2 → fld g (fld h A 1) i = fld h (fld h A 1) i := by
    intro i hi
    rw [e]
    refine fld_wr (Or.inl ?_)
    rcases C.2.2.1 A hA with ⟨a, b⟩ | ⟨a, -⟩ <;> omega
  refine zwW_ret (nx := 25) (a := 1) (b := 0) (by decide +kernel) rfl (Or.inr (Or.inl ⟨rfl, by omega⟩)) ⟨rfl, a, R.tr b (zqI_one A 0 3) (by omega) (by omega), by omega, fun i hi => ?_, ?_, fun q k1 k2 k3 => ?_⟩
  · rw [d i (by omega), f1, hne i hi]
  · rw [← f2]; exact e'
  · rw [f q (by rw [e, len_wr]; exact k1) k2 (by omega)]
    funext j
    rw [e, fld_wr (Or.inl k2)]
/-- nothing stands in a list: its array is written -/
theorem CI.wn {A i : Nat} {n : Nat} (C : CI h) (hA : A ∈ zLis) (h0 : fld h A 2 = 0) (hd : 365 < fld h A 1) (s : sh h (fld h A 1) = some (25, n)) (e : g = wr h (fld h A 1) i 0) : CI g ∧ zXR [(A, A, 0, 3)] 0 0 h g := by
  have fo : ∀ q : Int, q ≠ fld h A 1 → fld g q = fld h q := fun q hne => by rw [e]; funext j; exact fld_wr (Or.inl hne)
  have hq := zLis_36 hA
  have f4 : fld g 4 2 = fld h 4 2 := congrFun (fo 4 (by omega)) 2
  have f21 : fld g 21 2 = fld h 21 2 := congrFun (fo 21 (by omega)) 2
  have ne25 : ∀ (q : Int) (k m : Nat), sh h q = some (k, m) → k ≠ 25 → q ≠ fld h A 1 := fun q k m k2 k3 hz => by
    rw [hz, s] at k2
    cases k2
    exact k3 rfl
  have R : zXR [(A, A, 0, 3)] 0 0 h g := by
    refine ⟨fun q z k2 => by rw [e, sh_wr]; exact k2, fun q j k1 k2 hn => congrFun (fo q (by omega)) j, fun q k m j k1 k2 k3 => congrFun (fo q (ne25 q k m k2 ?_)) j, by rw [e, len_wr]; exact Nat.le_refl _, by rw [f4, f21, e, len_wr]; omega, by rw [f4, f21, e, sz_wr]; omega, fun q k m j k1 k2 k3 hn => congrFun (fo q (ne25 q k m k2 k3)) j, fun B hB hn ha j => congrFun (fo _ (C.2.2.2.1 B hB A hA (fun hz => hn _ List.mem_cons_self ⟨Nat.le_of_eq hz.symm, Nat.le_of_eq hz⟩) ha)) j⟩
    intro hz
    subst hz
    cases k3
  refine ⟨⟨C.1.far (fun q k1 k2 => by rw [e, sh_wr]) (fun q j k1 k2 => congrFun (fo q (by omega)) j), C.2.1.wq e s (by unfold kty; simp), fun B hB => ?_, fun B hB B' hB' hne ha => ?_, fun j hj => ?_⟩, R⟩
  · have q2 := zLis_36 hB
    have w := fo (B : Int) (by omega)
    by_cases z : B = A
    · subst z
      rcases C.2.2.1 B hB with ⟨a, b⟩ | ⟨a, n', b, c', c0, d', f⟩
      · omega
      · refine Or.inr ⟨by rw [w]; exact a, n', by rw [w]; exact R.1 _ _ b, by rw [w]; exact c', c0, d', fun i hi => ?_⟩
        rw [w, h0] at hi
        omega
    · refine (C.2.2.1 B hB).kp R (congrFun w 1) (congrFun w 2) (fun ha => fo _ ?_)
      exact C.2.2.2.1 B hB A hA z ha
  · have q2 := zLis_36 hB
    have q3 := zLis_36 hB'
    rw [fo (B : Int) (by omega)] at ha ⊢
    rw [fo (B' : Int) (by omega)]
    exact C.2.2.2.1 B hB B' hB' hne ha
  · rw [fo 15 (by omega)]
    exact (C.2.2.2.2 j hj).imp id (fun z => z.x R)
/-- a list's size is put to 0 -/
theorem CI.wz {A : Nat} (C : CI h) (hA : A ∈ zLis) (hA2 : A = 20 ∨ A = 21) (e : g = wr h A 2 0) : CI g ∧ zXR [(A, A, 0, 3)] 6 6000 h g := by
  have hq := zLis_36 hA
  have hb := zLis_b C hA
  have hm : zmx A = 6 := by rcases hA2 with rfl | rfl <;> decide
  have s := zLis_sh C hA
  have fo : ∀ q : Int, q ≠ A → fld g q = fld h q := fun q hne => by rw [e]; funext j; exact fld_wr (Or.inl hne)
  have f1 : fld g A 1 = fld h A 1 := by rw [e]; exact fld_wr (Or.inr (by decide))
  have f2 : fld g A 2 = 0 := by rw [e]; exact fld_wr_eq s (by decide)
  have f4 : fld g 4 2 = fld h 4 2 := congrFun (fo 4 (by omega)) 2
  have f21 : 0 ≤ fld g 21 2 ∧ fld h 21 2 ≤ fld g 21 2 + 6 := by
    rcases hA2 with rfl | rfl
    · rw [congrFun (fo 21 (by decide)) 2]
      have := zLis_b C (A := 21) (by decide)
      exact ⟨this.1, by omega⟩
    · have f2 : fld g 21 2 = 0 := f2
      have hb : 0 ≤ fld h 21 2 ∧ fld h 21 2 ≤ zmx 21 := hb
      omega
  have R : zXR [(A, A, 0, 3)] 6 6000 h g := by
    refine ⟨fun q z hz => by rw [e, sh_wr]; exact hz, fun q j k1 k2 hn => ?_, fun q k n j k1 k2 k3 => congrFun (fo q (by omega)) j, by rw [e, len_wr]; exact Nat.le_refl _, ?_, ?_, fun q k n j k1 k2 k3 hn => congrFun (fo q (by omega)) j, fun B hB hn ha j => congrFun (fo _ (by omega)) j⟩
    · have := hn _ List.mem_cons_self
      dsimp only at this
      rw [e]
      exact fld_wr (by omega)
    · have : g.length = h.length := by rw [e, len_wr]
      omega
    · have : sz g = sz h := by rw [e, sz_wr]
      omega
  refine ⟨⟨by rw [e]; exact zI.wl C.1 hA (by decide) (by decide) (by decide) (fun _ => ⟨by decide, by omega⟩), fun q k n i k1 k2 k3 => ?_, fun B hB => ?_, fun B hB B' hB' hne ha => ?_, fun j hj => ?_⟩, R⟩
  · rw [e, sh_wr] at k2
    rw [fo q (by omega)]
    exact C.2.1 q k n i k1 k2 k3
  · have q2 := zLis_36 hB
    by_cases z : B = A
    · subst z
      rcases C.2.2.1 B hB with ⟨a, b⟩ | ⟨a, n', b, c', c0, d', f⟩
      · exact Or.inl ⟨f2, by rw [f1]; exact b⟩
      · refine Or.inr ⟨by rw [f1]; exact a, n', by rw [f1]; exact R.1 _ _ b, by rw [f2]; omega, c0, d', fun i hi => by omega⟩
    · have w := fo (B : Int) (by omega)
      exact (C.2.2.1 B hB).kp R (congrFun w 1) (congrFun w 2) (fun ha => fo _ (by omega))
  · have k1 : ∀ B : Nat, fld g B 1 = fld h B 1 := fun B => by
      by_cases z : B = A
      · subst z; exact f1
      · exact congrFun (fo _ (by omega)) 1
    rw [k1 B] at ha ⊢
    rw [k1 B']
    exact C.2.2.2.1 B hB B' hB' hne ha
  · rw [fo 15 (by omega)]
    exact (C.2.2.2.2 j hj).imp id (fun z => z.x R)
def zClr (h : Hp) (A : Nat) (g : Hp) : Prop := CI g ∧ zXR [(A, A, 0, 3)] 6 6000 h g ∧ fld g A 2 = 0 ∧ ∀ q : Int, q ≤ h.length → q ≠ A → q ≠ fld h A 1 → fld g q = fld h q
theorem x141 {A : Nat} (C : CI h) (hA : A ∈ zLis) (hA2 : A = 20 ∨ A = 21) : zwC sc 1 141 [(2, (A : Int))] h (zwRv (zClr h A)) := by
  have hs := zLis_sh C hA
  have hq := zLis_36 hA
  have hmb := zLis_m C hA
  have hb := zLis_b C hA
  have hz := zmx_le A
  refine zwC_of (D := 0) 4 (by decide +kernel) rfl (ls := [(2, (A : Int)), (9, 0), (9, 0), (9, 0)]) rfl ?_
  refine zwW_p [(1, 0, 2), (12, 0, 0)] (q := 2) (ls' := [(2, (A : Int)), (9, 0), (9, 0), (9, 0)]) (st' := [(2, (A : Int)), (2, (A : Int))]) (by decide +kernel) rfl ?_
  refine zwW_get (kd := 0) (bn := 0) (t := 0) (n := 3) (nx := 5) (by decide +kernel) hs rfl ?_
  refine zwW_p [(0, 1, 0)] (q := 6) (ls' := [(2, (A : Int)), (9, 0), (9, 0), (9, 0)]) (st' := [(0, 1), (0, fld h A 0), (2, (A : Int))]) (by decide +kernel) rfl ?_
  refine zwW_any2 (a := 0) (nx := 7) (by decide +kernel) rfl hmb (Or.inr ⟨by decide, by decide⟩) ?_
  intro z l1 l2
  refine zwW_put (kd := 0) (bn := 0) (t := 0) (n := 3) (nx := 10) (by decide +kernel) hs rfl rfl ?_
  rintro g e
  have Cg : CI g := C.wm hA ⟨l1, l2⟩ e
  have R : zXR [(A, A, 0, 3)] 0 0 h g := zXR.wc e rfl ⟨by omega, by omega, Or.inr (by decide)⟩ ⟨by decide, by decide⟩
  have f1 : fld g A 1 = fld h A 1 := by rw [e]; exact fld_wr (Or.inr (by decide))
  have f2 : fld g A 2 = fld h A 2 := by rw [e]; exact fld_wr (Or.inr (by decide))
  have f3 : ∀ q : Int, q ≠ A → fld g q = fld h q := fun q hne => by rw [e]; funext j; exact fld_wr (Or.inl hne)
  have hsg := zLis_sh Cg hA
  refine zwW_p [(1, 0, 2)] (q := 11) (ls' := [(2, (A : Int)), (9, 0), (9, 0), (9, 0)]) (st' := [(2, (A : Int))]) (by decide +kernel) rfl ?_
  refine zwW_get (kd := 0) (bn := 1) (t := 2) (n := 3) (nx := 14) (by decide +kernel) hsg rfl ?_
  rw [f1]
  refine zwW_p [(2, 1, 2), (1, 0, 2)] (q := 16) (ls' := [(2, (A : Int)), (2, fld h A 1), (9, 0), (9, 0)]) (st' := [(2, (A : Int))]) (by decide +kernel) rfl ?_
  refine zwW_get (kd := 0) (bn := 2) (t := 0) (n := 3) (nx := 19) (by decide +kernel) hsg rfl ?_
  rw [f2]
  refine zwW_p [(2, 2, 0), (1, 0, 2), (0, 0, 0), (13, 0, 0)] (q := 23) (ls' := [(2, (A : Int)), (2, fld h A 1), (0, fld h A 2), (9, 0)]) (st' := [(0, 0), (2, (A : Int)), (0, 0)]) (by decide +kernel) rfl ?_
  refine zwW_put (kd := 0) (bn := 2) (t := 0) (n := 3) (nx := 26) (by decide +kernel) hsg rfl rfl ?_
  rintro g2 e2
  obtain ⟨C2, R2⟩ := Cg.wz hA hA2 e2
  have R3 := R.tr R2 (zqI_one A 0 3) (c2 := 6) (s2 := 6000) (by omega) (by omega)
  have v1 : fld g2 A 1 = fld h A 1 := by rw [e2, ← f1]; exact fld_wr (Or.inr (by decide))
  have v2 : fld g2 A 2 = 0 := by rw [e2]; exact fld_wr_eq hsg (by decide)
  have v3 : ∀ q : Int, q ≠ A → fld g2 q = fld h q := fun q hne => by rw [← f3 q hne, e2]; funext j; exact fld_wr (Or.inl hne)
  refine zwW_p [(2, 3, 0)] (q := 27) (ls' := [(2, (A : Int)), (2, fld h A 1), (0, fld h A 2), (0, 0)]) (st' := []) (by decide +kernel) rfl ?_
  have L : ∀ (n : Nat) (i : Int) (g : Hp), n = (fld h A 2 - i).toNat → 0 ≤ i → zClr h A g → fld g A 1 = fld h A 1 → zwW sc 0 141 27 [(2, (A : Int)), (2, fld h A 1), (0, fld h A 2), (0, i)] [] g (zwRv (zClr h A)) := by
    intro n
    induction n using Nat.strongRecOn with
    | ind n IH =>
      intro i g hn hi K k1
      refine zwW_p [(1, 3, 0), (1, 2, 0)] (q := 29) (ls' := [(2, (A : Int)), (2, fld h A 1), (0, fld h A 2), (0, i)]) (st' := [(0, fld h A 2), (0, i)]) (by decide +kernel) rfl ?_
      refine zwic_ge (q := 42) (nx := 32) (by decide +kernel) (fun c => zwW_retv (nx := 43) (a := 0) (b := 0) (by decide +kernel) K) (fun c => ?_)
      refine zwW_p [(1, 1, 2), (1, 3, 0), (0, 0, 2)] (q := 35) (ls' := [(2, (A : Int)), (2, fld h A 1), (0, fld h A 2), (0, i)]) (st' := [(2, 0), (0, i), (2, fld h A 1)]) (by decide +kernel) rfl ?_
      rcases C.2.2.1 A hA with ⟨a, b⟩ | ⟨a, m, b, c', c0, d', f⟩
      · omega
      · have bs := K.2.1.1 _ _ b
        refine zwW_ast (a := 24) (kd := 25) (n := m) (x := 0) (nx := 36) (by decide +kernel) bs rfl hi (by omega) rfl ?_
        rintro g3 e3
        obtain ⟨C3, R3⟩ := K.1.wn (g := g3) (i := i.toNat) (n := m) hA K.2.2.1 (by rw [k1]; exact a) (by rw [k1]; exact bs) (by rw [k1]; exact e3)
        refine zwW_inc (i := 3) (c := 1) (x := i) (nx := 39) (by decide +kernel) rfl (by omega) (ls' := [(2, (A : Int)), (2, fld h A 1), (0, fld h A 2), (0, i + 1)]) rfl ?_
        refine zwW_p [(24, 27, 0)] (q := 27) (ls' := [(2, (A : Int)), (2, fld h A 1), (0, fld h A 2), (0, i + 1)]) (st' := []) (by decide +kernel) rfl ?_
        refine IH (fld h A 2 - (i + 1)).toNat (by omega) (i + 1) g3 rfl (by omega) ⟨C3, K.2.1.tr R3 (zqI_one A 0 3) (by omega) (by omega), ?_, fun q k1 k2 k3 => ?_⟩ ?_
        · rw [e3, fld_wr (Or.inl (by omega))]; exact K.2.2.1
        · rw [← K.2.2.2 q k1 k2 k3, e3]; funext j; exact fld_wr (Or.inl k3)
        · rw [e3, fld_wr (Or.inl (by omega))]; exact k1
  refine L _ 0 g2 rfl (by omega) ⟨C2, R3, v2, fun q k1 k2 k3 => v3 q k2⟩ v1
end ZD
