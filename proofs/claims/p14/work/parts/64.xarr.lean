/-! arrays as a whole: fill, copies; sheets in force -/
section ZF
variable {sc : List Int} {D D' y pc nx : Nat} {ls st st' : List Vl} {h h' h1 h2 g : Hp} {Q : Option Vl → Hp → Prop}
theorem zXR.hl {ms : Zms} {c s : Int} (R : zXR ms c s h g) (C : CI h) (C' : CI g) (hc : c ≤ 1000) {N : Nat} (hl : h.length ≤ N) : g.length ≤ N + 3000 := by
  have a := R.2.2.2.2.1
  have b1 : 0 ≤ fld h 4 2 ∧ fld h 4 2 ≤ zmx 4 := zLis_b C (A := 4) (by decide)
  have b2 : 0 ≤ fld h 21 2 ∧ fld h 21 2 ≤ zmx 21 := zLis_b C (A := 21) (by decide)
  have b3 : 0 ≤ fld g 4 2 ∧ fld g 4 2 ≤ zmx 4 := zLis_b C' (A := 4) (by decide)
  have b4 : 0 ≤ fld g 21 2 ∧ fld g 21 2 ≤ zmx 21 := zLis_b C' (A := 21) (by decide)
  have e1 : zmx 4 = 300 := by decide
  have e2 : zmx 21 = 6 := by decide
  omega
theorem zOld.X (a : zOld h h1) (C : CI h) : zXR [] h1.length (sz h1) h h1 := a.xr C (by omega) (by omega) []
theorem x180 {P : Hp → Prop} {d v : Int} {n : Nat} (s : sh h d = some (20, n)) (hn : n ≤ 1000) (h0 : P h) (hP : ∀ (g : Hp) (j : Nat), P g → sh g d = some (20, n) → j < n → P (wr g d j v)) : zwC sc 1 180 [(2, d), (0, v)] h (zwRv (fun g => P g ∧ sh g d = some (20, n) ∧ ∀ j : Nat, j < n → fld g d j = v)) := by
  refine zwC_of (D := 0) 4 (by decide +kernel) rfl (ls := [(2, d), (0, v), (9, 0), (9, 0)]) rfl ?_
  refine zwW_p [(0, 0, 0), (2, 2, 0), (1, 0, 2)] (q := 3) (ls' := [(2, d), (0, v), (0, 0), (9, 0)]) (st' := [(2, d)]) (by decide +kernel) rfl ?_
  refine zwW_len (nx := 4) (by decide +kernel) s rfl ?_
  refine zwW_p [(2, 3, 0)] (q := 5) (ls' := [(2, d), (0, v), (0, 0), (0, (n : Int))]) (st' := []) (by decide +kernel) rfl ?_
  have L : ∀ (m : Nat) (i : Int) (g : Hp), m = ((n : Int) - i).toNat → 0 ≤ i → P g → sh g d = some (20, n) → (∀ j : Nat, (j : Int) < i → fld g d j = v) → zwW sc 0 180 5 [(2, d), (0, v), (0, i), (0, (n : Int))] [] g (zwRv (fun g => P g ∧ sh g d = some (20, n) ∧ ∀ j : Nat, j < n → fld g d j = v)) := by
    intro m
    induction m using Nat.strongRecOn with
    | ind m IH =>
      intro i g hm hi p s hf
      refine zwW_p [(1, 2, 0), (1, 3, 0)] (q := 7) (ls' := [(2, d), (0, v), (0, i), (0, (n : Int))]) (st' := [(0, (n : Int)), (0, i)]) (by decide +kernel) rfl ?_
      refine zwic_ge (q := 20) (nx := 10) (by decide +kernel) (fun c => zwW_retv (nx := 21) (a := 0) (b := 0) (by decide +kernel) ⟨p, s, fun j hj => hf j (by omega)⟩) (fun c => ?_)
      refine zwW_p [(1, 0, 2), (1, 2, 0), (1, 1, 0)] (q := 13) (ls' := [(2, d), (0, v), (0, i), (0, (n : Int))]) (st' := [(0, v), (0, i), (2, d)]) (by decide +kernel) rfl ?_
      refine zwW_ast (a := 20) (kd := 20) (n := n) (x := v) (nx := 14) (by decide +kernel) s rfl hi (by omega) rfl ?_
      rintro g2 e2
      refine zwW_inc (i := 2) (c := 1) (x := i) (nx := 17) (by decide +kernel) rfl (by omega) (ls' := [(2, d), (0, v), (0, i + 1), (0, (n : Int))]) rfl ?_
      refine zwW_p [(24, 5, 0)] (q := 5) (ls' := [(2, d), (0, v), (0, i + 1), (0, (n : Int))]) (st' := []) (by decide +kernel) rfl ?_
      refine IH ((n : Int) - (i + 1)).toNat (by omega) (i + 1) g2 rfl (by omega) (by rw [e2]; exact hP g _ p s (by omega)) (by rw [e2, sh_wr]; exact s) (fun j hj => ?_)
      rw [e2]
      by_cases hq : j = i.toNat
      · rw [hq]
        exact fld_wr_eq s (by omega)
      · rw [fld_wr (Or.inr hq)]
        exact hf j (by omega)
  exact L _ 0 h rfl (by omega) h0 s (fun j hj => by omega)
theorem x180_12 (C : CI h) {v : Int} (hv : -2147483648 ≤ v ∧ v ≤ 2147483647) : zwC sc 1 180 [(2, 12), (0, v)] h (zwRv (fun g => CI g ∧ zXR [(12, 12, 0, 5)] 0 0 h g ∧ ∀ j : Nat, j < 5 → fld g 12 j = v)) :=
  zwC_to (x180 (P := fun g => CI g ∧ zXR [(12, 12, 0, 5)] 0 0 h g) (C.1.s (a1 := 12) (a2 := 12) (by decide +kernel) (by decide) (by decide)) (by decide) ⟨C, (zXR.rf _ h).le (by decide) (by decide)⟩ (fun g j p s hj => ⟨p.1.wc rfl (p.1.1.w (a1 := 12) (a2 := 12) (j1 := 0) (j2 := 5) (lo := -2147483648) (hi := 2147483647) (by decide +kernel) (by decide) (by decide) (by omega) hj hv.1 hv.2) (by decide) (by decide), p.2.tr (zXR.wc (a1 := 12) (j1 := 0) (j2 := 5) rfl rfl ⟨by decide, by decide, Or.inl (by decide)⟩ ⟨by omega, hj⟩) (by decide) (by decide) (by decide)⟩)) (by
    rintro r g ⟨hr, hq⟩
    exact ⟨hr, hq.1.1, hq.1.2, hq.2.2⟩)
theorem x180_17 (C : CI h) {v : Int} (hv : -2147483648 ≤ v ∧ v ≤ 2147483647) : zwC sc 1 180 [(2, 17), (0, v)] h (zwRv (fun g => CI g ∧ zXR [(17, 17, 0, 13)] 0 0 h g ∧ ∀ j : Nat, j < 13 → fld g 17 j = v)) :=
  zwC_to (x180 (P := fun g => CI g ∧ zXR [(17, 17, 0, 13)] 0 0 h g) (C.1.s (a1 := 17) (a2 := 17) (by decide +kernel) (by decide) (by decide)) (by decide) ⟨C, (zXR.rf _ h).le (by decide) (by decide)⟩ (fun g j p s hj => ⟨p.1.wc rfl (p.1.1.w (a1 := 17) (a2 := 17) (j1 := 0) (j2 := 13) (lo := -2147483648) (hi := 2147483647) (by decide +kernel) (by decide) (by decide) (by omega) hj hv.1 hv.2) (by decide) (by decide), p.2.tr (zXR.wc (a1 := 17) (j1 := 0) (j2 := 13) rfl rfl ⟨by decide, by decide, Or.inl (by decide)⟩ ⟨by omega, hj⟩) (by decide) (by decide) (by decide)⟩)) (by
    rintro r g ⟨hr, hq⟩
    exact ⟨hr, hq.1.1, hq.1.2, hq.2.2⟩)
theorem x180_24 (C : CI h) {v : Int} (hv : -2147483648 ≤ v ∧ v ≤ 2147483647) : zwC sc 1 180 [(2, 24), (0, v)] h (zwRv (fun g => CI g ∧ zXR [(24, 24, 0, 6)] 0 0 h g ∧ ∀ j : Nat, j < 6 → fld g 24 j = v)) :=
  zwC_to (x180 (P := fun g => CI g ∧ zXR [(24, 24, 0, 6)] 0 0 h g) (C.1.s (a1 := 24) (a2 := 24) (by decide +kernel) (by decide) (by decide)) (by decide) ⟨C, (zXR.rf _ h).le (by decide) (by decide)⟩ (fun g j p s hj => ⟨p.1.wc rfl (p.1.1.w (a1 := 24) (a2 := 24) (j1 := 0) (j2 := 6) (lo := -2147483648) (hi := 2147483647) (by decide +kernel) (by decide) (by decide) (by omega) hj hv.1 hv.2) (by decide) (by decide), p.2.tr (zXR.wc (a1 := 24) (j1 := 0) (j2 := 6) rfl rfl ⟨by decide, by decide, Or.inl (by decide)⟩ ⟨by omega, hj⟩) (by decide) (by decide) (by decide)⟩)) (by
    rintro r g ⟨hr, hq⟩
    exact ⟨hr, hq.1.1, hq.1.2, hq.2.2⟩)
/-- one fixed cell is written anew -/
theorem zI.cell (I : zI h) {B n : Nat} {lo hi : Int} (e : zqW B B 0 n lo hi = true) (hs : ∀ q, sh g q = sh h q) (ho : ∀ q : Int, q ≠ B → fld g q = fld h q) (hb : ∀ j : Nat, j < n → lo ≤ fld g B j ∧ fld g B j ≤ hi) (hc : ∀ j : Nat, n ≤ j → fld g B j = fld h B j) : zI g := by
  unfold zqW at e
  rw [Bool.and_eq_true, List.all_eq_true, List.all_eq_true] at e
  obtain ⟨e1, e2⟩ := e
  refine ⟨fun q hq r' k1 k2 => by rw [hs]; exact I.1 q hq r' k1 k2, fun q hq r' j' k1 k2 k3 k4 => ?_, fun q hq j' k1 => ?_⟩
  · have hI := I.2.1 q hq r' j' k1 k2 k3 k4
    by_cases hz : r' ≠ (B : Int)
    · rw [ho r' hz]; exact hI
    · obtain rfl : r' = (B : Int) := by omega
      by_cases hj : j' < n
      · have hb := hb j' hj
        have e1 := e1 q hq
        simp only [Bool.or_eq_true, Bool.and_eq_true, decide_eq_true_eq] at e1
        rcases e1 with e1 | e1 | e1 | e1 | ⟨e1, e3⟩
        · have := Nat.le_of_ble_eq_true e1
          omega
        · have := Nat.le_of_ble_eq_true e1
          omega
        · have := Nat.le_of_ble_eq_true e1
          omega
        · have := Nat.le_of_ble_eq_true e1
          omega
        · omega
      · rw [hc j' (by omega)]; exact hI
  · have e2 := e2 q hq
    rw [Bool.or_eq_true] at e2
    have : (q.1 : Int) ≠ (B : Int) := by
      rcases e2 with e2 | e2
      · have := Nat.le_of_ble_eq_true e2
        omega
      · have := Nat.le_of_ble_eq_true e2
        omega
    rw [ho _ this]
    exact I.2.2 q hq j' k1
theorem CI.cell (C : CI h) {B n : Nat} {lo hi : Int} (e : zqW B B 0 n lo hi = true) (hB : (0 < B ∧ B ≤ 365) ∧ (B ≠ 2 ∧ B ≠ 3 ∧ B ≠ 4 ∧ B ≠ 5 ∧ B ≠ 14 ∧ B ≠ 20 ∧ B ≠ 21) ∧ B ≠ 15) (hs : ∀ q, sh g q = sh h q) (hl : g.length = h.length ∧ sz g = sz h) (ho : ∀ q : Int, q ≠ B → fld g q = fld h q) (hb : ∀ j : Nat, j < n → lo ≤ fld g B j ∧ fld g B j ≤ hi) (hc : ∀ j : Nat, n ≤ j → fld g B j = fld h B j) : CI g ∧ zXR [(B, B, 0, n)] 0 0 h g := by
  have f4 : fld g 4 2 = fld h 4 2 := by rw [ho 4 (by omega)]
  have f21 : fld g 21 2 = fld h 21 2 := by rw [ho 21 (by omega)]
  have R : zXR [(B, B, 0, n)] 0 0 h g := by
    refine ⟨fun q z hz => by rw [hs]; exact hz, fun q j k1 k2 hn => ?_, fun q k m j k1 k2 k3 => congrFun (ho q (by omega)) j, by omega, by omega, by omega, fun q k m j k1 k2 k3 hn => congrFun (ho q (by omega)) j, fun A hA hn ha j => congrFun (ho _ (by omega)) j⟩
    by_cases hz : q = (B : Int)
    · subst hz
      have := hn _ List.mem_cons_self
      dsimp only at this
      exact hc j (by omega)
    · rw [ho q hz]
  refine ⟨⟨C.1.cell e hs ho hb hc, fun q k m i k1 k2 k3 => ?_, C.2.2.kp R (fun A hA => ?_) (fun A hA ha => ho _ (by omega)) (fun i hi => by rw [ho 15 (by omega)])⟩, R⟩
  · rw [hs] at k2
    rw [ho q (by omega)]
    exact C.2.1 q k m i k1 k2 k3
  · have hne : (A : Int) ≠ (B : Int) := by
      unfold zLis at hA
      simp only [List.mem_cons, List.not_mem_nil, or_false] at hA
      omega
    rw [ho _ hne]
    exact ⟨rfl, rfl⟩
/-- a fixed array of ints into another one of its length -/
theorem zwX_copy (C : CI h) {A B n : Nat} (e : zwat y pc 47 nx 0 0 = true) (eA : zqB A A 0 n (-2147483648) 2147483647 = true) (eB : zqW B B 0 n (-2147483648) 2147483647 = true) (sA : sh h (A : Int) = some (20, n)) (sB : sh h (B : Int) = some (20, n)) (hB : (0 < B ∧ B ≤ 365) ∧ (B ≠ 2 ∧ B ≠ 3 ∧ B ≠ 4 ∧ B ≠ 5 ∧ B ≠ 14 ∧ B ≠ 20 ∧ B ≠ 21) ∧ B ≠ 15) (hw : Nat.ble (wds st) 8 = true)
    (k : ∀ g, CI g → zXR [(B, B, 0, n)] 0 0 h g → (∀ j : Nat, j < n → fld g B j = fld h A j) → (∀ q : Int, q ≠ B → fld g q = fld h q) → zwW sc D y nx ls st g Q) : zwW sc D y pc ls ((0, (n : Int)) :: (0, 0) :: (2, (B : Int)) :: (0, 0) :: (2, (A : Int)) :: st) h Q := by
  obtain ⟨la, ca, na⟩ := sh_cel sA
  obtain ⟨lb, cb, nb⟩ := sh_cel sB
  refine zwW_copy e ca cb (Or.inl ⟨rfl, rfl⟩) hw ⟨by omega, by omega, by omega, by omega, by omega⟩ ?_
  have hlen : (cpyL la lb (Int.toNat 0) (Int.toNat 0) (Int.toNat (n : Int))).length = n := by
    rw [cpyL_len (by simp; omega) (by simp; omega), nb]
  have hcel : ∀ q, cel (h.set ((B : Int).toNat - 1) (20, cpyL la lb (Int.toNat 0) (Int.toNat 0) (Int.toNat (n : Int)))) q = if q = (B : Int) then some (20, cpyL la lb (Int.toNat 0) (Int.toNat 0) (Int.toNat (n : Int))) else cel h q := fun q => cel_set q (by rw [cb]; rfl)
  have hs : ∀ q, sh (h.set ((B : Int).toNat - 1) (20, cpyL la lb (Int.toNat 0) (Int.toNat 0) (Int.toNat (n : Int)))) q = sh h q := by
    intro q
    by_cases hz : q = (B : Int)
    · subst hz
      rw [sB]
      unfold sh
      rw [hcel, if_pos rfl]
      show some (20, _) = some (20, n)
      rw [hlen]
    · unfold sh
      rw [hcel, if_neg hz]
  have ho : ∀ q : Int, q ≠ B → fld (h.set ((B : Int).toNat - 1) (20, cpyL la lb (Int.toNat 0) (Int.toNat 0) (Int.toNat (n : Int)))) q = fld h q := by
    intro q hz
    funext j
    unfold fld
    rw [hcel, if_neg hz]
  have hB' : ∀ j : Nat, fld (h.set ((B : Int).toNat - 1) (20, cpyL la lb (Int.toNat 0) (Int.toNat 0) (Int.toNat (n : Int)))) B j = (cpyL la lb (Int.toNat 0) (Int.toNat 0) (Int.toNat (n : Int))).getD j 0 := by
    intro j
    unfold fld
    rw [hcel, if_pos rfl]
  have hf : ∀ j : Nat, j < n → fld (h.set ((B : Int).toNat - 1) (20, cpyL la lb (Int.toNat 0) (Int.toNat 0) (Int.toNat (n : Int)))) B j = fld h A j := by
    intro j hj
    rw [hB', fld_of ca, List.getD_eq_getElem?_getD, cpyL_at (by simp; omega) (by simp; omega), if_pos ⟨Nat.zero_le _, by simp; omega⟩, List.getD_eq_getElem?_getD]
    simp
  have hsz : sz (h.set ((B : Int).toNat - 1) (20, cpyL la lb (Int.toNat 0) (Int.toNat 0) (Int.toNat (n : Int)))) = sz h := by
    have := cel_of cb
    refine sz_set (e := (20, lb)) ?_ (by rw [hlen, nb])
    unfold cel at cb
    rw [if_pos (by omega)] at cb
    exact cb
  obtain ⟨Cg, R⟩ := C.cell eB hB hs ⟨List.length_set, hsz⟩ ho (fun j hj => by rw [hf j hj]; exact C.1.b eA (Int.le_refl _) (Int.le_refl _) (Nat.zero_le _) hj) (fun j hj => by
    rw [hB', fld_of cb, List.getD_eq_getElem?_getD, List.getElem?_eq_none (by omega), List.getD_eq_getElem?_getD, List.getElem?_eq_none (by omega)])
  exact k _ Cg R hf ho
/-- a sheet is in force -/
theorem CI.ws {i : Nat} {r : Int} (C : CI h) (G : gS h r) (hi : i < 12) (hl : h.length ≤ 2000000000) (e : g = wr h 15 i r) : CI g ∧ zXR [(15, 15, 0, 12)] 0 0 h g := by
  have R : zXR [(15, 15, 0, 12)] 0 0 h g := zXR.wc e rfl ⟨by decide, by decide, Or.inl (by decide)⟩ ⟨Nat.zero_le _, hi⟩
  have hr := sh_pos G.2.1
  have s : sh h 15 = some (24, 12) := C.1.s (a1 := 15) (a2 := 15) (by decide +kernel) (by decide) (by decide)
  have fo : ∀ q : Int, q ≠ 15 → fld g q = fld h q := fun q hne => by rw [e]; funext j; exact fld_wr (Or.inl hne)
  refine ⟨⟨by rw [e]; exact C.1.w (a1 := 15) (a2 := 15) (j1 := 0) (j2 := 12) (lo := 0) (hi := 2147483647) (by decide +kernel) (by decide) (by decide) (Nat.zero_le _) hi (by omega) (by omega), fun q k n j k1 k2 k3 => ?_, ?_, ?_, fun j hj => ?_⟩, R⟩
  · rw [e, sh_wr] at k2
    rw [fo q (by omega)]
    exact C.2.1 q k n j k1 k2 k3
  · intro A hA
    have hq := zLis_36 hA
    have w := fo (A : Int) (by omega)
    exact (C.2.2.1 A hA).kp R (by rw [w]) (by rw [w]) (fun ha => fo _ (by omega))
  · intro A hA B hB hne
    have q1 := zLis_36 hA
    have q2 := zLis_36 hB
    rw [fo (A : Int) (by omega), fo (B : Int) (by omega)]
    exact C.2.2.2.1 A hA B hB hne
  · by_cases hz : j = i
    · subst hz
      right
      rw [e, fld_wr_eq s hj, ← e]
      exact G.x R
    · rw [e, fld_wr (Or.inr hz), ← e]
      exact (C.2.2.2.2 j hj).imp id (fun z => z.x R)
/-- copies of an array of ints -/
theorem zwW_clone {r : Int} {l : List Int} (e : zwat y pc 48 nx 0 0 = true) (hc : cel h r = some (20, l)) (hw : Nat.ble (wds st) 8 = true) (k : zwW sc D y nx ls ((2, ((h.length + 1 : Nat) : Int)) :: st) (h ++ [(20, l)]) Q) : zwW sc D y pc ls ((2, r) :: st) h Q := by
  refine zwW_w1 e (by decide) (by decide) (show (match cel h r with
      | some (kd, l) => if kd = 20 ∧ wds st ≤ 8 then some (h ++ [(kd, l)], (2, ((h.length + 1 : Nat) : Int)) :: st) else none
      | none => none) = _ from ?_) k
  rw [hc]
  dsimp only
  rw [if_pos ⟨rfl, Nat.le_of_ble_eq_true hw⟩]
/-- a new array with the first n ints of another one -/
def zCpd (h : Hp) (d n x : Int) (g : Hp) : Prop := x = ((h.length + 1 : Nat) : Int) ∧ ∃ l : List Int, g = h ++ [(20, l)] ∧ (l.length : Int) = n ∧ ∀ i : Nat, (i : Int) < n → l.getD i 0 = fld h d i
theorem x202 {d n : Int} {m : Nat} (s : sh h d = some (20, m)) (hn : 0 ≤ n ∧ n ≤ m) (hm : m ≤ 1000) : zwC sc 1 202 [(2, d), (0, n)] h (zwRt 2 (zCpd h d n)) := by
  obtain ⟨l, hc, hl⟩ := sh_cel s
  refine zwC_of (D := 0) 3 (by decide +kernel) rfl (ls := [(2, d), (0, n), (9, 0)]) rfl ?_
  refine zwW_p [(1, 1, 0), (1, 0, 2)] (q := 2) (ls' := [(2, d), (0, n), (9, 0)]) (st' := [(2, d), (0, n)]) (by decide +kernel) rfl ?_
  refine zwW_len (nx := 3) (by decide +kernel) s rfl ?_
  refine zwic_ne (q := 14) (nx := 6) (by decide +kernel) (fun c => ?_) (fun c => ?_)
  · refine zwW_p [(1, 1, 0)] (q := 15) (ls' := [(2, d), (0, n), (9, 0)]) (st' := [(0, n)]) (by decide +kernel) rfl ?_
    refine zwW_newa (op := 43) (kd := 20) (a := 20) (nx := 17) (by decide +kernel) (Or.inl rfl) rfl (by omega) (by omega) ?_
    rintro _ r rfl rfl
    refine zwW_p [(2, 2, 2), (1, 0, 2), (0, 0, 0), (1, 2, 2), (0, 0, 0), (1, 0, 2)] (q := 23) (ls' := [(2, d), (0, n), (2, ((h.length + 1 : Nat) : Int))]) (st' := [(2, d), (0, 0), (2, ((h.length + 1 : Nat) : Int)), (0, 0), (2, d)]) (by decide +kernel) rfl ?_
    have hc2 : cel (h ++ [(20, List.replicate n.toNat 0)]) d = some (20, l) := by rw [cel_app _ d (cel_of hc).2.2]; exact hc
    refine zwW_len (n := m) (nx := 24) (by decide +kernel) (by rw [← hl]; exact sh_of hc2) rfl ?_
    refine zwW_p [(1, 1, 0)] (q := 25) (ls' := [(2, d), (0, n), (2, ((h.length + 1 : Nat) : Int))]) (st' := [(0, n), (0, (m : Int)), (0, 0), (2, ((h.length + 1 : Nat) : Int)), (0, 0), (2, d)]) (by decide +kernel) rfl ?_
    refine zwW_min (nx := 28) (by decide +kernel) rfl ?_
    intro z ez
    obtain rfl : z = n := by omega
    refine zwW_copy (nx := 31) (by decide +kernel) hc2 (cel_new _) (Or.inl ⟨rfl, rfl⟩) rfl ⟨by omega, by omega, by omega, by omega, by rw [List.length_replicate]; omega⟩ ?_
    rw [show (((h.length + 1 : Nat) : Int)).toNat - 1 = h.length by omega, set_app]
    refine zwW_p [(1, 2, 2)] (q := 32) (ls' := [(2, d), (0, z), (2, ((h.length + 1 : Nat) : Int))]) (st' := [(2, ((h.length + 1 : Nat) : Int))]) (by decide +kernel) rfl ?_
    refine zwW_ret (nx := 33) (a := 0) (b := 2) (by decide +kernel) rfl (Or.inl rfl) ⟨rfl, _, rfl, ?_, fun i hi => ?_⟩
    · rw [cpyL_len (by simp; omega) (by rw [List.length_replicate]; simp), List.length_replicate]; omega
    · rw [List.getD_eq_getElem?_getD, cpyL_at (by simp; omega) (by rw [List.length_replicate]; simp), if_pos ⟨Nat.zero_le _, by simp; omega⟩, fld_of hc, List.getD_eq_getElem?_getD]
      simp
  · refine zwW_p [(1, 0, 2)] (q := 7) (ls' := [(2, d), (0, n), (9, 0)]) (st' := [(2, d)]) (by decide +kernel) rfl ?_
    refine zwW_clone (nx := 10) (by decide +kernel) hc rfl ?_
    refine zwW_cast (a := 20) (kd := 20) (n := m) (nx := 13) (by decide +kernel) rfl (Or.inr (by rw [← hl]; exact sh_new 20 l)) ?_
    refine zwW_ret (nx := 14) (a := 0) (b := 2) (by decide +kernel) rfl (Or.inl rfl) ⟨rfl, l, rfl, by omega, fun i hi => ?_⟩
    rw [fld_of hc]
end ZF
theorem zshl_le {t : Int} (ht : 0 ≤ t ∧ t ≤ 8) : 1 ≤ i_shl 1 t ∧ i_shl 1 t ≤ 256 := by
  have : t = 0 ∨ t = 1 ∨ t = 2 ∨ t = 3 ∨ t = 4 ∨ t = 5 ∨ t = 6 ∨ t = 7 ∨ t = 8 := by omega
  rcases this with rfl | rfl | rfl | rfl | rfl | rfl | rfl | rfl | rfl <;> decide
theorem zwW_incw {sc : List Int} {D y pc nx : Nat} {ls st : List Vl} {h : Hp} {Q : Option Vl → Hp → Prop} {i c x : Int} (F : Int → List Vl) (e : zwat y pc 3 nx i c = true) (hl : ls[i.toNat]? = some (0, x)) (he : ∀ z, storeL ls i.toNat (0, z) = F z) (k : ∀ z, -2147483648 ≤ z → z ≤ 2147483647 → zwW sc D y nx (F z) st h Q) : zwW sc D y pc ls st h Q := by
  have hw := w32_in (x + c)
  refine zwW_p1 e (by decide) (show (match ls[i.toNat]? with
    | some v => if v.1 = 0 then some (storeL ls i.toNat (0, w32 (v.2 + c)), st) else none
    | none => none) = some (F (w32 (x + c)), st) from ?_) (k _ hw.1 hw.2)
  rw [hl]
  dsimp only
  rw [if_pos rfl, he]
theorem zwW_negw {sc : List Int} {D y pc nx : Nat} {ls st : List Vl} {h : Hp} {Q : Option Vl → Hp → Prop} {x : Int} (e : zwat y pc 6 nx 0 0 = true) (k : ∀ z, -2147483648 ≤ z → z ≤ 2147483647 → zwW sc D y nx ls ((0, z) :: st) h Q) : zwW sc D y pc ls ((0, x) :: st) h Q := by
  have hw := w32_in (-x)
  exact zwW_p1 e (by decide) (show some (ls, (0, w32 (-x)) :: st) = _ from rfl) (k _ hw.1 hw.2)
theorem zt100 {b : Int} (hb : -2147483648 ≤ b ∧ b ≤ 2147483647) : (0 ≤ b ∧ w32 (b.tdiv 100) = b / 100 ∧ b.tmod 100 = b % 100) ∨ (b < 0 ∧ w32 (b.tdiv 100) ≤ 0 ∧ b.tmod 100 ≤ 0) := by
  by_cases h : 0 ≤ b
  · left
    rw [zw_tdiv h, zw_tmod h]
    exact ⟨h, w32_id ⟨by omega, by omega⟩, rfl⟩
  · right
    obtain ⟨n, rfl⟩ : ∃ n : Int, b = -n := ⟨-b, by omega⟩
    have hn : 0 ≤ n := by omega
    have e1 : (-n).tdiv 100 = -(n / 100) := by rw [Int.neg_tdiv, zw_tdiv hn]
    have e2 : (-n).tmod 100 = -(n % 100) := by rw [Int.neg_tmod, zw_tmod hn]
    rw [e1, e2]
    refine ⟨by omega, ?_, by omega⟩
    rw [w32_id ⟨by omega, by omega⟩]
    omega
