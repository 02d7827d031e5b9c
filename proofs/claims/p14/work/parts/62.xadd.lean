/-! lists: get, add, clear, over the mini machine's code -/
section ZA
variable {sc : List Int} {D D' y pc nx : Nat} {ls st st' : List Vl} {h h' h1 h2 g : Hp} {Q : Option Vl → Hp → Prop}
theorem zwW_copy {rs rd sp dp n : Int} {ks kd : Nat} {lsrc ld : List Int} (e : zwat y pc 47 nx 0 0 = true) (hs : cel h rs = some (ks, lsrc)) (hd : cel h rd = some (kd, ld)) (hk : (ks = 20 ∧ kd = 20) ∨ (ks = 25 ∧ kd = 25 ∧ oneK h lsrc sp.toNat n.toNat = true)) (hw : Nat.ble (wds st) 8 = true) (h1 : 0 ≤ n ∧ 0 ≤ dp ∧ 0 ≤ sp ∧ sp + n ≤ lsrc.length ∧ dp + n ≤ ld.length)
    (k : zwW sc D y nx ls st (h.set (rd.toNat - 1) (kd, cpyL lsrc ld sp.toNat dp.toNat n.toNat)) Q) : zwW sc D y pc ls ((0, n) :: (0, dp) :: (2, rd) :: (0, sp) :: (2, rs) :: st) h Q := by
  refine zwW_w1 e (by decide) (by decide) (show (match cel h rs, cel h rd with
      | some (ks, ls), some (kd, ld) => if ((ks = 20 ∧ kd = 20) ∨ (ks = 25 ∧ kd = 25 ∧ oneK h ls sp.toNat n.toNat = true)) ∧ wds st ≤ 8 ∧ 0 ≤ n ∧ 0 ≤ dp ∧ 0 ≤ sp ∧ sp + n ≤ ls.length ∧ dp + n ≤ ld.length then
          some (h.set (rd.toNat - 1) (kd, cpyL ls ld sp.toNat dp.toNat n.toNat), st) else none
      | _, _ => none) = _ from ?_) k
  rw [hs, hd]
  dsimp only
  rw [if_pos ⟨hk, Nat.le_of_ble_eq_true hw, h1⟩]
theorem set_app (l : Hp) (c c' : Nat × List Int) : (l ++ [c]).set l.length c' = l ++ [c'] := by
  rw [List.set_append_right _ _ (Nat.le_refl _), Nat.sub_self]
  rfl
theorem zG_sh {A : Nat} {r : Int} (G : zG A h r) : 365 < r ∧ ∃ k n, k < 14 ∧ sh h r = some (k, n) := by
  unfold zG at G
  split at G
  · exact ⟨G.1, 11, 17, by decide, G.2.1⟩
  · split at G
    · exact ⟨G.1, 4, 19, by decide, G.2.1⟩
    · split at G
      · exact ⟨G.1, 6, 7, by decide, G.2.1⟩
      · split at G
        · exact ⟨G.1, 1, 6, by decide, G.2.1⟩
        · exact ⟨G.1, 10, 3, by decide, G.2.1⟩
/-- the kind of what stands in a list -/
def zKd (A : Nat) : Nat := if A = 2 then 11 else if A = 3 ∨ A = 21 then 4 else if A = 4 ∨ A = 20 then 6 else if A = 5 then 1 else 10
theorem zG_kd {A : Nat} {r : Int} (G : zG A h r) : ∃ n, sh h r = some (zKd A, n) := by
  unfold zG at G
  unfold zKd
  split at G
  · rw [if_pos ‹_›]; exact ⟨17, G.2.1⟩
  · rw [if_neg ‹_›]
    split at G
    · rw [if_pos ‹_›]; exact ⟨19, G.2.1⟩
    · rw [if_neg ‹_›]
      split at G
      · rw [if_pos ‹_›]; exact ⟨7, G.2.1⟩
      · rw [if_neg ‹_›]
        split at G
        · rw [if_pos ‹_›]; exact ⟨6, G.2.1⟩
        · rw [if_neg ‹_›]; exact ⟨3, G.2.1⟩
theorem zKd_lt (A : Nat) : zKd A < 14 := by
  unfold zKd
  split
  · decide
  · split
    · decide
    · split
      · decide
      · split <;> decide
theorem kept25 {r : Int} {k n : Nat} (hr : 365 < r) (hk : k < 14) (s : sh h r = some (k, n)) : kept h 25 (2, r) = some r := by
  obtain ⟨l, hc, -⟩ := sh_cel s
  show (if (2 : Nat) = 2 then (if r = 0 then some 0 else match cel h r with
    | some (k, _) => if k < 14 then some r else none
    | none => none) else none) = some r
  rw [if_pos rfl, if_neg (by omega), hc]
  dsimp only
  rw [if_pos hk]
/-- the size of a list -/
theorem x96 (C : CI h) {A : Nat} (hA : A ∈ zLis) : zwC sc 1 96 [(2, (A : Int))] h (zwRt 0 (fun x g => h = g ∧ x = fld h A 2)) := by
  refine zwC_of (D := 0) 1 (by decide +kernel) rfl (ls := [(2, (A : Int))]) rfl ?_
  refine zwW_p [(1, 0, 2)] (q := 1) (ls' := [(2, (A : Int))]) (st' := [(2, (A : Int))]) (by decide +kernel) rfl ?_
  refine zwW_get (kd := 0) (bn := 2) (t := 0) (n := 3) (nx := 4) (by decide +kernel) (zLis_sh C hA) rfl ?_
  exact zwW_ret (nx := 5) (a := 0) (b := 0) (by decide +kernel) rfl (Or.inl rfl) ⟨rfl, rfl⟩
theorem x205 (C : CI h) {A : Nat} (hA : A ∈ zLis) {i : Int} (hi : 0 ≤ i ∧ i < fld h A 2) : zwC sc 1 205 [(2, (A : Int)), (0, i)] h (zwRt 2 (fun x g => h = g ∧ zG A h x ∧ x = fld h (fld h A 1) i.toNat)) := by
  rcases C.2.2.1 A hA with ⟨a, b⟩ | ⟨a, n, b, c, c0, d, e⟩
  · omega
  · refine zwC_of (D := 0) 2 (by decide +kernel) rfl (ls := [(2, (A : Int)), (0, i)]) rfl ?_
    refine zwW_p [(1, 0, 2)] (q := 1) (ls' := [(2, (A : Int)), (0, i)]) (st' := [(2, (A : Int))]) (by decide +kernel) rfl ?_
    refine zwW_get (kd := 0) (bn := 1) (t := 2) (n := 3) (nx := 4) (by decide +kernel) (zLis_sh C hA) rfl ?_
    refine zwW_p [(1, 1, 0)] (q := 5) (ls' := [(2, (A : Int)), (0, i)]) (st' := [(0, i), (2, fld h A 1)]) (by decide +kernel) rfl ?_
    refine zwW_ald (a := 24) (kd := 25) (n := n) (t := 2) (nx := 6) (by decide +kernel) b rfl hi.1 (by omega) ?_
    refine zwW_ret (nx := 7) (a := 0) (b := 2) (by decide +kernel) rfl (Or.inl rfl) ⟨rfl, ?_, rfl⟩
    exact e i.toNat (by omega)
theorem zmx_le (A : Nat) : zmx A ≤ 300 := by
  unfold zmx
  split
  · decide
  · split
    · decide
    · split
      · decide
      · split <;> decide
theorem x123 (C : CI h) {A : Nat} (hA : A ∈ zLis) {i : Int} (hi : 0 ≤ i ∧ i < fld h A 2) : zwC sc 4 123 [(2, (A : Int)), (0, i)] h (zwRt 2 (fun x g => h = g ∧ zG A h x ∧ x = fld h (fld h A 1) i.toNat)) := by
  have hb := zLis_b C hA
  have hz := zmx_le A
  refine zwC_of (D := 3) 2 (by decide +kernel) rfl (ls := [(2, (A : Int)), (0, i)]) rfl ?_
  refine zwW_p [(1, 1, 0), (1, 0, 2)] (q := 2) (ls' := [(2, (A : Int)), (0, i)]) (st' := [(2, (A : Int)), (0, i)]) (by decide +kernel) rfl ?_
  refine zwW_get (kd := 0) (bn := 2) (t := 0) (n := 3) (nx := 5) (by decide +kernel) (zLis_sh C hA) rfl ?_
  refine zwW_cs (k' := 204) (n := 2) (nx := 8) (as := [(0, i), (0, fld h A 2)]) (st' := []) (by decide +kernel) rfl (m204 h i (fld h A 2) (by omega) (by omega) (by omega)) rfl ?_
  rintro x _ ⟨rfl, f1, f2⟩
  refine zwW_p [(15, 0, 0), (1, 0, 2), (1, 1, 0)] (q := 11) (ls' := [(2, (A : Int)), (0, i)]) (st' := [(0, i), (2, (A : Int))]) (by decide +kernel) rfl ?_
  refine zwW_cv (op := 60) (k' := 205) (n := 1) (kd := 0) (m := 3) (nx := 14) (r := (A : Int)) (tl := [(0, i)]) (st' := []) (by decide +kernel) rfl (by decide +kernel) (zLis_sh C hA) (x205 C hA hi) rfl ?_
  rintro x _ ⟨rfl, f3⟩
  exact zwW_ret (nx := 15) (a := 0) (b := 2) (by decide +kernel) rfl (Or.inl rfl) ⟨rfl, f3⟩
/-- copies of a list's array -/
theorem oneK_to {l : List Int} {n K : Nat} (hK : K < 14) (H : ∀ i, i < n → ∃ m, sh h (l.getD i 0) = some (K, m)) : oneK h l 0 n = true := by
  unfold oneK
  rw [List.any_eq_true]
  refine ⟨K, List.mem_range.mpr hK, ?_⟩
  rw [List.all_eq_true]
  intro i hi
  obtain ⟨m, hm⟩ := H i (List.mem_range.mp hi)
  obtain ⟨l', hc, -⟩ := sh_cel hm
  rw [Nat.zero_add, hc]
  simp
theorem x288 {d n : Int} {m K : Nat} (hs : sh h d = some (25, m)) (hn : (m : Int) ≤ n ∧ n ≤ 1000) (hK : K < 14) (H : ∀ i, i < m → ∃ q, sh h (fld h d i) = some (K, q)) : zwC sc 1 288 [(2, d), (0, n), (2, -4)] h (zwRt 2 (fun x g => x = ((h.length + 1 : Nat) : Int) ∧ ∃ l, g = h ++ [(25, l)] ∧ l.length = n.toNat ∧ ∀ i, i < m → l.getD i 0 = fld h d i)) := by
  obtain ⟨ld, hc, rfl⟩ := sh_cel hs
  have hd := cel_of hc
  refine zwC_of (D := 0) 4 (by decide +kernel) rfl (ls := [(2, d), (0, n), (2, -4), (9, 0)]) rfl ?_
  refine zwW_p [(1, 2, 2)] (q := 1) (ls' := [(2, d), (0, n), (2, -4), (9, 0)]) (st' := [(2, -4)]) (by decide +kernel) rfl ?_
  refine zwW_ldcl (nx := 3) (by decide +kernel) ?_
  refine zwW_acmp (q := 13) (nx := 6) (a := 13) (b := 1) (by decide +kernel) rfl (Or.inr ⟨rfl, rfl⟩) (fun hq => absurd rfl hq) (fun _ => ?_)
  refine zwW_p [(1, 1, 0)] (q := 7) (ls' := [(2, d), (0, n), (2, -4), (9, 0)]) (st' := [(0, n)]) (by decide +kernel) rfl ?_
  refine zwW_newa (op := 44) (kd := 25) (a := 25) (nx := 10) (by decide +kernel) (Or.inr rfl) rfl (by omega) (by omega) ?_
  rintro _ r rfl rfl
  have hcd : cel (h ++ [(25, List.replicate n.toNat 0)]) d = some (25, ld) := by rw [cel_app _ d hd.2.2]; exact hc
  refine zwW_p [(24, 24, 0), (2, 3, 2), (1, 0, 2), (0, 0, 0), (1, 3, 2), (0, 0, 0), (1, 0, 2)] (q := 30) (ls' := [(2, d), (0, n), (2, -4), (2, ((h.length + 1 : Nat) : Int))]) (st' := [(2, d), (0, 0), (2, ((h.length + 1 : Nat) : Int)), (0, 0), (2, d)]) (by decide +kernel) rfl ?_
  refine zwW_len (nx := 31) (by decide +kernel) (sh_of hcd) rfl ?_
  refine zwW_p [(1, 1, 0)] (q := 32) (ls' := [(2, d), (0, n), (2, -4), (2, ((h.length + 1 : Nat) : Int))]) (st' := [(0, n), (0, (ld.length : Int)), (0, 0), (2, ((h.length + 1 : Nat) : Int)), (0, 0), (2, d)]) (by decide +kernel) rfl ?_
  refine zwW_min (nx := 35) (by decide +kernel) rfl ?_
  intro z ez
  have hz : z = (ld.length : Int) := by omega
  subst hz
  have hcx : cel (h ++ [(25, List.replicate n.toNat 0)]) ((h.length + 1 : Nat) : Int) = some (25, List.replicate n.toNat 0) := cel_new _
  refine zwW_copy (nx := 38) (by decide +kernel) hcd hcx (Or.inr ⟨rfl, rfl, ?_⟩) rfl ⟨by omega, by omega, by omega, by omega, by rw [List.length_replicate]; omega⟩ ?_
  · refine oneK_to (K := K) hK (fun i hi => ?_)
    obtain ⟨q, hq⟩ := H i (by omega)
    rw [fld_of hc] at hq
    exact ⟨q, zOld.sp (zOld.app _) hq⟩
  · rw [show (((h.length + 1 : Nat) : Int)).toNat - 1 = h.length by omega, set_app]
    refine zwW_p [(1, 3, 2)] (q := 39) (ls' := [(2, d), (0, n), (2, -4), (2, ((h.length + 1 : Nat) : Int))]) (st' := [(2, ((h.length + 1 : Nat) : Int))]) (by decide +kernel) rfl ?_
    refine zwW_ret (nx := 40) (a := 0) (b := 2) (by decide +kernel) rfl (Or.inl rfl) ⟨rfl, _, rfl, ?_, fun i hi => ?_⟩
    · rw [cpyL_len (by simp) (by rw [List.length_replicate]; simp; omega), List.length_replicate]
    · rw [List.getD_eq_getElem?_getD, cpyL_at (by simp) (by rw [List.length_replicate]; simp; omega), if_pos ⟨Nat.zero_le _, by simp; omega⟩, fld_of hc, List.getD_eq_getElem?_getD]
      simp
theorem x275 {d n : Int} {m K : Nat} (hs : sh h d = some (25, m)) (hn : (m : Int) ≤ n ∧ n ≤ 1000) (hK : K < 14) (H : ∀ i, i < m → ∃ q, sh h (fld h d i) = some (K, q)) : zwC sc 2 275 [(2, d), (0, n)] h (zwRt 2 (fun x g => x = ((h.length + 1 : Nat) : Int) ∧ ∃ l, g = h ++ [(25, l)] ∧ l.length = n.toNat ∧ ∀ i, i < m → l.getD i 0 = fld h d i)) := by
  refine zwC_of (D := 1) 2 (by decide +kernel) rfl (ls := [(2, d), (0, n)]) rfl ?_
  refine zwW_p [(1, 0, 2), (1, 1, 0), (1, 0, 2)] (q := 3) (ls' := [(2, d), (0, n)]) (st' := [(2, d), (0, n), (2, d)]) (by decide +kernel) rfl ?_
  refine zwW_gcls (nx := 6) (by decide +kernel) hs rfl ?_
  refine zwW_cs (k' := 288) (n := 3) (nx := 9) (as := [(2, d), (0, n), (2, -4)]) (st' := []) (by decide +kernel) rfl (x288 hs hn hK H) rfl ?_
  rintro x g hq
  exact zwW_ret (nx := 10) (a := 0) (b := 2) (by decide +kernel) rfl (Or.inl rfl) hq
/-- a list full (or empty) gets a larger array -/
def zGrown (h : Hp) (A : Nat) (x : Int) (g : Hp) : Prop := x = ((h.length + 1 : Nat) : Int) ∧ ∃ l : List Int, g = wr (h ++ [(25, l)]) A 1 x ∧ fld h A 2 + 1 ≤ l.length ∧ l.length ≤ 600 ∧ ∀ i : Nat, (i : Int) < fld h A 2 → l.getD i 0 = fld h (fld h A 1) i
theorem x257 (C : CI h) {A : Nat} (hA : A ∈ zLis) (hf : (fld h A 2 = 0 ∧ fld h A 1 = -2) ∨ (∃ n : Nat, sh h (fld h A 1) = some (25, n) ∧ fld h A 2 = n ∧ 0 < n ∧ ∀ i, i < n → ∃ q, sh h (fld h (fld h A 1) i) = some (zKd A, q))) (hl : h.length ≤ 2000000000) : zwC sc 3 257 [(2, (A : Int)), (0, fld h A 2 + 1)] h (zwRt 2 (zGrown h A)) := by
  have hb := zLis_b C hA
  have hz := zmx_le A
  have hs := zLis_sh C hA
  refine zwC_of (D := 2) 4 (by decide +kernel) rfl (ls := [(2, (A : Int)), (0, fld h A 2 + 1), (9, 0), (9, 0)]) rfl ?_
  refine zwW_p [(1, 0, 2)] (q := 1) (ls' := [(2, (A : Int)), (0, fld h A 2 + 1), (9, 0), (9, 0)]) (st' := [(2, (A : Int))]) (by decide +kernel) rfl ?_
  refine zwW_get (kd := 0) (bn := 1) (t := 2) (n := 3) (nx := 4) (by decide +kernel) hs rfl ?_
  rcases hf with ⟨e2, e1⟩ | ⟨n, hn, e2, hn0, hall⟩
  · rw [e1]
    refine zwW_elen (nx := 5) (by decide +kernel) ?_
    refine zwW_p [(2, 2, 0), (1, 2, 0)] (q := 7) (ls' := [(2, (A : Int)), (0, fld h A 2 + 1), (0, 0), (9, 0)]) (st' := [(0, 0)]) (by decide +kernel) rfl ?_
    refine zwif_gt (q := 20) (nx := 10) (by decide +kernel) (fun c => by omega) (fun c => ?_)
    refine zwW_p [(1, 0, 2)] (q := 11) (ls' := [(2, (A : Int)), (0, fld h A 2 + 1), (0, 0), (9, 0)]) (st' := [(2, (A : Int))]) (by decide +kernel) rfl ?_
    refine zwW_get (kd := 0) (bn := 1) (t := 2) (n := 3) (nx := 14) (by decide +kernel) hs rfl ?_
    rw [e1]
    refine zwW_p [(0, -2, 2)] (q := 17) (ls' := [(2, (A : Int)), (0, fld h A 2 + 1), (0, 0), (9, 0)]) (st' := [(2, -2), (2, -2)]) (by decide +kernel) rfl ?_
    refine zwac_eq (q := 45) (nx := 20) (by decide +kernel) (by decide) (fun _ => ?_) (fun hq => absurd rfl hq)
    refine zwW_p [(1, 0, 2), (0, 10, 0), (1, 1, 0)] (q := 49) (ls' := [(2, (A : Int)), (0, fld h A 2 + 1), (0, 0), (9, 0)]) (st' := [(0, fld h A 2 + 1), (0, 10), (2, (A : Int))]) (by decide +kernel) rfl ?_
    refine zwW_max (nx := 52) (by decide +kernel) rfl ?_
    intro z ez
    refine zwW_newa (op := 44) (kd := 25) (a := 25) (nx := 55) (by decide +kernel) (Or.inr rfl) rfl (by omega) (by omega) ?_
    rintro _ r rfl rfl
    refine zwW_p [(13, 0, 0)] (q := 56) (ls' := [(2, (A : Int)), (0, fld h A 2 + 1), (0, 0), (9, 0)]) (st' := [(2, ((h.length + 1 : Nat) : Int)), (2, (A : Int)), (2, ((h.length + 1 : Nat) : Int))]) (by decide +kernel) rfl ?_
    refine zwW_put (kd := 0) (bn := 1) (t := 2) (n := 3) (nx := 59) (by decide +kernel) (zOld.sp (zOld.app _) hs) rfl rfl ?_
    rintro g eg
    refine zwW_ret (nx := 60) (a := 0) (b := 2) (by decide +kernel) rfl (Or.inl rfl) ⟨rfl, _, eg, ?_, ?_, fun i hi => by omega⟩
    · rw [List.length_replicate]; omega
    · rw [List.length_replicate]; omega
  · refine zwW_len (nx := 5) (by decide +kernel) hn rfl ?_
    refine zwW_p [(2, 2, 0), (1, 2, 0)] (q := 7) (ls' := [(2, (A : Int)), (0, fld h A 2 + 1), (0, (n : Int)), (9, 0)]) (st' := [(0, (n : Int))]) (by decide +kernel) rfl ?_
    refine zwif_gt (q := 20) (nx := 10) (by decide +kernel) (fun c => ?_) (fun c => by omega)
    refine zwW_p [(1, 2, 0), (1, 1, 0), (1, 2, 0)] (q := 23) (ls' := [(2, (A : Int)), (0, fld h A 2 + 1), (0, (n : Int)), (9, 0)]) (st' := [(0, (n : Int)), (0, fld h A 2 + 1), (0, (n : Int))]) (by decide +kernel) rfl ?_
    refine zwW_sub (nx := 24) (by decide +kernel) (by omega) ?_
    refine zwW_p [(1, 2, 0), (0, 1, 0)] (q := 26) (ls' := [(2, (A : Int)), (0, fld h A 2 + 1), (0, (n : Int)), (9, 0)]) (st' := [(0, 1), (0, (n : Int)), (0, fld h A 2 + 1 - n), (0, (n : Int))]) (by decide +kernel) rfl ?_
    refine zwW_ib (a := 9) (nx := 27) (z := (n : Int) / 2) (by decide +kernel) rfl ?_
    refine zwW_cs (k' := 274) (n := 3) (nx := 30) (as := [(0, (n : Int)), (0, fld h A 2 + 1 - n), (0, (n : Int) / 2)]) (st' := []) (by decide +kernel) rfl (m274 h n (fld h A 2 + 1 - n) (n / 2) (by omega) (by omega) (by omega)) rfl ?_
    rintro x _ ⟨rfl, f1, f2⟩
    refine zwW_p [(2, 3, 0), (1, 0, 2), (1, 0, 2)] (q := 33) (ls' := [(2, (A : Int)), (0, fld h A 2 + 1), (0, (n : Int)), (0, x)]) (st' := [(2, (A : Int)), (2, (A : Int))]) (by decide +kernel) rfl ?_
    refine zwW_get (kd := 0) (bn := 1) (t := 2) (n := 3) (nx := 36) (by decide +kernel) hs rfl ?_
    refine zwW_p [(1, 3, 0)] (q := 37) (ls' := [(2, (A : Int)), (0, fld h A 2 + 1), (0, (n : Int)), (0, x)]) (st' := [(0, x), (2, fld h A 1), (2, (A : Int))]) (by decide +kernel) rfl ?_
    refine zwW_cs (k' := 275) (n := 2) (nx := 40) (as := [(2, fld h A 1), (0, x)]) (st' := [(2, (A : Int))]) (by decide +kernel) rfl (x275 hn (by omega) (zKd_lt A) hall) rfl ?_
    rintro r g ⟨hr, l, rfl, hl1, hl2⟩
    subst hr
    refine zwW_p [(13, 0, 0)] (q := 41) (ls' := [(2, (A : Int)), (0, fld h A 2 + 1), (0, (n : Int)), (0, x)]) (st' := [(2, ((h.length + 1 : Nat) : Int)), (2, (A : Int)), (2, ((h.length + 1 : Nat) : Int))]) (by decide +kernel) rfl ?_
    refine zwW_put (kd := 0) (bn := 1) (t := 2) (n := 3) (nx := 44) (by decide +kernel) (zOld.sp (zOld.app _) hs) rfl rfl ?_
    rintro g eg
    exact zwW_ret (nx := 45) (a := 0) (b := 2) (by decide +kernel) rfl (Or.inl rfl) ⟨rfl, l, eg, by omega, by omega, fun i hi => hl2 i (by omega)⟩
theorem x228 (C : CI h) {A : Nat} (hA : A ∈ zLis) (hf : (fld h A 2 = 0 ∧ fld h A 1 = -2) ∨ (∃ n : Nat, sh h (fld h A 1) = some (25, n) ∧ fld h A 2 = n ∧ 0 < n ∧ ∀ i, i < n → ∃ q, sh h (fld h (fld h A 1) i) = some (zKd A, q))) (hl : h.length ≤ 2000000000) : zwC sc 4 228 [(2, (A : Int))] h (zwRt 2 (zGrown h A)) := by
  have hb := zLis_b C hA
  have hz := zmx_le A
  have hs := zLis_sh C hA
  refine zwC_of (D := 3) 1 (by decide +kernel) rfl (ls := [(2, (A : Int))]) rfl ?_
  refine zwW_p [(1, 0, 2), (1, 0, 2)] (q := 2) (ls' := [(2, (A : Int))]) (st' := [(2, (A : Int)), (2, (A : Int))]) (by decide +kernel) rfl ?_
  refine zwW_get (kd := 0) (bn := 2) (t := 0) (n := 3) (nx := 5) (by decide +kernel) hs rfl ?_
  refine zwW_p [(0, 1, 0)] (q := 6) (ls' := [(2, (A : Int))]) (st' := [(0, 1), (0, fld h A 2), (2, (A : Int))]) (by decide +kernel) rfl ?_
  refine zwW_add (nx := 7) (by decide +kernel) (by omega) ?_
  refine zwW_cv (op := 60) (k' := 257) (n := 1) (kd := 0) (m := 3) (nx := 10) (r := (A : Int)) (tl := [(0, fld h A 2 + 1)]) (st' := []) (by decide +kernel) rfl (by decide +kernel) hs (x257 C hA hf hl) rfl ?_
  rintro x g hq
  exact zwW_ret (nx := 11) (a := 0) (b := 2) (by decide +kernel) rfl (Or.inl rfl) hq
end ZA
