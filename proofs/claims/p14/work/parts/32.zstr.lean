/-! texts, statics, calls of Strings; the names' table -/
section ZS
variable {sc : List Int} {D D' y pc nx : Nat} {ls st st' as : List Vl} {h h' h1 h2 : Hp} {Q : Option Vl → Hp → Prop}
/-- the bytes of a String constant -/
def zby (w : Int) : List Int := stxt.getD (-10 - w).toNat []
theorem zby_txt {w : Int} (hw : -33 < w ∧ w ≤ -10) : txt stxt (w - 90) = some (zby w) := by
  unfold txt zby
  rw [if_pos (by omega), show (-100 - (w - 90)).toNat = (-10 - w).toNat by omega, List.getD_eq_getElem?_getD]
  have hl : stxt.length = 23 := by decide +kernel
  rw [List.getElem?_eq_getElem (by omega)]
  rfl
theorem zby_ok : ∀ l ∈ stxt, ∀ b ∈ l, i_and b 255 % 65536 = b ∧ 0 ≤ b ∧ b ≤ 127 := by decide +kernel
theorem zby_len : ∀ l ∈ stxt, l.length ≤ 200 := by decide +kernel
theorem zby_mem {w : Int} (hw : -33 < w ∧ w ≤ -10) : zby w ∈ stxt := by
  have hl : stxt.length = 23 := by decide +kernel
  unfold zby
  rw [List.getD_eq_getElem?_getD, List.getElem?_eq_getElem (by omega)]
  exact List.getElem_mem _
theorem zby_le {w : Int} (hw : -33 < w ∧ w ≤ -10) : (zby w).length ≤ 200 := zby_len _ (zby_mem hw)
theorem zby_at {w : Int} (hw : -33 < w ∧ w ≤ -10) {i : Nat} (hi : i < (zby w).length) : i_and ((zby w).getD i 0) 255 % 65536 = (zby w).getD i 0 ∧ 0 ≤ (zby w).getD i 0 ∧ (zby w).getD i 0 ≤ 127 := by
  refine zby_ok _ (zby_mem hw) _ ?_
  rw [List.getD_eq_getElem?_getD, List.getElem?_eq_getElem hi]
  exact List.getElem_mem _
theorem zwW_sval {w : Int} (e : zwat y pc 33 nx 0 0 = true) (hw : -33 < w ∧ w ≤ -10) (k : zwW sc D y nx ls ((2, w - 90) :: st) h Q) : zwW sc D y pc ls ((2, w) :: st) h Q := by
  refine zwW_r1 e (by decide) (by decide) (show (if w ≤ -10 ∧ -33 < w then (if (0 : Int) = 0 then some ((2, w - 90) :: st) else some ((0, 0) :: st)) else none) = _ from ?_) k
  rw [if_pos ⟨hw.2, hw.1⟩, if_pos rfl]
theorem zwW_scod {w : Int} (e : zwat y pc 33 nx 0 1 = true) (hw : -33 < w ∧ w ≤ -10) (k : zwW sc D y nx ls ((0, 0) :: st) h Q) : zwW sc D y pc ls ((2, w) :: st) h Q := by
  refine zwW_r1 e (by decide) (by decide) (show (if w ≤ -10 ∧ -33 < w then (if (1 : Int) = 0 then some ((2, w - 90) :: st) else some ((0, 0) :: st)) else none) = _ from ?_) k
  rw [if_pos ⟨hw.2, hw.1⟩, if_neg (by decide)]
theorem zwW_gs0 (e : zwat y pc 38 nx 0 0 = true) (k : zwW sc D y nx ls ((0, 1) :: st) h Q) : zwW sc D y pc ls st h Q := zwW_r1 e (by decide) (by decide) rfl k
theorem zwW_gs1 (e : zwat y pc 38 nx 1 0 = true) (k : zwW sc D y nx ls ((2, -3) :: st) h Q) : zwW sc D y pc ls st h Q := zwW_r1 e (by decide) (by decide) rfl k
theorem zwW_ldcl (e : zwat y pc 39 nx 0 0 = true) (k : zwW sc D y nx ls ((2, -4) :: st) h Q) : zwW sc D y pc ls st h Q := zwW_r1 e (by decide) (by decide) rfl k
theorem zwW_gcls {r : Int} {n : Nat} (e : zwat y pc 39 nx 1 0 = true) (s : sh h r = some (25, n)) (hw : Nat.ble (wds st) 8 = true) (k : zwW sc D y nx ls ((2, -4) :: st) h Q) : zwW sc D y pc ls ((2, r) :: st) h Q := by
  obtain ⟨l, hc, -⟩ := sh_cel s
  refine zwW_r1 e (by decide) (by decide) (show (if (1 : Int) = 0 then some ((2, -4) :: (2, r) :: st) else (match cel h r with
      | some (kd, _) => if kd = 25 ∧ wds st ≤ 8 then some ((2, -4) :: st) else none
      | none => none)) = _ from ?_) k
  rw [if_neg (by decide), hc]
  dsimp only
  rw [if_pos ⟨rfl, Nat.le_of_ble_eq_true hw⟩]
theorem zwW_tlen {w r : Int} (e : zwat y pc 31 nx 0 0 = true) (hr : r = w - 90) (hw : -33 < w ∧ w ≤ -10) (k : zwW sc D y nx ls ((0, ((zby w).length : Int)) :: st) h Q) : zwW sc D y pc ls ((2, r) :: st) h Q := by
  subst hr
  refine zwW_r1 e (by decide) (by decide) (show (if w - 90 = -1 then some ((0, (sc.length : Int)) :: st) else if w - 90 = -2 then some ((0, 0) :: st) else if w - 90 ≤ -100 then (match txt stxt (w - 90) with
        | some l => some ((0, (l.length : Int)) :: st)
        | none => none)
      else _) = _ from ?_) k
  rw [if_neg (by omega), if_neg (by omega), if_pos (by omega), zby_txt hw]
theorem zwW_tld {w r i : Int} (e : zwat y pc 32 nx 21 0 = true) (hr : r = w - 90) (hw : -33 < w ∧ w ≤ -10) (hi : 0 ≤ i ∧ i < (zby w).length) (k : zwW sc D y nx ls ((0, (zby w).getD i.toNat 0) :: st) h Q) : zwW sc D y pc ls ((0, i) :: (2, r) :: st) h Q := by
  subst hr
  refine zwW_r1 e (by decide) (by decide) (show (if i < 0 then none else if w - 90 = -1 then (if (21 : Int) = 20 then (match sc[i.toNat]? with
        | some x => some ((0, x) :: st)
        | none => none) else none) else if w - 90 ≤ -100 then (if (21 : Int) = 21 then (match txt stxt (w - 90) with
        | some l => (match l[i.toNat]? with
          | some x => some ((0, x) :: st)
          | none => none)
        | none => none) else none) else _) = _ from ?_) k
  rw [if_neg (by omega), if_neg (by omega), if_pos (by omega), if_pos rfl, zby_txt hw]
  dsimp only
  rw [List.getD_eq_getElem?_getD, List.getElem?_eq_getElem (by omega)]
  rfl
theorem rcv_str {op : Nat} {w : Int} {t : List Vl} (hw : -33 < w ∧ w ≤ -10) : rcv op 98 h ((2, w) :: t) := Or.inr (Or.inr ⟨rfl, w, t, rfl, hw.2, hw.1⟩)
/-- a method of a String -/
theorem zwW_cst {op k' n t : Nat} {w : Int} {tl : List Vl} {R : Int → Hp → Prop} (e : zkCall y pc nx op k' n = true) (hp : popA op (n : Int) st = some ((2, w) :: tl, st')) (hk : Nat.beq (mK k') 98 = true) (hw : -33 < w ∧ w ≤ -10) (hD : Nat.ble D' D = true) (C : zwC sc D' k' ((2, w) :: tl) h (zwRt t R)) (k : ∀ x h', R x h' → zwW sc D y nx ls ((t, x) :: st') h' Q) : zwW sc D y pc ls st h Q := by
  obtain ⟨e, h1, h2⟩ := zkCall_of e
  have hk := Nat.eq_of_beq_eq_true hk
  exact zwW_c1 e h1 h2 hp (by rw [hk]; exact rcv_str hw) C (Nat.le_of_ble_eq_true hD) (fun r h' hq => by
    obtain ⟨x, rfl, hq⟩ := hq
    exact k x h' hq)
/-- the words in the model's tables -/
theorem zI.wd5 (I : zI h) {k : Int} (hk : 0 ≤ k ∧ k < 5) : fld h 166 k.toNat = -12 - k := by
  have e : k = 0 ∨ k = 1 ∨ k = 2 ∨ k = 3 ∨ k = 4 := by omega
  rcases e with rfl | rfl | rfl | rfl | rfl
  · have := I.b (a1 := 166) (a2 := 166) (j1 := 0) (j2 := 1) (lo := -12) (hi := -12) (by decide +kernel) (r := 166) (j := 0) (by decide) (by decide) (by decide) (by decide); show fld h 166 0 = _; omega
  · have := I.b (a1 := 166) (a2 := 166) (j1 := 1) (j2 := 2) (lo := -13) (hi := -13) (by decide +kernel) (r := 166) (j := 1) (by decide) (by decide) (by decide) (by decide); show fld h 166 1 = _; omega
  · have := I.b (a1 := 166) (a2 := 166) (j1 := 2) (j2 := 3) (lo := -14) (hi := -14) (by decide +kernel) (r := 166) (j := 2) (by decide) (by decide) (by decide) (by decide); show fld h 166 2 = _; omega
  · have := I.b (a1 := 166) (a2 := 166) (j1 := 3) (j2 := 4) (lo := -15) (hi := -15) (by decide +kernel) (r := 166) (j := 3) (by decide) (by decide) (by decide) (by decide); show fld h 166 3 = _; omega
  · have := I.b (a1 := 166) (a2 := 166) (j1 := 4) (j2 := 5) (lo := -16) (hi := -16) (by decide +kernel) (r := 166) (j := 4) (by decide) (by decide) (by decide) (by decide); show fld h 166 4 = _; omega
theorem zI.wd13 (I : zI h) {k : Int} (hk : 0 ≤ k ∧ k < 13) : fld h 167 k.toNat = -17 - k := by
  have e : k = 0 ∨ k = 1 ∨ k = 2 ∨ k = 3 ∨ k = 4 ∨ k = 5 ∨ k = 6 ∨ k = 7 ∨ k = 8 ∨ k = 9 ∨ k = 10 ∨ k = 11 ∨ k = 12 := by omega
  rcases e with rfl | rfl | rfl | rfl | rfl | rfl | rfl | rfl | rfl | rfl | rfl | rfl | rfl
  · have := I.b (a1 := 167) (a2 := 167) (j1 := 0) (j2 := 1) (lo := -17) (hi := -17) (by decide +kernel) (r := 167) (j := 0) (by decide) (by decide) (by decide) (by decide); show fld h 167 0 = _; omega
  · have := I.b (a1 := 167) (a2 := 167) (j1 := 1) (j2 := 2) (lo := -18) (hi := -18) (by decide +kernel) (r := 167) (j := 1) (by decide) (by decide) (by decide) (by decide); show fld h 167 1 = _; omega
  · have := I.b (a1 := 167) (a2 := 167) (j1 := 2) (j2 := 3) (lo := -19) (hi := -19) (by decide +kernel) (r := 167) (j := 2) (by decide) (by decide) (by decide) (by decide); show fld h 167 2 = _; omega
  · have := I.b (a1 := 167) (a2 := 167) (j1 := 3) (j2 := 4) (lo := -20) (hi := -20) (by decide +kernel) (r := 167) (j := 3) (by decide) (by decide) (by decide) (by decide); show fld h 167 3 = _; omega
  · have := I.b (a1 := 167) (a2 := 167) (j1 := 4) (j2 := 5) (lo := -21) (hi := -21) (by decide +kernel) (r := 167) (j := 4) (by decide) (by decide) (by decide) (by decide); show fld h 167 4 = _; omega
  · have := I.b (a1 := 167) (a2 := 167) (j1 := 5) (j2 := 6) (lo := -22) (hi := -22) (by decide +kernel) (r := 167) (j := 5) (by decide) (by decide) (by decide) (by decide); show fld h 167 5 = _; omega
  · have := I.b (a1 := 167) (a2 := 167) (j1 := 6) (j2 := 7) (lo := -23) (hi := -23) (by decide +kernel) (r := 167) (j := 6) (by decide) (by decide) (by decide) (by decide); show fld h 167 6 = _; omega
  · have := I.b (a1 := 167) (a2 := 167) (j1 := 7) (j2 := 8) (lo := -24) (hi := -24) (by decide +kernel) (r := 167) (j := 7) (by decide) (by decide) (by decide) (by decide); show fld h 167 7 = _; omega
  · have := I.b (a1 := 167) (a2 := 167) (j1 := 8) (j2 := 9) (lo := -25) (hi := -25) (by decide +kernel) (r := 167) (j := 8) (by decide) (by decide) (by decide) (by decide); show fld h 167 8 = _; omega
  · have := I.b (a1 := 167) (a2 := 167) (j1 := 9) (j2 := 10) (lo := -26) (hi := -26) (by decide +kernel) (r := 167) (j := 9) (by decide) (by decide) (by decide) (by decide); show fld h 167 9 = _; omega
  · have := I.b (a1 := 167) (a2 := 167) (j1 := 10) (j2 := 11) (lo := -27) (hi := -27) (by decide +kernel) (r := 167) (j := 10) (by decide) (by decide) (by decide) (by decide); show fld h 167 10 = _; omega
  · have := I.b (a1 := 167) (a2 := 167) (j1 := 11) (j2 := 12) (lo := -28) (hi := -28) (by decide +kernel) (r := 167) (j := 11) (by decide) (by decide) (by decide) (by decide); show fld h 167 11 = _; omega
  · have := I.b (a1 := 167) (a2 := 167) (j1 := 12) (j2 := 13) (lo := -29) (hi := -29) (by decide +kernel) (r := 167) (j := 12) (by decide) (by decide) (by decide) (by decide); show fld h 167 12 = _; omega
theorem zwW_wd5 (I : zI h) {i : Int} (e : zwat y pc 32 nx 24 0 = true) (hi : 0 ≤ i ∧ i < 5) (k : zwW sc D y nx ls ((2, -12 - i) :: st) h Q) : zwW sc D y pc ls ((0, i) :: (2, 166) :: st) h Q :=
  zwW_ald e (I.s (a1 := 166) (a2 := 166) (k := 28) (n := 5) (by decide +kernel) (by decide) (by decide)) (t := 2) rfl hi.1 (by omega) (by rw [I.wd5 hi]; exact k)
theorem zwW_wd13 (I : zI h) {i : Int} (e : zwat y pc 32 nx 24 0 = true) (hi : 0 ≤ i ∧ i < 13) (k : zwW sc D y nx ls ((2, -17 - i) :: st) h Q) : zwW sc D y pc ls ((0, i) :: (2, 167) :: st) h Q :=
  zwW_ald e (I.s (a1 := 167) (a2 := 167) (k := 28) (n := 13) (by decide +kernel) (by decide) (by decide)) (t := 2) rfl hi.1 (by omega) (by rw [I.wd13 hi]; exact k)
end ZS
