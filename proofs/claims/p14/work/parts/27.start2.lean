/-! the start: what stands in the heap -/
section ST2
def gvL : List Cond := flatC (Jvm.Cond.and given_1 narrow_1)
def tmS (i : Nat) : Term := .string (sref.getD i ("", 0, "")).1 (sref.getD i ("", 0, "")).2.1
def fvS (i : Nat) : Term := .field (tmS i) "java/lang/String" "value" "[B"
def blkS (j : Nat) : List Cond := [.exactly (tmS j) "java/lang/String", .eq (.field (tmS j) "java/lang/String" "coder" "B") (.int 0), .arrayOf (fvS j) .byte, .eq (.length (fvS j)) (.int (Int32.ofNat (slen.getD j 0)))] ++ ((List.range (slen.getD j 0)).map (fun k => .eq (.elem (fvS j) (.int (Int32.ofNat k))) (.int ((sbyt.getD j []).getD k 0))) ++ (List.range j).map (fun i => .not (.eq (tmS i) (tmS j))))
set_option maxRecDepth 1000000 in
theorem gv_blk : gvL.drop 28 = (List.range 23).flatMap blkS := by decide +kernel
theorem gv_in {j : Nat} (hj : j < 23) {w : Cond} (hw : w ∈ blkS j) : w ∈ gvL := by
  have h : w ∈ gvL.drop 28 := by
    rw [gv_blk]
    exact List.mem_flatMap.mpr ⟨j, List.mem_range.mpr hj, hw⟩
  exact List.mem_of_mem_drop h
variable {s : State} {args : Array Value} {A : Nat → Prop}
theorem st_strings (hg : ∀ w ∈ gvL, w.before args s = true) (hA : ∀ a : Nat, a < s.heap.size → ¬ A a) : ∃ adK adV : Nat → Nat, vk_S 23 slen sbyt adK adV A s s.heap ∧ ∀ i : Nat, i < 23 → (tmS i).eval args s none [] s = some (.ref (adK i)) := by
  refine vk_Sof (N := 23) (tm := tmS) (len := slen) (byt := sbyt) (fun i hi => ?_) (fun i hi => hg _ (gv_in hi ?_)) (fun i hi => hg _ (gv_in hi ?_)) (fun i hi => hg _ (gv_in hi ?_)) (fun i hi => hg _ (gv_in hi ?_)) (fun i hi j hj => hg _ (gv_in hi ?_)) (fun i j hi hj hij => ?_) hA
  · have : ∀ i : Nat, i < 23 → slen.getD i 0 < 2 ^ 31 := by decide +kernel
    exact this i hi
  · simp [blkS]
  · simp [blkS]
  · simp [blkS, fvS]
  · simp [blkS, fvS]
  · unfold blkS
    exact List.mem_append_right _ (List.mem_append_left _ (List.mem_map.mpr ⟨j, List.mem_range.mpr hj, rfl⟩))
  · have hin : ∀ {i j : Nat}, j < 23 → i < j → (Cond.not (Cond.eq (tmS i) (tmS j))).before args s = true := fun {i j} hj h => hg _ (gv_in hj (by
      unfold blkS
      exact List.mem_append_right _ (List.mem_append_right _ (List.mem_map.mpr ⟨i, List.mem_range.mpr h, rfl⟩))))
    by_cases h : i < j
    · exact Or.inl (hin hj h)
    · exact Or.inr (hin hi (by omega))
def dTm : Term := .static "java/util/ArrayList" dfN dfD
set_option maxRecDepth 1000000 in
theorem gv_7 : gvL[5]? = some (.arrayOf dTm (.object "java/lang/Object")) ∧ gvL[7]? = some (.eq (.length dTm) (.int 0)) := by decide +kernel
theorem st_empty (hts : ∀ w ∈ lw_tbl, w.before args s = true) (hg : ∀ w ∈ gvL, w.before args s = true) (hA : ∀ a : Nat, a < s.heap.size → ¬ A a) : ∃ t : Nat, va_Z RJx4a65c dfN dfD (.ref t) A s s.heap ∧ va_T (.object "java/lang/Object") t 0 (fun _ => .null) A s s.heap := by
  obtain ⟨t, ht, hT⟩ := va_Tof (tm := dTm) (ty := .object "java/lang/Object") (N := 0) (f := fun _ => .null) (A := A) (by decide) (hg _ (List.mem_of_getElem? gv_7.1)) (va_eqt (hg _ (List.mem_of_getElem? gv_7.2))) (fun j hj => absurd hj (Nat.not_lt_zero j)) hA
  exact ⟨t, va_Zof (hts (.laysStatic "java/util/ArrayList" dfN dfD) (wAt_mem (i := 149) (by decide +kernel))) (hts (.initialized "java/util/ArrayList") (wAt_mem (i := 104) (by decide +kernel))) ht hA, hT⟩
def ixS : List Nat := [945, 1005, 1455, 1456, 1457, 1458, 1459, 1460, 1461, 1462, 1463, 1464, 1465, 1466, 1467, 1468, 1469, 1470, 1471, 1472, 1919, 1920, 1921]
set_option maxRecDepth 1000000 in
theorem ix_all : ∀ i, i < 23 → wAt (ixS.getD i 0) = some (.stringRef (sref.getD i ("", 0, "")).1 (sref.getD i ("", 0, "")).2.1 (sref.getD i ("", 0, "")).2.2) := by decide +kernel
/-- where the references lie at the start -/
def rf0 (b t : Nat) (f3 : Option Nat) (m4 : Nat) (adK adV : Nat → Nat) : Int → Option Nat := fun x => if x = -3 then f3 else if x = -4 then some m4 else if x = -1 then some b else if x = -2 then some t else if -33 < x ∧ x ≤ -10 then some (adK (-10 - x).toNat) else if -123 < x ∧ x ≤ -100 then some (adV (-100 - x).toNat) else none
theorem st_all {b L : Nat} {xs : Nat → Int32} (hL : L ≤ 100000) (htb : ∀ w ∈ lw_tbl, w.before args s = true) (hg : ∀ w ∈ gvL, w.before args s = true) (hX : va_X b L xs s s.heap) (hb : b < s.heap.size) : ∃ rf : Int → Option Nat, rf (-1) = some b ∧ Stt s.heap.size rf ((List.range L).map (fun j => (xs j).toInt)) s := by
  have hA : ∀ a : Nat, a < s.heap.size → ¬ A0 s.heap.size a := fun a h1 h2 => Nat.not_le_of_lt h1 h2
  obtain ⟨adK, adV, h1, h2⟩ := st_strings (A := A0 s.heap.size) hg hA
  obtain ⟨t, h3, h4⟩ := st_empty (A := A0 s.heap.size) htb hg hA
  have gv8 : gvL[8]? = some (.eq (.static "java/lang/String" "COMPACT_STRINGS" "Z") (.int 1)) ∧ gvL[9]? = some (.isRef (.static "jdk/internal/util/Preconditions" "SIOOBE_FORMATTER" "Ljava/util/function/BiFunction;")) ∧ gvL[27]? = some (.isRef (.mirror "[Ljava/lang/Object;")) := by decide +kernel
  have z1 : va_Z "java/lang/String" "COMPACT_STRINGS" "Z" (.int 1) (A0 s.heap.size) s s.heap := va_Zof (htb (.laysStatic "java/lang/String" "COMPACT_STRINGS" "Z") (wAt_mem (i := 955) (by decide +kernel))) (htb (.initialized "java/lang/String") (wAt_mem (i := 121) (by decide +kernel))) (va_eqi (hg _ (List.mem_of_getElem? gv8.1))) hA
  obtain ⟨f3, z2⟩ : ∃ f3 : Option Nat, va_Z "jdk/internal/util/Preconditions" "SIOOBE_FORMATTER" "Ljava/util/function/BiFunction;" (va_rf f3) (A0 s.heap.size) s s.heap := by
    rcases va_Zqof (htb (.laysStatic "jdk/internal/util/Preconditions" "SIOOBE_FORMATTER" "Ljava/util/function/BiFunction;") (wAt_mem (i := 971) (by decide +kernel))) (htb (.initialized "jdk/internal/util/Preconditions") (wAt_mem (i := 118) (by decide +kernel))) (hg _ (List.mem_of_getElem? gv8.2.1)) hA with z | ⟨q, z⟩
    · exact ⟨none, z⟩
    · exact ⟨some q, z⟩
  obtain ⟨m4, z3⟩ := va_Mi.of (hg _ (List.mem_of_getElem? gv8.2.2))
  have z4 : va_Dc s := va_Dc.of (htb _ (wAt_mem (i := 2206) (w := .declares ⟨"java/lang/Object", "getClass", "()Ljava/lang/Class;"⟩) (by decide +kernel)))
  have hlen : ((List.range L).map (fun j => (xs j).toInt)).length = L := by simp
  refine ⟨rf0 b t f3 m4 adK adV, rfl, Nat.le_refl _, rfl, ⟨t, rfl, h3, h4⟩, ⟨b, rfl, hb, ?_, ?_, by rw [hlen]; exact hL⟩, adK, adV, h1, fun i hi => ⟨?_, ?_⟩, fun i q hq => ?_, z1, z2, ⟨m4, rfl, z3⟩, z4⟩
  · obtain ⟨scr, k1, k2, k3, k4, k5⟩ := hX
    refine ⟨scr, k1, k2, k3, by rw [hlen]; exact k4, fun j hj => ?_⟩
    rw [hlen] at hj
    rw [k5 j hj]
    show _ = some (Value.int (Int32.ofInt (((List.range L).map (fun j => (xs j).toInt)).getD j 0)))
    rw [List.getD_eq_getElem?_getD, List.getElem?_map, List.getElem?_range hj]
    simp
  · intro x hx
    obtain ⟨j, -, rfl⟩ := List.mem_map.mp hx
    have h1 := (xs j).toInt_lt
    have h2 := (xs j).le_toInt
    unfold in32
    omega
  · unfold rf0
    rw [if_neg (by omega), if_neg (by omega), if_neg (by omega), if_neg (by omega), if_pos (by omega)]
    congr 2
    omega
  · unfold rf0
    rw [if_neg (by omega), if_neg (by omega), if_neg (by omega), if_neg (by omega), if_neg (by omega), if_pos (by omega)]
    congr 2
    omega
  · have hi : i < 23 := (List.getElem?_eq_some_iff.mp hq).1
    have e := ix_all i hi
    have e2 := h2 i hi
    unfold tmS at e2
    rw [List.getD_eq_getElem?_getD (l := sref), hq] at e e2
    exact vk_R.of (htb _ (wAt_mem e)) e2
end ST2
