/-! what stands outside the heap of the mini machine; instructions that don't see the heap -/
def A0 (base : Nat) : Nat → Prop := fun q => base ≤ q
def sref : List (String × Nat × String) := [("WheelLand$Reader", 125, "week season heads wheels skill caste other count strength hanks idle far price owe wage duty may stamp or and not "), ("WheelLand$Reader", 108, "+-*/()[]<>=;"), ("WheelLandModel", 141, "owe"), ("WheelLandModel", 143, "wage"), ("WheelLandModel", 145, "duty"), ("WheelLandModel", 147, "may"), ("WheelLandModel", 149, "stamp"), ("WheelLandModel", 155, "week"), ("WheelLandModel", 157, "season"), ("WheelLandModel", 159, "heads"), ("WheelLandModel", 160, "wheels"), ("WheelLandModel", 161, "skill"), ("WheelLandModel", 162, "caste"), ("WheelLandModel", 163, "other"), ("WheelLandModel", 165, "count"), ("WheelLandModel", 167, "strength"), ("WheelLandModel", 169, "hanks"), ("WheelLandModel", 171, "idle"), ("WheelLandModel", 172, "far"), ("WheelLandModel", 174, "price"), ("WheelLandModel", 392, "not"), ("WheelLandModel", 400, "and"), ("WheelLandModel", 405, "or")]
def stxt : List (List Int) := [[119, 101, 101, 107, 32, 115, 101, 97, 115, 111, 110, 32, 104, 101, 97, 100, 115, 32, 119, 104, 101, 101, 108, 115, 32, 115, 107, 105, 108, 108, 32, 99, 97, 115, 116, 101, 32, 111, 116, 104, 101, 114, 32, 99, 111, 117, 110, 116, 32, 115, 116, 114, 101, 110, 103, 116, 104, 32, 104, 97, 110, 107, 115, 32, 105, 100, 108, 101, 32, 102, 97, 114, 32, 112, 114, 105, 99, 101, 32, 111, 119, 101, 32, 119, 97, 103, 101, 32, 100, 117, 116, 121, 32, 109, 97, 121, 32, 115, 116, 97, 109, 112, 32, 111, 114, 32, 97, 110, 100, 32, 110, 111, 116, 32], [43, 45, 42, 47, 40, 41, 91, 93, 60, 62, 61, 59], [111, 119, 101], [119, 97, 103, 101], [100, 117, 116, 121], [109, 97, 121], [115, 116, 97, 109, 112], [119, 101, 101, 107], [115, 101, 97, 115, 111, 110], [104, 101, 97, 100, 115], [119, 104, 101, 101, 108, 115], [115, 107, 105, 108, 108], [99, 97, 115, 116, 101], [111, 116, 104, 101, 114], [99, 111, 117, 110, 116], [115, 116, 114, 101, 110, 103, 116, 104], [104, 97, 110, 107, 115], [105, 100, 108, 101], [102, 97, 114], [112, 114, 105, 99, 101], [110, 111, 116], [97, 110, 100], [111, 114]]
def slen : List Nat := stxt.map List.length
def sbyt : List (List Int32) := stxt.map (fun l => l.map Int32.ofInt)
abbrev dfN : String := "DEFAULTCAPACITY_EMPTY_ELEMENTDATA"
abbrev dfD : String := "[Ljava/lang/Object;"
def Stt (base : Nat) (rf : Int → Option Nat) (sc : List Int) (s : State) : Prop :=
  base ≤ s.heap.size ∧ rf 0 = none ∧
  (∃ t, rf (-2) = some t ∧ va_Z RJx4a65c dfN dfD (.ref t) (A0 base) s s.heap ∧ va_T (.object "java/lang/Object") t 0 (fun _ => .null) (A0 base) s s.heap) ∧
  (∃ b, rf (-1) = some b ∧ b < base ∧ va_X b sc.length (fun j => Int32.ofInt (sc.getD j 0)) s s.heap ∧ (∀ x ∈ sc, in32 x) ∧ sc.length ≤ 100000) ∧
  ∃ adK adV : Nat → Nat, vk_S 23 slen sbyt adK adV (A0 base) s s.heap ∧ (∀ i : Nat, i < 23 → rf (-10 - (i : Int)) = some (adK i) ∧ rf (-100 - (i : Int)) = some (adV i)) ∧ (∀ (i : Nat) (q : String × Nat × String), sref[i]? = some q → vk_R q.1 q.2.1 q.2.2 (adK i) s) ∧
  (va_Z "java/lang/String" "COMPACT_STRINGS" "Z" (.int 1) (A0 base) s s.heap ∧ va_Z "jdk/internal/util/Preconditions" "SIOOBE_FORMATTER" "Ljava/util/function/BiFunction;" (va_rf (rf (-3))) (A0 base) s s.heap ∧ (∃ mi, rf (-4) = some mi ∧ va_Mi "[Ljava/lang/Object;" mi s) ∧ va_Dc s)
def Cx (p : Program) (s : State) (m : MethodId) (args : Array Value) (c : Code) (cc : ByteArray) (nL : Nat) (own : String) : Prop :=
  p.tables.exec = Jvm.exec ∧ c.code = cc ∧ c.maxLocals = nL ∧ s.vm.findClass own = some m.cls ∧ ∀ w ∈ lw_use, w.before args s = true
def dq (cc : ByteArray) (pc : Nat) (i : Instr) (n : Nat) : Bool := zdq cc pc i n
/-- the table in pieces of 32: a place is found in few steps -/
def dr0 : List Cond := lw_tbl
theorem dm0 : ∀ w ∈ dr0, w ∈ lw_tbl := fun _ h => h
def dr1 : List Cond := dr0.drop 32
theorem dm1 : ∀ w ∈ dr1, w ∈ lw_tbl := fun w h => dm0 w (List.mem_of_mem_drop h)
def dr2 : List Cond := dr1.drop 32
theorem dm2 : ∀ w ∈ dr2, w ∈ lw_tbl := fun w h => dm1 w (List.mem_of_mem_drop h)
def dr3 : List Cond := dr2.drop 32
theorem dm3 : ∀ w ∈ dr3, w ∈ lw_tbl := fun w h => dm2 w (List.mem_of_mem_drop h)
def dr4 : List Cond := dr3.drop 32
theorem dm4 : ∀ w ∈ dr4, w ∈ lw_tbl := fun w h => dm3 w (List.mem_of_mem_drop h)
def dr5 : List Cond := dr4.drop 32
theorem dm5 : ∀ w ∈ dr5, w ∈ lw_tbl := fun w h => dm4 w (List.mem_of_mem_drop h)
def dr6 : List Cond := dr5.drop 32
theorem dm6 : ∀ w ∈ dr6, w ∈ lw_tbl := fun w h => dm5 w (List.mem_of_mem_drop h)
def dr7 : List Cond := dr6.drop 32
theorem dm7 : ∀ w ∈ dr7, w ∈ lw_tbl := fun w h => dm6 w (List.mem_of_mem_drop h)
def dr8 : List Cond := dr7.drop 32
theorem dm8 : ∀ w ∈ dr8, w ∈ lw_tbl := fun w h => dm7 w (List.mem_of_mem_drop h)
def dr9 : List Cond := dr8.drop 32
theorem dm9 : ∀ w ∈ dr9, w ∈ lw_tbl := fun w h => dm8 w (List.mem_of_mem_drop h)
def dr10 : List Cond := dr9.drop 32
theorem dm10 : ∀ w ∈ dr10, w ∈ lw_tbl := fun w h => dm9 w (List.mem_of_mem_drop h)
def dr11 : List Cond := dr10.drop 32
theorem dm11 : ∀ w ∈ dr11, w ∈ lw_tbl := fun w h => dm10 w (List.mem_of_mem_drop h)
def dr12 : List Cond := dr11.drop 32
theorem dm12 : ∀ w ∈ dr12, w ∈ lw_tbl := fun w h => dm11 w (List.mem_of_mem_drop h)
def dr13 : List Cond := dr12.drop 32
theorem dm13 : ∀ w ∈ dr13, w ∈ lw_tbl := fun w h => dm12 w (List.mem_of_mem_drop h)
def dr14 : List Cond := dr13.drop 32
theorem dm14 : ∀ w ∈ dr14, w ∈ lw_tbl := fun w h => dm13 w (List.mem_of_mem_drop h)
def dr15 : List Cond := dr14.drop 32
theorem dm15 : ∀ w ∈ dr15, w ∈ lw_tbl := fun w h => dm14 w (List.mem_of_mem_drop h)
def dr16 : List Cond := dr15.drop 32
theorem dm16 : ∀ w ∈ dr16, w ∈ lw_tbl := fun w h => dm15 w (List.mem_of_mem_drop h)
def dr17 : List Cond := dr16.drop 32
theorem dm17 : ∀ w ∈ dr17, w ∈ lw_tbl := fun w h => dm16 w (List.mem_of_mem_drop h)
def dr18 : List Cond := dr17.drop 32
theorem dm18 : ∀ w ∈ dr18, w ∈ lw_tbl := fun w h => dm17 w (List.mem_of_mem_drop h)
def dr19 : List Cond := dr18.drop 32
theorem dm19 : ∀ w ∈ dr19, w ∈ lw_tbl := fun w h => dm18 w (List.mem_of_mem_drop h)
def dr20 : List Cond := dr19.drop 32
theorem dm20 : ∀ w ∈ dr20, w ∈ lw_tbl := fun w h => dm19 w (List.mem_of_mem_drop h)
def dr21 : List Cond := dr20.drop 32
theorem dm21 : ∀ w ∈ dr21, w ∈ lw_tbl := fun w h => dm20 w (List.mem_of_mem_drop h)
def dr22 : List Cond := dr21.drop 32
theorem dm22 : ∀ w ∈ dr22, w ∈ lw_tbl := fun w h => dm21 w (List.mem_of_mem_drop h)
def dr23 : List Cond := dr22.drop 32
theorem dm23 : ∀ w ∈ dr23, w ∈ lw_tbl := fun w h => dm22 w (List.mem_of_mem_drop h)
def dr24 : List Cond := dr23.drop 32
theorem dm24 : ∀ w ∈ dr24, w ∈ lw_tbl := fun w h => dm23 w (List.mem_of_mem_drop h)
def dr25 : List Cond := dr24.drop 32
theorem dm25 : ∀ w ∈ dr25, w ∈ lw_tbl := fun w h => dm24 w (List.mem_of_mem_drop h)
def dr26 : List Cond := dr25.drop 32
theorem dm26 : ∀ w ∈ dr26, w ∈ lw_tbl := fun w h => dm25 w (List.mem_of_mem_drop h)
def dr27 : List Cond := dr26.drop 32
theorem dm27 : ∀ w ∈ dr27, w ∈ lw_tbl := fun w h => dm26 w (List.mem_of_mem_drop h)
def dr28 : List Cond := dr27.drop 32
theorem dm28 : ∀ w ∈ dr28, w ∈ lw_tbl := fun w h => dm27 w (List.mem_of_mem_drop h)
def dr29 : List Cond := dr28.drop 32
theorem dm29 : ∀ w ∈ dr29, w ∈ lw_tbl := fun w h => dm28 w (List.mem_of_mem_drop h)
def dr30 : List Cond := dr29.drop 32
theorem dm30 : ∀ w ∈ dr30, w ∈ lw_tbl := fun w h => dm29 w (List.mem_of_mem_drop h)
def dr31 : List Cond := dr30.drop 32
theorem dm31 : ∀ w ∈ dr31, w ∈ lw_tbl := fun w h => dm30 w (List.mem_of_mem_drop h)
def dr32 : List Cond := dr31.drop 32
theorem dm32 : ∀ w ∈ dr32, w ∈ lw_tbl := fun w h => dm31 w (List.mem_of_mem_drop h)
def dr33 : List Cond := dr32.drop 32
theorem dm33 : ∀ w ∈ dr33, w ∈ lw_tbl := fun w h => dm32 w (List.mem_of_mem_drop h)
def dr34 : List Cond := dr33.drop 32
theorem dm34 : ∀ w ∈ dr34, w ∈ lw_tbl := fun w h => dm33 w (List.mem_of_mem_drop h)
def dr35 : List Cond := dr34.drop 32
theorem dm35 : ∀ w ∈ dr35, w ∈ lw_tbl := fun w h => dm34 w (List.mem_of_mem_drop h)
def dr36 : List Cond := dr35.drop 32
theorem dm36 : ∀ w ∈ dr36, w ∈ lw_tbl := fun w h => dm35 w (List.mem_of_mem_drop h)
def dr37 : List Cond := dr36.drop 32
theorem dm37 : ∀ w ∈ dr37, w ∈ lw_tbl := fun w h => dm36 w (List.mem_of_mem_drop h)
def dr38 : List Cond := dr37.drop 32
theorem dm38 : ∀ w ∈ dr38, w ∈ lw_tbl := fun w h => dm37 w (List.mem_of_mem_drop h)
def dr39 : List Cond := dr38.drop 32
theorem dm39 : ∀ w ∈ dr39, w ∈ lw_tbl := fun w h => dm38 w (List.mem_of_mem_drop h)
def dr40 : List Cond := dr39.drop 32
theorem dm40 : ∀ w ∈ dr40, w ∈ lw_tbl := fun w h => dm39 w (List.mem_of_mem_drop h)
def dr41 : List Cond := dr40.drop 32
theorem dm41 : ∀ w ∈ dr41, w ∈ lw_tbl := fun w h => dm40 w (List.mem_of_mem_drop h)
def dr42 : List Cond := dr41.drop 32
theorem dm42 : ∀ w ∈ dr42, w ∈ lw_tbl := fun w h => dm41 w (List.mem_of_mem_drop h)
def dr43 : List Cond := dr42.drop 32
theorem dm43 : ∀ w ∈ dr43, w ∈ lw_tbl := fun w h => dm42 w (List.mem_of_mem_drop h)
def dr44 : List Cond := dr43.drop 32
theorem dm44 : ∀ w ∈ dr44, w ∈ lw_tbl := fun w h => dm43 w (List.mem_of_mem_drop h)
def dr45 : List Cond := dr44.drop 32
theorem dm45 : ∀ w ∈ dr45, w ∈ lw_tbl := fun w h => dm44 w (List.mem_of_mem_drop h)
def dr46 : List Cond := dr45.drop 32
theorem dm46 : ∀ w ∈ dr46, w ∈ lw_tbl := fun w h => dm45 w (List.mem_of_mem_drop h)
def dr47 : List Cond := dr46.drop 32
theorem dm47 : ∀ w ∈ dr47, w ∈ lw_tbl := fun w h => dm46 w (List.mem_of_mem_drop h)
def dr48 : List Cond := dr47.drop 32
theorem dm48 : ∀ w ∈ dr48, w ∈ lw_tbl := fun w h => dm47 w (List.mem_of_mem_drop h)
def dr49 : List Cond := dr48.drop 32
theorem dm49 : ∀ w ∈ dr49, w ∈ lw_tbl := fun w h => dm48 w (List.mem_of_mem_drop h)
def dr50 : List Cond := dr49.drop 32
theorem dm50 : ∀ w ∈ dr50, w ∈ lw_tbl := fun w h => dm49 w (List.mem_of_mem_drop h)
def dr51 : List Cond := dr50.drop 32
theorem dm51 : ∀ w ∈ dr51, w ∈ lw_tbl := fun w h => dm50 w (List.mem_of_mem_drop h)
def dr52 : List Cond := dr51.drop 32
theorem dm52 : ∀ w ∈ dr52, w ∈ lw_tbl := fun w h => dm51 w (List.mem_of_mem_drop h)
def dr53 : List Cond := dr52.drop 32
theorem dm53 : ∀ w ∈ dr53, w ∈ lw_tbl := fun w h => dm52 w (List.mem_of_mem_drop h)
def dr54 : List Cond := dr53.drop 32
theorem dm54 : ∀ w ∈ dr54, w ∈ lw_tbl := fun w h => dm53 w (List.mem_of_mem_drop h)
def dr55 : List Cond := dr54.drop 32
theorem dm55 : ∀ w ∈ dr55, w ∈ lw_tbl := fun w h => dm54 w (List.mem_of_mem_drop h)
def dr56 : List Cond := dr55.drop 32
theorem dm56 : ∀ w ∈ dr56, w ∈ lw_tbl := fun w h => dm55 w (List.mem_of_mem_drop h)
def dr57 : List Cond := dr56.drop 32
theorem dm57 : ∀ w ∈ dr57, w ∈ lw_tbl := fun w h => dm56 w (List.mem_of_mem_drop h)
def dr58 : List Cond := dr57.drop 32
theorem dm58 : ∀ w ∈ dr58, w ∈ lw_tbl := fun w h => dm57 w (List.mem_of_mem_drop h)
def dr59 : List Cond := dr58.drop 32
theorem dm59 : ∀ w ∈ dr59, w ∈ lw_tbl := fun w h => dm58 w (List.mem_of_mem_drop h)
def dr60 : List Cond := dr59.drop 32
theorem dm60 : ∀ w ∈ dr60, w ∈ lw_tbl := fun w h => dm59 w (List.mem_of_mem_drop h)
def dr61 : List Cond := dr60.drop 32
theorem dm61 : ∀ w ∈ dr61, w ∈ lw_tbl := fun w h => dm60 w (List.mem_of_mem_drop h)
def dr62 : List Cond := dr61.drop 32
theorem dm62 : ∀ w ∈ dr62, w ∈ lw_tbl := fun w h => dm61 w (List.mem_of_mem_drop h)
def dr63 : List Cond := dr62.drop 32
theorem dm63 : ∀ w ∈ dr63, w ∈ lw_tbl := fun w h => dm62 w (List.mem_of_mem_drop h)
def dr64 : List Cond := dr63.drop 32
theorem dm64 : ∀ w ∈ dr64, w ∈ lw_tbl := fun w h => dm63 w (List.mem_of_mem_drop h)
def dr65 : List Cond := dr64.drop 32
theorem dm65 : ∀ w ∈ dr65, w ∈ lw_tbl := fun w h => dm64 w (List.mem_of_mem_drop h)
def dr66 : List Cond := dr65.drop 32
theorem dm66 : ∀ w ∈ dr66, w ∈ lw_tbl := fun w h => dm65 w (List.mem_of_mem_drop h)
def dr67 : List Cond := dr66.drop 32
theorem dm67 : ∀ w ∈ dr67, w ∈ lw_tbl := fun w h => dm66 w (List.mem_of_mem_drop h)
def dr68 : List Cond := dr67.drop 32
theorem dm68 : ∀ w ∈ dr68, w ∈ lw_tbl := fun w h => dm67 w (List.mem_of_mem_drop h)
def dr69 : List Cond := dr68.drop 32
theorem dm69 : ∀ w ∈ dr69, w ∈ lw_tbl := fun w h => dm68 w (List.mem_of_mem_drop h)
def dr70 : List Cond := dr69.drop 32
theorem dm70 : ∀ w ∈ dr70, w ∈ lw_tbl := fun w h => dm69 w (List.mem_of_mem_drop h)
def drT : List (List Cond) := [dr0, dr1, dr2, dr3, dr4, dr5, dr6, dr7, dr8, dr9, dr10, dr11, dr12, dr13, dr14, dr15, dr16, dr17, dr18, dr19, dr20, dr21, dr22, dr23, dr24, dr25, dr26, dr27, dr28, dr29, dr30, dr31, dr32, dr33, dr34, dr35, dr36, dr37, dr38, dr39, dr40, dr41, dr42, dr43, dr44, dr45, dr46, dr47, dr48, dr49, dr50, dr51, dr52, dr53, dr54, dr55, dr56, dr57, dr58, dr59, dr60, dr61, dr62, dr63, dr64, dr65, dr66, dr67, dr68, dr69, dr70]
theorem drT_mem : ∀ l ∈ drT, ∀ w ∈ l, w ∈ lw_tbl := (List.forall_mem_cons.mpr ⟨dm0, (List.forall_mem_cons.mpr ⟨dm1, (List.forall_mem_cons.mpr ⟨dm2, (List.forall_mem_cons.mpr ⟨dm3, (List.forall_mem_cons.mpr ⟨dm4, (List.forall_mem_cons.mpr ⟨dm5, (List.forall_mem_cons.mpr ⟨dm6, (List.forall_mem_cons.mpr ⟨dm7, (List.forall_mem_cons.mpr ⟨dm8, (List.forall_mem_cons.mpr ⟨dm9, (List.forall_mem_cons.mpr ⟨dm10, (List.forall_mem_cons.mpr ⟨dm11, (List.forall_mem_cons.mpr ⟨dm12, (List.forall_mem_cons.mpr ⟨dm13, (List.forall_mem_cons.mpr ⟨dm14, (List.forall_mem_cons.mpr ⟨dm15, (List.forall_mem_cons.mpr ⟨dm16, (List.forall_mem_cons.mpr ⟨dm17, (List.forall_mem_cons.mpr ⟨dm18, (List.forall_mem_cons.mpr ⟨dm19, (List.forall_mem_cons.mpr ⟨dm20, (List.forall_mem_cons.mpr ⟨dm21, (List.forall_mem_cons.mpr ⟨dm22, (List.forall_mem_cons.mpr ⟨dm23, (List.forall_mem_cons.mpr ⟨dm24, (List.forall_mem_cons.mpr ⟨dm25, (List.forall_mem_cons.mpr ⟨dm26, (List.forall_mem_cons.mpr ⟨dm27, (List.forall_mem_cons.mpr ⟨dm28, (List.forall_mem_cons.mpr ⟨dm29, (List.forall_mem_cons.mpr ⟨dm30, (List.forall_mem_cons.mpr ⟨dm31, (List.forall_mem_cons.mpr ⟨dm32, (List.forall_mem_cons.mpr ⟨dm33, (List.forall_mem_cons.mpr ⟨dm34, (List.forall_mem_cons.mpr ⟨dm35, (List.forall_mem_cons.mpr ⟨dm36, (List.forall_mem_cons.mpr ⟨dm37, (List.forall_mem_cons.mpr ⟨dm38, (List.forall_mem_cons.mpr ⟨dm39, (List.forall_mem_cons.mpr ⟨dm40, (List.forall_mem_cons.mpr ⟨dm41, (List.forall_mem_cons.mpr ⟨dm42, (List.forall_mem_cons.mpr ⟨dm43, (List.forall_mem_cons.mpr ⟨dm44, (List.forall_mem_cons.mpr ⟨dm45, (List.forall_mem_cons.mpr ⟨dm46, (List.forall_mem_cons.mpr ⟨dm47, (List.forall_mem_cons.mpr ⟨dm48, (List.forall_mem_cons.mpr ⟨dm49, (List.forall_mem_cons.mpr ⟨dm50, (List.forall_mem_cons.mpr ⟨dm51, (List.forall_mem_cons.mpr ⟨dm52, (List.forall_mem_cons.mpr ⟨dm53, (List.forall_mem_cons.mpr ⟨dm54, (List.forall_mem_cons.mpr ⟨dm55, (List.forall_mem_cons.mpr ⟨dm56, (List.forall_mem_cons.mpr ⟨dm57, (List.forall_mem_cons.mpr ⟨dm58, (List.forall_mem_cons.mpr ⟨dm59, (List.forall_mem_cons.mpr ⟨dm60, (List.forall_mem_cons.mpr ⟨dm61, (List.forall_mem_cons.mpr ⟨dm62, (List.forall_mem_cons.mpr ⟨dm63, (List.forall_mem_cons.mpr ⟨dm64, (List.forall_mem_cons.mpr ⟨dm65, (List.forall_mem_cons.mpr ⟨dm66, (List.forall_mem_cons.mpr ⟨dm67, (List.forall_mem_cons.mpr ⟨dm68, (List.forall_mem_cons.mpr ⟨dm69, (List.forall_mem_cons.mpr ⟨dm70, (fun _ h => absurd h List.not_mem_nil)⟩)⟩)⟩)⟩)⟩)⟩)⟩)⟩)⟩)⟩)⟩)⟩)⟩)⟩)⟩)⟩)⟩)⟩)⟩)⟩)⟩)⟩)⟩)⟩)⟩)⟩)⟩)⟩)⟩)⟩)⟩)⟩)⟩)⟩)⟩)⟩)⟩)⟩)⟩)⟩)⟩)⟩)⟩)⟩)⟩)⟩)⟩)⟩)⟩)⟩)⟩)⟩)⟩)⟩)⟩)⟩)⟩)⟩)⟩)⟩)⟩)⟩)⟩)⟩)⟩)⟩)⟩)⟩)⟩)⟩)⟩)
def wAt (i : Nat) : Option Cond := match drT[i / 32]? with
  | some l => l[i % 32]?
  | none => none
theorem wAt_mem {i : Nat} {w : Cond} (h : wAt i = some w) : w ∈ lw_tbl := by
  unfold wAt at h
  cases hl : drT[i / 32]? with
  | none => rw [hl] at h; cases h
  | some l =>
    rw [hl] at h
    exact drT_mem l (List.mem_of_getElem? hl) w (List.mem_of_getElem? h)
def wq (i : Nat) (w : Cond) : Bool := decide (wAt i = some w) && usable w
theorem dq_of {cc : ByteArray} {pc : Nat} {i : Instr} {n : Nat} (h : dq cc pc i n = true) : decode cc pc = .ok (i, n) := zdq_of h
theorem wq_of {i : Nat} {w : Cond} (h : wq i w = true) : w ∈ lw_use := by
  unfold wq at h
  rw [Bool.and_eq_true] at h
  exact List.mem_filter.mpr ⟨wAt_mem (of_decide_eq_true h.1), h.2⟩
/-- bytes compared in one pass -/
def lq : List UInt8 → List UInt8 → Bool
  | [], [] => true
  | a :: r, b :: q => Nat.beq a.toNat b.toNat && lq r q
  | _, _ => false
theorem lq_of : ∀ {l q : List UInt8}, lq l q = true → l = q
  | [], [], _ => rfl
  | [], _ :: _, h => by cases h
  | _ :: _, [], h => by cases h
  | a :: r, b :: q, h => by
    have h : (Nat.beq a.toNat b.toNat && lq r q) = true := h
    rw [Bool.and_eq_true] at h
    rw [lq_of h.2, UInt8.toNat_inj.mp (Nat.eq_of_beq_eq_true h.1)]
def wcq : Option Jvm.Cond → Jvm.Cond → Bool
  | some (.code n c k r), .code n' c' k' r' => (decide (n = n') && decide (k = k')) && (decide (r = r') && lq c.data.toList c'.data.toList)
  | _, _ => false
theorem wcq_of {o : Option Jvm.Cond} {w : Jvm.Cond} (h : wcq o w = true) : o = some w := by
  unfold wcq at h
  split at h
  · simp only [Bool.and_eq_true, decide_eq_true_eq] at h
    obtain ⟨⟨rfl, rfl⟩, rfl, h⟩ := h
    have h := lq_of h
    congr 2
    exact ByteArray.ext (Array.toList_inj.mp h)
  · cases h
def wc (i : Nat) (w : Jvm.Cond) : Bool := wcq (wAt i) w && usable w
theorem wc_of {i : Nat} {w : Jvm.Cond} (h : wc i w = true) : w ∈ lw_use := by
  unfold wc at h
  rw [Bool.and_eq_true] at h
  exact List.mem_filter.mpr ⟨wAt_mem (wcq_of h.1), h.2⟩
def ib (k : Nat) : Instr := if k = 0 then .iadd else if k = 1 then .isub else if k = 2 then .imul else if k = 3 then .idiv else if k = 4 then .irem else if k = 5 then .iand else if k = 6 then .ior else if k = 7 then .ixor else if k = 8 then .ishl else if k = 9 then .ishr else .iushr
def lb (k : Nat) : Instr := if k = 0 then .ladd else if k = 1 then .lsub else if k = 2 then .lmul else if k = 3 then .ldiv else if k = 5 then .land else .lor
def f4 (a : Int) : Fin 4 := Fin.ofNat 4 a.toNat
/-- a constant -/
def dcK (own : String) (cc : ByteArray) (pc nx : Nat) (a b : Int) (g0 g1 g2 : Nat) : Bool :=
    if g0 = 0 then b == 0 && (nx == pc + 1 && dq cc pc (.iconst a) 1) && decide (-1 ≤ a ∧ a ≤ 5)
    else if g0 = 1 then b == 0 && (nx == pc + 2 && dq cc pc (.bipush a) 2) && decide (-128 ≤ a ∧ a ≤ 127 ∧ (Int8.ofInt a).toInt32 = Int32.ofInt a)
    else if g0 = 2 then b == 0 && (nx == pc + 3 && dq cc pc (.sipush a) 3) && decide (-32768 ≤ a ∧ a ≤ 32767 ∧ (Int16.ofInt a).toInt32 = Int32.ofInt a)
    else if g0 = 3 then b == 0 && (nx == pc + 2 && dq cc pc (.ldc g2) 2) && (wq g1 (.constant own g2 (Int32.ofInt a)) && decide (-2147483648 ≤ a ∧ a ≤ 2147483647))
    else if g0 = 4 then b == 0 && (nx == pc + 3 && dq cc pc (.ldc_w g2) 3) && (wq g1 (.constant own g2 (Int32.ofInt a)) && decide (-2147483648 ≤ a ∧ a ≤ 2147483647))
    else if g0 = 5 then b == 1 && (nx == pc + 1 && dq cc pc (.lconst (Fin.ofNat 2 a.toNat)) 1) && decide (a = 0 ∨ a = 1)
    else if g0 = 6 then b == 1 && (nx == pc + 3 && dq cc pc (.ldc2_w g2) 3) && (wq g1 (.constantLong own g2 (Int64.ofInt a)) && decide (-9223372036854775808 ≤ a ∧ a ≤ 9223372036854775807))
    else if g0 = 7 then b == 2 && (nx == pc + 1 && dq cc pc .aconst_null 1) && a == 0
    else if g0 = 8 then b == 2 && (nx == pc + 2 && dq cc pc (.ldc g2) 2) && (a == -10 - (g1 : Int) && ((sref.getD g1 ("", 0, "")).1 == own && (sref.getD g1 ("", 0, "")).2.1 == g2 && decide (g1 < 23)))
    else if g0 = 10 then b == 2 && (nx == pc + 3 && dq cc pc (.ldc_w g2) 3) && (a == -10 - (g1 : Int) && ((sref.getD g1 ("", 0, "")).1 == own && (sref.getD g1 ("", 0, "")).2.1 == g2 && decide (g1 < 23)))
    else if g0 = 9 then b == 2 && (nx == pc + 3 && dq cc pc (.getstatic g2) 3) && (a == -2 && decide (own = RJx4a65c) && wq g1 (.fieldLink own g2 RJx4a65c dfN dfD))
    else false
/-- a local's load or store: the short form (g0 = 0) or the long one -/
def dcV (cc : ByteArray) (pc nx : Nat) (a b : Int) (g0 : Nat) (s0 s1 s2 : Fin 4 → Instr) (l0 l1 l2 : Nat → Instr) : Bool :=
  decide (0 ≤ a) && (if g0 = 0 then (nx == pc + 1 && decide (a < 4)) && (if b = 0 then dq cc pc (s0 (f4 a)) 1 else if b = 1 then dq cc pc (s1 (f4 a)) 1 else b == 2 && dq cc pc (s2 (f4 a)) 1)
    else nx == pc + 2 && (if b = 0 then dq cc pc (l0 a.toNat) 2 else if b = 1 then dq cc pc (l1 a.toNat) 2 else b == 2 && dq cc pc (l2 a.toNat) 2))
def d1 (cc : ByteArray) (pc nx : Nat) (i : Instr) : Bool := nx == pc + 1 && dq cc pc i 1
/-- the bytes at pc are this instruction -/
def dcP (own : String) (cc : ByteArray) (pc op nx : Nat) (a b : Int) (os : List Int) : Bool :=
  if op = 0 then dcK own cc pc nx a b (os.getD 0 0).toNat (os.getD 1 0).toNat (os.getD 2 0).toNat
  else if op = 1 then dcV cc pc nx a b (os.getD 0 0).toNat .iload_n .lload_n .aload_n .iload .lload .aload
  else if op = 2 then dcV cc pc nx a b (os.getD 0 0).toNat .istore_n .lstore_n .astore_n .istore .lstore .astore
  else if op = 3 then decide (0 ≤ a) && (nx == pc + 3 && dq cc pc (.iinc a.toNat b) 3)
  else if op = 4 then d1 cc pc nx (ib a.toNat)
  else if op = 5 then d1 cc pc nx (lb a.toNat)
  else if op = 6 then d1 cc pc nx .ineg
  else if op = 7 then d1 cc pc nx .i2l
  else if op = 8 then d1 cc pc nx .l2i
  else if op = 9 then d1 cc pc nx .i2b
  else if op = 10 then d1 cc pc nx .i2c
  else if op = 11 then d1 cc pc nx .lcmp
  else if op = 12 then d1 cc pc nx .dup
  else if op = 13 then d1 cc pc nx .dup_x1
  else if op = 14 then d1 cc pc nx .dup2
  else if op = 15 then d1 cc pc nx .pop
  else false
theorem d1_of {cc : ByteArray} {pc nx : Nat} {i : Instr} (h : d1 cc pc nx i = true) : nx = pc + 1 ∧ decode cc pc = .ok (i, 1) := by
  unfold d1 at h
  rw [Bool.and_eq_true, beq_iff_eq] at h
  exact ⟨h.1, dq_of h.2⟩
theorem dcV_of {cc : ByteArray} {pc nx : Nat} {a b : Int} {g0 : Nat} {s0 s1 s2 : Fin 4 → Instr} {l0 l1 l2 : Nat → Instr} (h : dcV cc pc nx a b g0 s0 s1 s2 l0 l1 l2 = true) :
    0 ≤ a ∧ ((b = 0 ∧ ((∃ k : Fin 4, decode cc pc = .ok (s0 k, 1) ∧ (k : Nat) = a.toNat ∧ nx = pc + 1) ∨ (decode cc pc = .ok (l0 a.toNat, 2) ∧ nx = pc + 2))) ∨
      (b = 1 ∧ ((∃ k : Fin 4, decode cc pc = .ok (s1 k, 1) ∧ (k : Nat) = a.toNat ∧ nx = pc + 1) ∨ (decode cc pc = .ok (l1 a.toNat, 2) ∧ nx = pc + 2))) ∨
      (b = 2 ∧ ((∃ k : Fin 4, decode cc pc = .ok (s2 k, 1) ∧ (k : Nat) = a.toNat ∧ nx = pc + 1) ∨ (decode cc pc = .ok (l2 a.toNat, 2) ∧ nx = pc + 2)))) := by
  unfold dcV at h
  rw [Bool.and_eq_true, decide_eq_true_eq] at h
  obtain ⟨h0, h⟩ := h
  refine ⟨h0, ?_⟩
  by_cases hg : g0 = 0
  · rw [if_pos hg, Bool.and_eq_true, Bool.and_eq_true, beq_iff_eq, decide_eq_true_eq] at h
    obtain ⟨⟨h1, h2⟩, h3⟩ := h
    have e4 : ((f4 a : Fin 4) : Nat) = a.toNat := by
      unfold f4
      simp only [Fin.ofNat]
      omega
    by_cases b0 : b = 0
    · rw [if_pos b0] at h3
      exact Or.inl ⟨b0, Or.inl ⟨f4 a, dq_of h3, e4, h1⟩⟩
    · rw [if_neg b0] at h3
      by_cases b1 : b = 1
      · rw [if_pos b1] at h3
        exact Or.inr (Or.inl ⟨b1, Or.inl ⟨f4 a, dq_of h3, e4, h1⟩⟩)
      · rw [if_neg b1, Bool.and_eq_true, beq_iff_eq] at h3
        exact Or.inr (Or.inr ⟨h3.1, Or.inl ⟨f4 a, dq_of h3.2, e4, h1⟩⟩)
  · rw [if_neg hg, Bool.and_eq_true, beq_iff_eq] at h
    obtain ⟨h1, h3⟩ := h
    by_cases b0 : b = 0
    · rw [if_pos b0] at h3
      exact Or.inl ⟨b0, Or.inr ⟨dq_of h3, h1⟩⟩
    · rw [if_neg b0] at h3
      by_cases b1 : b = 1
      · rw [if_pos b1] at h3
        exact Or.inr (Or.inl ⟨b1, Or.inr ⟨dq_of h3, h1⟩⟩)
      · rw [if_neg b1, Bool.and_eq_true, beq_iff_eq] at h3
        exact Or.inr (Or.inr ⟨h3.1, Or.inr ⟨dq_of h3.2, h1⟩⟩)
theorem lcmp_of {x y : Int} (hx : in64 x) (hy : in64 y) : lg_cmp (Int64.ofInt x) (Int64.ofInt y) = Int32.ofInt (l_cmp x y) := by
  unfold lg_cmp l_cmp
  simp only [m_lt hx hy, m_lt hy hx, m_eq hx hy]
  by_cases h1 : x < y
  · simp [h1, show ¬ y < x by omega, show ¬ x = y by omega] <;> decide
  · by_cases h2 : x = y
    · subst h2
      simp <;> decide
    · simp [h1, h2, show y < x by omega] <;> decide
section PU
variable {p : Program} {l : Launch} {e : Env} {R : Room} {s : State} {m : MethodId} {args : Array Value} {below : List Frame} {meth : Method} {c : Code} {H : Heap} {locs : List Loc} {cells slots : Nat} {Q : State → Prop}
variable {cc : ByteArray} {nL : Nat} {own : String} {base : Nat} {rf : Int → Option Nat} {ls st ls' st' : List Vl} {arr : Array Slot} {n : Nat}
/-- a load, of any type -/
theorem snd_load {i : Nat} {v : Vl} (X : Cx p s m args c cc nL own) {pc nx : Nat} (hL : Lr rf ls arr) (hv : ls[i]? = some v) (h9 : v.1 ≠ 9)
    (hd : (v.1 = 0 ∧ ((∃ k : Fin 4, decode cc pc = .ok (.iload_n k, 1) ∧ (k : Nat) = i ∧ nx = pc + 1) ∨ (decode cc pc = .ok (.iload i, 2) ∧ nx = pc + 2))) ∨
      (v.1 = 1 ∧ ((∃ k : Fin 4, decode cc pc = .ok (.lload_n k, 1) ∧ (k : Nat) = i ∧ nx = pc + 1) ∨ (decode cc pc = .ok (.lload i, 2) ∧ nx = pc + 2))) ∨
      (v.1 = 2 ∧ ((∃ k : Fin 4, decode cc pc = .ok (.aload_n k, 1) ∧ (k : Nat) = i ∧ nx = pc + 1) ∨ (decode cc pc = .ok (.aload i, 2) ∧ nx = pc + 2))))
    {rest : List Value} (k : W p l e R s m args below meth c H locs cells slots Q (F0 m nx arr (toV rf v :: rest))) : W p l e R s m args below meth c H locs cells slots Q (F0 m pc arr rest) := by
  obtain ⟨hx, hb, -, -, -⟩ := X
  have ha := hL.2.2 i v hv h9
  obtain ⟨t, x⟩ := v
  rcases hd with ⟨rfl, hd⟩ | ⟨rfl, hd⟩ | ⟨rfl, hd⟩
  · rcases hd with ⟨q, hd, hq, rfl⟩ | ⟨hd, rfl⟩
    · exact lv_iload_n hx hb hd hq ha k
    · exact lv_iload hx hb hd ha k
  · rcases hd with ⟨q, hd, hq, rfl⟩ | ⟨hd, rfl⟩
    · exact lv_lload_n hx hb hd hq ha k
    · exact lv_lload hx hb hd ha k
  · rw [toV_r] at ha k
    cases hr : rf x with
    | none =>
      rw [hr] at ha k
      rcases hd with ⟨q, hd, hq, rfl⟩ | ⟨hd, rfl⟩
      · exact lv_aload_nN hx hb hd hq ha k
      · exact lv_aloadN hx hb hd ha k
    | some y =>
      rw [hr] at ha k
      rcases hd with ⟨q, hd, hq, rfl⟩ | ⟨hd, rfl⟩
      · exact lv_aload_n hx hb hd hq ha k
      · exact lv_aload hx hb hd ha k
theorem snd_store {i : Nat} {v : Vl} (X : Cx p s m args c cc nL own) {pc nx : Nat} (hL : Lr rf ls arr) (hi : i + (if v.1 = 1 then 1 else 0) < ls.length)
    (hd : (v.1 = 0 ∧ ((∃ k : Fin 4, decode cc pc = .ok (.istore_n k, 1) ∧ (k : Nat) = i ∧ nx = pc + 1) ∨ (decode cc pc = .ok (.istore i, 2) ∧ nx = pc + 2))) ∨
      (v.1 = 1 ∧ ((∃ k : Fin 4, decode cc pc = .ok (.lstore_n k, 1) ∧ (k : Nat) = i ∧ nx = pc + 1) ∨ (decode cc pc = .ok (.lstore i, 2) ∧ nx = pc + 2))) ∨
      (v.1 = 2 ∧ ((∃ k : Fin 4, decode cc pc = .ok (.astore_n k, 1) ∧ (k : Nat) = i ∧ nx = pc + 1) ∨ (decode cc pc = .ok (.astore i, 2) ∧ nx = pc + 2))))
    {rest : List Value} (k : ∀ arr', Lr rf (storeL ls i v) arr' → W p l e R s m args below meth c H locs cells slots Q (F0 m nx arr' rest)) : W p l e R s m args below meth c H locs cells slots Q (F0 m pc arr (toV rf v :: rest)) := by
  obtain ⟨hx, hb, -, -, -⟩ := X
  obtain ⟨t, x⟩ := v
  have hh := hL.has
  rcases hd with ⟨rfl, hd⟩ | ⟨rfl, hd⟩ | ⟨rfl, hd⟩
  · rcases hd with ⟨q, hd, hq, rfl⟩ | ⟨hd, rfl⟩
    · exact lv_istore_n hx hb hd hq hh (by simpa using hi) rfl (fun arr' h => k arr' (Lr_store1 rfl (by simp) h))
    · exact lv_istore hx hb hd hh (by simpa using hi) rfl (fun arr' h => k arr' (Lr_store1 rfl (by simp) h))
  · rcases hd with ⟨q, hd, hq, rfl⟩ | ⟨hd, rfl⟩
    · exact lv_lstore_n hx hb hd hq hh (by simpa using hi) rfl (fun arr' h => k arr' (Lr_store2 rfl rfl h))
    · exact lv_lstore hx hb hd hh (by simpa using hi) rfl (fun arr' h => k arr' (Lr_store2 rfl rfl h))
  · have e : toV rf (2, x) = va_rf (rf x) := rfl
    rw [e]
    cases hr : rf x with
    | none =>
      rcases hd with ⟨q, hd, hq, rfl⟩ | ⟨hd, rfl⟩
      · exact lv_astore_nN hx hb hd hq hh (by simpa using hi) rfl (fun arr' h => k arr' (Lr_store1 (by rw [e, hr]; rfl) (by simp) h))
      · exact lv_astoreN hx hb hd hh (by simpa using hi) rfl (fun arr' h => k arr' (Lr_store1 (by rw [e, hr]; rfl) (by simp) h))
    | some y =>
      rcases hd with ⟨q, hd, hq, rfl⟩ | ⟨hd, rfl⟩
      · exact lv_astore_n hx hb hd hq hh (by simpa using hi) rfl (fun arr' h => k arr' (Lr_store1 (by rw [e, hr]; rfl) (by simp) h))
      · exact lv_astore hx hb hd hh (by simpa using hi) rfl (fun arr' h => k arr' (Lr_store1 (by rw [e, hr]; rfl) (by simp) h))
end PU
