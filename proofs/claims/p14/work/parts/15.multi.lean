/-! new int[n][m][k]: the machine's step -/
theorem cells_pushed {s : State} {x : Cell} {a : Addr} (h : a < s.heap.size) : (s.pushCell x).heap[a]? = s.heap[a]? := State.heap_pushCell_of_lt _ _ h
/-- the outermost row, when i of its places are filled -/
def o3 (c : ClassId) (N h0 M : Nat) : Nat → Cell
  | 0 => { cls := c, slots := Array.replicate N .null, vm := .none }
  | i + 1 => (o3 c N h0 M i).setSlot i (.ref (h0 + 1 + i * (M + 1)))
def f3 (s : State) (c3 c2 c1 : ClassId) (N M K : Nat) (dv : Value) : Nat → State
  | 0 => s.pushCell (o3 c3 N s.heap.size M 0)
  | i + 1 => (Jvm.Free.Multi.fill (f3 s c3 c2 c1 N M K dv i) c2 c1 M K dv M).setCell s.heap.size (o3 c3 N s.heap.size M (i + 1))
theorem o3_facts (c : ClassId) (N h0 M : Nat) : ∀ i, (o3 c N h0 M i).cls = c ∧ (o3 c N h0 M i).vm = .none ∧ (o3 c N h0 M i).slots.size = N
  | 0 => ⟨rfl, rfl, by simp [o3]⟩
  | i + 1 => by
    obtain ⟨a, b, d⟩ := o3_facts c N h0 M i
    exact ⟨by simp [o3, Cell.setSlot, a], by simp [o3, Cell.setSlot, b], by simp [o3, Cell.setSlot, d]⟩
theorem f3_facts (s : State) (c3 c2 c1 : ClassId) (N M K : Nat) (dv : Value) : ∀ i, (f3 s c3 c2 c1 N M K dv i).heap.size = s.heap.size + 1 + i * (M + 1) ∧ (f3 s c3 c2 c1 N M K dv i).heap[s.heap.size]? = some (o3 c3 N s.heap.size M i) ∧
    (f3 s c3 c2 c1 N M K dv i).vm = s.vm ∧ (f3 s c3 c2 c1 N M K dv i).slotsUsed = s.slotsUsed + N + i * (M + M * K)
  | 0 => ⟨by simp [f3], by simp [f3], rfl, by simp [f3, o3]⟩
  | i + 1 => by
    obtain ⟨a, b, d, u⟩ := f3_facts s c3 c2 c1 N M K dv i
    obtain ⟨a2, b2, d2, u2⟩ := Jvm.Free.Multi.fill_facts (f3 s c3 c2 c1 N M K dv i) c2 c1 M K dv M
    have hlt : s.heap.size < (f3 s c3 c2 c1 N M K dv i).heap.size := by omega
    have hold := Jvm.Free.Multi.fill_old (f3 s c3 c2 c1 N M K dv i) c2 c1 M K dv hlt M
    have hb' : (Jvm.Free.Multi.fill (f3 s c3 c2 c1 N M K dv i) c2 c1 M K dv M).heap[s.heap.size]? = some (o3 c3 N s.heap.size M i) := by rw [hold]; exact b
    refine ⟨?_, State.heap_setCell_self hb', ?_, ?_⟩
    · show ((Jvm.Free.Multi.fill (f3 s c3 c2 c1 N M K dv i) c2 c1 M K dv M).setCell s.heap.size _).heap.size = _
      rw [size_setCell, a2, a, Nat.succ_mul]
      omega
    · show ((Jvm.Free.Multi.fill (f3 s c3 c2 c1 N M K dv i) c2 c1 M K dv M).setCell s.heap.size _).vm = _
      show (Jvm.Free.Multi.fill (f3 s c3 c2 c1 N M K dv i) c2 c1 M K dv M).vm = _
      rw [d2, d]
    · show (Jvm.Free.Multi.fill (f3 s c3 c2 c1 N M K dv i) c2 c1 M K dv M).slotsUsed = _
      rw [u2, u, Nat.succ_mul]
      omega
theorem f3_old (s : State) (c3 c2 c1 : ClassId) (N M K : Nat) (dv : Value) {a : Addr} (ha : a < s.heap.size) : ∀ i, (f3 s c3 c2 c1 N M K dv i).heap[a]? = s.heap[a]?
  | 0 => State.heap_pushCell_of_lt _ _ ha
  | i + 1 => by
    have f1 := (f3_facts s c3 c2 c1 N M K dv i).1
    have hlt : a < (f3 s c3 c2 c1 N M K dv i).heap.size := Nat.lt_of_lt_of_le ha (by rw [f1, Nat.add_assoc]; exact Nat.le_add_right _ _)
    show ((Jvm.Free.Multi.fill (f3 s c3 c2 c1 N M K dv i) c2 c1 M K dv M).setCell s.heap.size _).heap[a]? = _
    rw [State.heap_setCell_other (Nat.ne_of_gt ha), Jvm.Free.Multi.fill_old _ c2 c1 M K dv hlt M]
    exact f3_old s c3 c2 c1 N M K dv ha i
/-- the middle rows and the inner ones -/
theorem f3_in (s : State) (c3 c2 c1 : ClassId) (N M K : Nat) (dv : Value) : ∀ i j, j < i →
    (f3 s c3 c2 c1 N M K dv i).heap[s.heap.size + 1 + j * (M + 1)]? = some (Jvm.Free.Multi.outerC c2 M (s.heap.size + 1 + j * (M + 1)) M) ∧
    ∀ t, t < M → (f3 s c3 c2 c1 N M K dv i).heap[s.heap.size + 1 + j * (M + 1) + 1 + t]? = some (Jvm.Free.Multi.innerC c1 K dv)
  | 0, _, h => absurd h (Nat.not_lt_zero _)
  | i + 1, j, h => by
    have f1 := (f3_facts s c3 c2 c1 N M K dv i).1
    obtain ⟨a2, b2, d2, u2⟩ := Jvm.Free.Multi.fill_facts (f3 s c3 c2 c1 N M K dv i) c2 c1 M K dv M
    have key : ∀ a : Nat, s.heap.size < a → (f3 s c3 c2 c1 N M K dv (i + 1)).heap[a]? = (Jvm.Free.Multi.fill (f3 s c3 c2 c1 N M K dv i) c2 c1 M K dv M).heap[a]? := fun a ha => by
      show ((Jvm.Free.Multi.fill (f3 s c3 c2 c1 N M K dv i) c2 c1 M K dv M).setCell s.heap.size _).heap[a]? = _
      rw [State.heap_setCell_other (show s.heap.size ≠ a by omega)]
    rcases Nat.lt_or_ge j i with hj | hj
    · have hjm : j * (M + 1) + (M + 1) ≤ i * (M + 1) := by
        have := Nat.mul_le_mul_right (M + 1) (show j + 1 ≤ i from hj)
        rw [Nat.succ_mul] at this
        exact this
      obtain ⟨g1, g2⟩ := f3_in s c3 c2 c1 N M K dv i j hj
      refine ⟨?_, fun t ht => ?_⟩
      · have hb1 : s.heap.size + 1 + j * (M + 1) < (f3 s c3 c2 c1 N M K dv i).heap.size := by
          rw [f1]
          generalize j * (M + 1) = u at hjm ⊢
          generalize i * (M + 1) = w at hjm ⊢
          omega
        rw [key _ (by omega), Jvm.Free.Multi.fill_old _ c2 c1 M K dv hb1 M]
        exact g1
      · have hb1 : s.heap.size + 1 + j * (M + 1) + 1 + t < (f3 s c3 c2 c1 N M K dv i).heap.size := by
          rw [f1]
          generalize j * (M + 1) = u at hjm ⊢
          generalize i * (M + 1) = w at hjm ⊢
          omega
        rw [key _ (by omega), Jvm.Free.Multi.fill_old _ c2 c1 M K dv hb1 M]
        exact g2 t ht
    · have e : j = i := by omega
      subst e
      rw [f1] at b2
      refine ⟨?_, fun t ht => ?_⟩
      · rw [key _ (by omega)]
        exact b2
      · rw [key _ (by omega)]
        have := Jvm.Free.Multi.fill_inner (f3 s c3 c2 c1 N M K dv j) c2 c1 M K dv M t ht
        rw [f1] at this
        exact this
theorem f3_setTop (s : State) (f : JFrame) (c3 c2 c1 : ClassId) (N M K : Nat) (dv : Value) : ∀ i, f3 (s.setTop f) c3 c2 c1 N M K dv i = (f3 s c3 c2 c1 N M K dv i).setTop f
  | 0 => rfl
  | i + 1 => by simp only [f3, f3_setTop s f c3 c2 c1 N M K dv i, Jvm.Free.Multi.fill_setTop, State.heap_setTop, State.setCell_setTop]
section M3
variable {E : CtlPost} {e : Env} {d : Bool} {acts : List Action} {s : State}
theorem wp_make3 {c3 c2 c1 cc : ClassId} {k3 k2 k1 : Class} {t3 t2 type : FieldType} {n m q : Int32} (hk3 : s.vm.classes[c3]? = some k3) (hkind3 : k3.kind = .array c2 t3) (href3 : t3.isReference = true)
    (hk2 : s.vm.classes[c2]? = some k2) (hkind2 : k2.kind = .array c1 t2) (href2 : t2.isReference = true) (hk1 : s.vm.classes[c1]? = some k1) (hkind1 : k1.kind = .array cc type) (hn : ¬ n < 0) (hm : ¬ m < 0) (hq0 : ¬ q < 0)
    (hl1 : ¬ n.toNatClampNeg > e.platform.arrayLengthLimit) (hh1 : ¬ n.toNatClampNeg * componentBytes t3 > e.platform.maxHeapBytes)
    (hl2 : ¬ m.toNatClampNeg > e.platform.arrayLengthLimit) (hh2 : ¬ m.toNatClampNeg * componentBytes t2 > e.platform.maxHeapBytes)
    (hl3 : ¬ q.toNatClampNeg > e.platform.arrayLengthLimit) (hh3 : ¬ q.toNatClampNeg * componentBytes type > e.platform.maxHeapBytes)
    (hdf : fits type (defaultValue type) = true) (hdd : (defaultValue type).isDefault = true)
    (hc : s.heap.size + 1 + n.toNatClampNeg * (m.toNatClampNeg + 1) ≤ e.platform.maxCells) (hs : s.slotsUsed + n.toNatClampNeg + n.toNatClampNeg * (m.toNatClampNeg + m.toNatClampNeg * q.toNatClampNeg) ≤ e.platform.maxSlots)
    {Q : Addr → Pre} (hq : ∀ d' acts', Q s.heap.size d' acts' (f3 s c3 c2 c1 n.toNatClampNeg m.toNatClampNeg q.toNatClampNeg (defaultValue type) n.toNatClampNeg)) :
    wp (multianewarray.make c3 [n, m, q]) Q E e d acts s := by
  have hfind : ([m, q].find? (· < 0)) = none := by simp [hm, hq0]
  rw [multianewarray.make]
  simp only [wp_bind', W.ite, hn, if_false, wp_pure', W.theClass, hk3, hkind3, Option.some.injEq, exists_eq_left']
  refine Jvm.Free.Multi.wp_newArray hk3 hkind3 hl1 hh1 (Jvm.Free.Multi.refFits href3 _ (Or.inl rfl)) rfl (by have := Nat.zero_le (n.toNatClampNeg * (m.toNatClampNeg + 1)); omega) (by have := Nat.zero_le (n.toNatClampNeg * (m.toNatClampNeg + m.toNatClampNeg * q.toNatClampNeg)); omega) ?_
  simp only [hfind]
  rw [ite_self, wp_bind', Std.Legacy.Range.forIn_eq_forIn_range']
  have hsz : ([:n.toNatClampNeg] : Std.Legacy.Range).size = n.toNatClampNeg := by simp [Std.Legacy.Range.size]
  rw [hsz]
  generalize hN : n.toNatClampNeg = N at *
  show wp (forIn (List.range' 0 N 1) PUnit.unit _) _ E e d acts _
  refine wp_forIn_inv (fun rest s' => ∃ i, i ≤ N ∧ rest = List.range' i (N - i) ∧ s' = f3 s c3 c2 c1 N m.toNatClampNeg q.toNatClampNeg (defaultValue type) i) _ _ ⟨0, Nat.zero_le _, rfl, rfl⟩ ?_ ?_
  · rintro x rest s' d' acts' Q' ⟨i, hi, hl, rfl⟩ hnext
    have hlt : i < N := by
      rcases Nat.lt_or_ge i N with h | h
      · exact h
      · rw [show N - i = 0 from by omega] at hl; simp at hl
    obtain ⟨rfl, hrest⟩ : x = i ∧ rest = List.range' (i + 1) (N - (i + 1)) := by
      rw [show N - i = (N - (i + 1)) + 1 from by omega, List.range'_succ] at hl
      exact ⟨(List.cons.inj hl).1, (List.cons.inj hl).2⟩
    obtain ⟨g1, g2, g3, g4⟩ := f3_facts s c3 c2 c1 N m.toNatClampNeg q.toNatClampNeg (defaultValue type) x
    obtain ⟨p1, p2, p3⟩ := o3_facts c3 N s.heap.size m.toNatClampNeg x
    have hmul : x * (m.toNatClampNeg + 1) + (m.toNatClampNeg + 1) ≤ N * (m.toNatClampNeg + 1) := by
      have := Nat.mul_le_mul_right (m.toNatClampNeg + 1) (show x + 1 ≤ N from hlt)
      rw [Nat.succ_mul] at this; exact this
    have hmul2 : x * (m.toNatClampNeg + m.toNatClampNeg * q.toNatClampNeg) + (m.toNatClampNeg + m.toNatClampNeg * q.toNatClampNeg) ≤ N * (m.toNatClampNeg + m.toNatClampNeg * q.toNatClampNeg) := by
      have := Nat.mul_le_mul_right (m.toNatClampNeg + m.toNatClampNeg * q.toNatClampNeg) (show x + 1 ≤ N from hlt)
      rw [Nat.succ_mul] at this; exact this
    simp only [wp_bind']
    refine Jvm.Free.Multi.wp_make2 (k := k2) (kc := k1) (comp := c1) (cc := cc) (t0 := t2) (type := type) (by rw [g3]; exact hk2) hkind2 href2 (by rw [g3]; exact hk1) hkind1 hm hq0 hl2 hh2 hl3 hh3 hdf hdd (by rw [g1]; omega) (by rw [g4]; omega) (fun d2 acts2 => ?_)
    obtain ⟨a2, b2, v2, u2⟩ := Jvm.Free.Multi.fill_facts (f3 s c3 c2 c1 N m.toNatClampNeg q.toNatClampNeg (defaultValue type) x) c2 c1 m.toNatClampNeg q.toNatClampNeg (defaultValue type) m.toNatClampNeg
    have hlt0 : s.heap.size < (f3 s c3 c2 c1 N m.toNatClampNeg q.toNatClampNeg (defaultValue type) x).heap.size := by rw [g1]; omega
    simp only [wp_bind', W.writeLoc, wp_pure']
    refine ⟨o3 c3 N s.heap.size m.toNatClampNeg x, by rw [Jvm.Free.Multi.fill_old _ _ _ _ _ _ hlt0]; exact g2, by rw [p2]; simp, by rw [p3]; exact hlt, ?_, hnext _ _ _ ⟨x + 1, hlt, hrest, ?_⟩⟩
    · rw [p1, p2]
      simp [State.fitsSlot, State.slotType?, v2, g3, hk3, hkind3, Jvm.Free.Multi.refFits href3 _ (Or.inr ⟨_, rfl⟩)]
    · rw [g1]; rfl
  · rintro s' d' acts' ⟨i, hi, hl, rfl⟩
    have hiN : i = N := by
      rcases Nat.lt_or_ge i N with h | h
      · rw [show N - i = (N - (i + 1)) + 1 from by omega, List.range'_succ] at hl; cases hl
      · omega
    subst hiN
    simp only [wp_pure']
    exact hq _ _
end M3
section S3
variable {p : Program} {l : Launch} {e : Env} {R : Room} {s : State} {m : MethodId} {args : Array Value} {below : List Frame} {meth : Method} {c : Code} {T : State} {locs : List Loc} {cells slots : Nat}
theorem filled3 (X : Stand p l e R s m args below meth c T locs cells slots) (c3 c2 c1 : ClassId) (N M K : Nat) (dv : Value) :
    ∀ i, Stand p l e R s m args below meth c (f3 T c3 c2 c1 N M K dv i) locs (cells + 1 + i * (M + 1)) (slots + N + i * (M + M * K))
  | 0 => by
    have h := X.pushed (o3 c3 N T.heap.size M 0)
    rw [(o3_facts c3 N T.heap.size M 0).2.2] at h
    simpa [f3] using h
  | i + 1 => by
    have Xi := filled3 X c3 c2 c1 N M K dv i
    obtain ⟨g1, g2, g3, g4⟩ := f3_facts T c3 c2 c1 N M K dv i
    have hlt0 : T.heap.size < (f3 T c3 c2 c1 N M K dv i).heap.size := by rw [g1]; omega
    have Xf := Xi.filled c2 c1 M K dv M
    have hcell : (Jvm.Free.Multi.fill (f3 T c3 c2 c1 N M K dv i) c2 c1 M K dv M).heap[T.heap.size]? = some (o3 c3 N T.heap.size M i) := by rw [Jvm.Free.Multi.fill_old _ _ _ _ _ _ hlt0]; exact g2
    have h := Xf.stored hcell i (.ref (T.heap.size + 1 + i * (M + 1)))
    have e3 : slots + N + (i + 1) * (M + M * K) = slots + N + i * (M + M * K) + M + M * K := by rw [Nat.succ_mul]; omega
    have e4 : cells + 1 + (i + 1) * (M + 1) = cells + 1 + i * (M + 1) + 1 + M := by rw [Nat.succ_mul]; omega
    rw [e3, e4]
    rw [List.append_assoc] at h
    refine h.dropFresh (fun x hx => ?_)
    rcases List.mem_append.mp hx with hx | hx
    · obtain ⟨j, -, rfl⟩ := List.mem_map.mp hx
      exact Xi.heapGrown
    · rw [List.mem_singleton.mp hx]
      exact X.heapGrown
theorem multianewarray3 (X : Stand p l e R s m args below meth c T locs cells slots) (hexec : p.tables.exec = Jvm.exec) {own : String} {index : Nat} {ty : FieldType}
    (hown : s.vm.findClass own = some m.cls) (hclink : (Cond.classLink own index ("[" ++ (FieldType.array (.array ty)).toString)).before args s = true)
    (hover3 : (Cond.arrayOver (.array (.array ty))).before args s = true) (hover2 : (Cond.arrayOver (.array ty)).before args s = true) (harr : (Cond.arrayClass ty).before args s = true)
    {g : JFrame} (hg : g.method = m) (hdg : decode c.code g.pc = .ok (.multianewarray index 3, 4)) {n k q : Int32} {rest : List Value} (hstack : g.stack = .int q :: .int k :: .int n :: rest)
    (hn : ¬ n < 0) (hk : ¬ k < 0) (hq : ¬ q < 0) (hb1 : n.toNatClampNeg * 4 ≤ 536870912) (hb2 : k.toNatClampNeg * 4 ≤ 536870912) (hb3 : q.toNatClampNeg * componentBytes ty ≤ 536870912) (hb4 : q.toNatClampNeg ≤ 536870912)
    (hdf : fits ty (defaultValue ty) = true) (hdd : (defaultValue ty).isDefault = true)
    (hcells : cells + (1 + n.toNatClampNeg * (k.toNatClampNeg + 1)) ≤ R.cells) (hslots : slots + (n.toNatClampNeg + n.toNatClampNeg * (k.toNatClampNeg + k.toNatClampNeg * q.toNatClampNeg)) ≤ R.slots) :
    ∃ (vm₁ : Vm) (c3 c2 c1 : ClassId), s.vm.findClass ("[" ++ (FieldType.array (.array ty)).toString) = some c3 ∧ s.vm.findClass (FieldType.array (.array ty)).toString = some c2 ∧ s.vm.findClass (FieldType.array ty).toString = some c1 ∧
      Stand p l e R s m args below meth c (f3 (T.setVm vm₁) c3 c2 c1 n.toNatClampNeg k.toNatClampNeg q.toNatClampNeg (defaultValue ty) n.toNatClampNeg) locs (cells + 1 + n.toNatClampNeg * (k.toNatClampNeg + 1)) (slots + n.toNatClampNeg + n.toNatClampNeg * (k.toNatClampNeg + k.toNatClampNeg * q.toNatClampNeg)) ∧
      ∀ target, Steps p.tables e below ((f3 (T.setVm vm₁) c3 c2 c1 n.toNatClampNeg k.toNatClampNeg q.toNatClampNeg (defaultValue ty) n.toNatClampNeg).setTop { g with pc := g.pc + 4, stack := .ref T.heap.size :: rest }) target →
        Steps p.tables e below (T.setTop g) target := by
  subst hg
  have hpl : e.platform.magicAccessors = ({} : Platform).magicAccessors := by rw [X.admits.platform]
  obtain ⟨c2, c3, kA, hc2, hkA, hkindA, hnameA⟩ := Cond.arrayOver_specA hover3
  obtain ⟨c1, c2', kB, hc1, hkB, hkindB, hnameB⟩ := Cond.arrayOver_specA hover2
  obtain ⟨c1', kC, cc, hc1', hkC, hkindC⟩ := Cond.arrayClass_spec harr
  have e1 : c1' = c1 := Option.some.inj (hc1'.symm.trans hc1)
  subst e1
  have e2 : c2' = c2 := Option.some.inj (hnameB.symm.trans hc2)
  subst e2
  obtain ⟨c0, hfc0, hcl⟩ := Cond.classLink_spec hown hclink e.platform hpl
  cases hnameA.symm.trans hfc0
  obtain ⟨hg₁, hwarm₁, hready₁⟩ := State.classEntry (e := e) X.warmed hcl
  generalize T.vm.noted g.method.cls index (.cls c3) = vm₁ at hg₁ hwarm₁ hready₁
  have hal : s.vm.Alike vm₁ := hwarm₁.alike
  obtain ⟨kA₁, hkA₁, heA⟩ := hal.2.2 _ _ hkA
  obtain ⟨kB₁, hkB₁, heB⟩ := hal.2.2 _ _ hkB
  obtain ⟨kC₁, hkC₁, heC⟩ := hal.2.2 _ _ hkC
  have hkindA₁ : kA₁.kind = .array c2' (.array (.array ty)) := by rw [heA]; exact hkindA
  have hkindB₁ : kB₁.kind = .array c1' (.array ty) := by rw [heB]; exact hkindB
  have hkindC₁ : kC₁.kind = .array cc ty := by rw [heC]; exact hkindC
  have X₁ := X.noted hwarm₁
  obtain ⟨hr1, hr2⟩ := X.roomAbove hcells hslots
  refine ⟨vm₁, c3, c2', c1', hnameA, hc2, hc1, filled3 X₁ c3 c2' c1' _ _ _ _ _, fun target hrest => ?_⟩
  have hl1 : ¬ n.toNatClampNeg > e.platform.arrayLengthLimit := by rw [Launch.admits_arrayLengthLimit X.admits]; omega
  have hh1 : ¬ n.toNatClampNeg * componentBytes (.array (.array ty)) > e.platform.maxHeapBytes := by
    rw [Launch.admits_maxHeapBytes X.admits]; show ¬ n.toNatClampNeg * 4 > 536870912; omega
  have hl2 : ¬ k.toNatClampNeg > e.platform.arrayLengthLimit := by rw [Launch.admits_arrayLengthLimit X.admits]; omega
  have hh2 : ¬ k.toNatClampNeg * componentBytes (.array ty) > e.platform.maxHeapBytes := by
    rw [Launch.admits_maxHeapBytes X.admits]; show ¬ k.toNatClampNeg * 4 > 536870912; omega
  have hl3 : ¬ q.toNatClampNeg > e.platform.arrayLengthLimit := by rw [Launch.admits_arrayLengthLimit X.admits]; omega
  have hh3 : ¬ q.toNatClampNeg * componentBytes ty > e.platform.maxHeapBytes := by rw [Launch.admits_maxHeapBytes X.admits]; omega
  jvm_step X.here [hexec, hdg]
  simp only [multianewarray.sem, wp_bind', W.resolveClassAt_links (State.method?_setTop g X.here.top) hg₁]
  rw [W.popN, if_neg (by decide)]
  refine ⟨g, State.topJava?_setTop' (s := T.setVm vm₁) g X.here.top, [.int n, .int k, .int q], rest, rfl, hstack, ?_⟩
  simp only [List.mapM_cons, List.mapM_nil, wp_bind', wp_pure']
  refine wp_make3 (k3 := kA₁) (k2 := kB₁) (k1 := kC₁) (c2 := c2') (c1 := c1') (cc := cc) (t3 := .array (.array ty)) (t2 := .array ty) (type := ty) hkA₁ hkindA₁ rfl hkB₁ hkindB₁ rfl hkC₁ hkindC₁ hn hk hq hl1 hh1 hl2 hh2 hl3 hh3 hdf hdd (by show T.heap.size + 1 + _ ≤ _; omega) (by show T.slotsUsed + _ + _ ≤ _; omega) (fun d' acts' => ?_)
  have XF := filled3 X₁ c3 c2' c1' n.toNatClampNeg k.toNatClampNeg q.toNatClampNeg (defaultValue ty) n.toNatClampNeg
  have eS : ((T.setTop g).setVm vm₁).setTop { g with stack := rest } = (T.setVm vm₁).setTop { g with stack := rest } := by
    show ((T.setVm vm₁).setTop g).setTop _ = _
    rw [State.setTop_setTop]
  rw [eS, f3_setTop]
  simp only [wp_bind', W.mark, W.pushRef, State.topJava?_setTop' _ XF.here.top, Option.some.injEq, exists_eq_left', State.setTop_setTop, State.heap_setTop]
  intro acts
  simp [jvm, XF.here.top]
  exact hrest
end S3
