def R_law : String := "WheelLandLaw"
def lw_P (b : Addr) (xs : List Int32) (args : Array Value) (s : State) : Prop := args = #[.ref b] ∧ s.IntsAt b xs ∧ xs.length ≤ 3072 ∧ (Jvm.Cond.and given_1 narrow_1).before args s = true
def lw_Q (_ : Array Value) (s : State) (o : Outcome) (t : State) : Prop := o = .returned (some (.int 1)) ∧ Framed s o t [] 600000 7302250
def lw_Z (below : List Frame) (a : Array Value) (s : State) : State → Prop := fun t => ∃ o, t.status = .running ∧ Ended t below o ∧ lw_Q a s o t
/-- the law's own end, with 1 on the stack, nothing written that was there before, its room as the claim has it -/
theorem lw_ret {p : Program} {l : Launch} {e : Env} {s : State} {m : MethodId} {below : List Frame} {meth : Method} {c : Code} {b : Nat} (hx : p.tables.exec = Jvm.exec) (hb : c.code = code) (hr : meth.sig.returnType = ret) (hlocks : meth.locks = false) {pc : Nat} {H : Heap} {ls : Array Slot} (hdg : decode code pc = .ok (.ireturn, 1)) : W p l e room_1 s m #[Value.ref b] below meth c H [] 600000 7302250 (lw_Z below #[Value.ref b] s) (F0 m pc ls [.int 1]) := by
  intro T hT X
  obtain ⟨fs, hret, hrun, hended, hW, hframe⟩ := X.leave (v := some (.int 1)) (hlocks := hlocks) (fun h => by rw [hr] at h; cases h)
  have hmeth' : T.vm.method? m = some meth := X.method'
  refine ⟨T.setFrames fs, ?_, .returned (some (.int 1)), hrun, hended, rfl, ⟨_, rfl⟩, hW, hframe⟩
  jvm_step X.here [X.here.top, hx, hb, hdg, hmeth', hr, ret, narrow_b1]
  (try refine ⟨rfl, ?_⟩); (try refine ⟨rfl, ?_⟩)
  first | (intro acts; rw [hret _ acts rfl rfl rfl]) | rw [hret _ _ rfl rfl rfl]
  exact Steps.refl _
/-- what holds at the law's entry: the machine, the code, the tables' words (any of lw_tbl by 'hts w (by decide +kernel)'), the script of L ints xs at the cell b, what the Statement gives of the start (any of its parts by flat_of_before) -/
def lw_At (p : Program) (s : State) (m : MethodId) (meth : Method) (c : Code) (b L : Nat) (xs : Nat → Int32) : Prop :=
  p.tables.exec = Jvm.exec ∧ c.code = code ∧ meth.sig.returnType = ret ∧ c.maxLocals = 4 ∧ s.vm.findClass R_law = some m.cls ∧ (∀ w ∈ lw_tbl, w.before #[Value.ref b] s = true) ∧ va_X b L xs s s.heap ∧ b < s.heap.size ∧ meth.locks = false ∧ (Jvm.Cond.and given_1 narrow_1).before #[Value.ref b] s = true ∧ meth.name = "law"
/-- what is left: every run of the mini machine's law on a script of at most 3072 numbers ends with 1, within the room -/
def MLaw : Prop := ∀ sc : List Int, sc.length ≤ 3072 → (∀ x ∈ sc, in32 x) → ∃ (n : Nat) (h : Hp), Ex cdT mK sc stxt (Runs cdT mK sc stxt mL 1000) 0 n 0 (initL [(2, -1)] 4) [] [] (some (0, 1)) h ∧ h.length ≤ 600000 ∧ sz h ≤ 7302250
theorem law_start (ML : MLaw) (hAll : ∀ (sc : List Int) (d : Nat), Sound mL mN mB mR sc (Runs cdT mK sc stxt mL d) d) (hOk : ∀ (pc : Nat) (x : Op), cdT 0 pc = some x → dcAll mK mL mN mB mR 0 pc x = true) {p : Program} {e : Env} {s : State} {m : MethodId} {below : List Frame} {meth : Method} {c : Code} (l : Launch) {b L : Nat} {xs : Nat → Int32} (hL : L ≤ 3072) (C0 : lw_At p s m meth c b L xs) : W p l e room_1 s m #[Value.ref b] below meth c s.heap [] 0 0 (lw_Z below #[Value.ref b] s) (entryFrame m ([Value.ref b] : List Value).toArray 4) := by
  obtain ⟨hx, hb, hr, hml, hown, hts, hX, hbl, hlk, hg, hnm⟩ := C0
  obtain ⟨rf, hrf, hS⟩ := st_all (by omega) hts (flat_of_before _ hg) hX hbl
  obtain ⟨D, cA, hK⟩ := kn_all (use_of hts)
  have hin : ∀ x ∈ (List.range L).map (fun j => (xs j).toInt), in32 x := by
    obtain ⟨b', -, -, -, h, -⟩ := hS.2.2.2.1
    exact h
  obtain ⟨n, h, hE, hlen, hsz⟩ := ML _ (by simpa using hL) hin
  have X : Cx p s m #[Value.ref b] c (mB 0) 4 (mN 0).cls := ⟨hx, hb, hml, hown, use_of hts⟩
  have hodd : ∀ w ∈ lw_odd, w.before #[] s = true := fun w hw => odd_args hw (use_of hts w (List.mem_filter.mp hw).1)
  have hmap : ([Value.ref b] : List Value) = ([(2, -1)] : List Vl).map (toV rf) := by
    show _ = [va_rf (rf (-1))]
    rw [hrf]
    rfl
  have hP0 : va_P D vwCl (wld rf cA []) s.heap := fun k q hq => by cases hq
  have hD0 : va_D (A0 s.heap.size) (wld rf cA []) := ⟨fun i j x y hx hy hxy => (by cases hx), fun k q hq => (by cases hq)⟩
  have hw0 : wfH [] := fun e he => by cases he
  have hR0 : Rf s.heap.size rf ([] : Hp).length := fun x h1 h2 => by simp at h2; omega
  have hfin : ∀ (arr : Array Slot), Lr rf (initL [(2, -1)] 4) arr → W p l e room_1 s m #[Value.ref b] below meth c s.heap [] 0 0 (lw_Z below #[Value.ref b] s) (F0 m 0 arr (([] : List Vl).map (toV rf))) := by
    intro arr hLr
    refine Ex_sound cdT mK mL mN mB mR _ (R := room_1) (hAll _ 1000) (fun pc x h => hOk pc x h) X (hnm.trans rfl) hodd hK (by decide) (by decide) n 0 _ [] [] rf s.heap [] 0 0 arr hE (okL_init (fun v hv => ?_)) (fun v hv => by cases hv) (initL_len (by decide)) hLr hS va_S.rf hP0 hD0 hw0 hR0 (by show 0 + (h.length - 0) ≤ 600000; omega) (by show 0 + (sz h - 0) ≤ 7302250; omega) ?_
    · rw [List.mem_singleton] at hv
      subst hv
      exact Or.inr (Or.inr ⟨rfl, by decide⟩)
    · intro pc op nx a b' os arr st rf' H locs cells' slots' z1 z2 z3 z4 z5 z6 z7 z8 z9 z10 z11 z12
      have hd := hOk pc _ z1
      unfold dcAll at hd
      dsimp only at hd
      rw [if_neg (by omega), if_neg (by omega), if_neg (by omega), if_neg (by omega), if_neg (by omega)] at hd
      unfold dcE at hd
      unfold retOf at z3
      have e1 : cells' ≤ 600000 := by
        rw [z11]
        show 0 + (h.length - 0) ≤ 600000
        omega
      have e2 : slots' ≤ 7302250 := by
        rw [z12]
        show 0 + (sz h - 0) ≤ 7302250
        omega
      by_cases q0 : op = 70
      · rw [if_pos q0] at hd z3
        match st, z3, z4 with
        | [v], z3, z4 =>
          change (if v.1 = b'.toNat ∧ (a = 1 → v.2 = 0 ∨ v.2 = 1) ∧ (a = 2 → 0 ≤ v.2 ∧ v.2 ≤ 65535) ∧ (a = 3 → -128 ≤ v.2 ∧ v.2 ≤ 127) then some (some v) else none) = some (some (0, 1)) at z3
          by_cases hc : v.1 = b'.toNat ∧ (a = 1 → v.2 = 0 ∨ v.2 = 1) ∧ (a = 2 → 0 ≤ v.2 ∧ v.2 ≤ 65535) ∧ (a = 3 → -128 ≤ v.2 ∧ v.2 ≤ 127)
          · rw [if_pos hc] at z3
            have z3 := Option.some.inj (Option.some.inj z3)
            subst z3
            by_cases hb0 : b' = 0
            · rw [if_pos hb0, Bool.and_eq_true] at hd
              refine va_forget (fun q hq => z6.2.2 q hq) ?_
              refine W.widen (k := 600000) (n := 7302250) e1 e2 ?_
              exact lw_ret hx hb hr hlk (dq_of hd.1)
            · rw [if_neg hb0] at hd
              by_cases hb1 : b' = 1
              · subst hb1
                exact absurd hc.1 (by decide)
              · rw [if_neg hb1, Bool.and_eq_true, beq_iff_eq] at hd
                obtain ⟨rfl, -⟩ := hd
                exact absurd hc.1 (by decide)
          · rw [if_neg hc] at z3
            cases z3
      · rw [if_neg q0] at z3
        by_cases q1 : op = 71
        · rw [if_pos q1] at z3
          match st, z3 with
          | [], z3 => cases z3
        · rw [if_neg q1] at z3
          cases z3
  have e1 : ∃ arr : Array Slot, Lr rf (initL [(2, -1)] 4) arr ∧ entryFrame m ([Value.ref b] : List Value).toArray 4 = F0 m 0 arr (([] : List Vl).map (toV rf)) := by
    rw [hmap, lg_entry_eq]
    exact ⟨_, entry_Lr (by decide), rfl⟩
  obtain ⟨arr, k1, k2⟩ := e1
  rw [k2]
  exact hfin arr k1
/-- the law's own part, but for the runs of the mini machine -/
theorem law_start2 (ML : MLaw) {p : Program} {e : Env} {s : State} {m : MethodId} {below : List Frame} {meth : Method} {c : Code} (l : Launch) {b L : Nat} {xs : Nat → Int32} (hL : L ≤ 3072) (C0 : lw_At p s m meth c b L xs) : W p l e room_1 s m #[Value.ref b] below meth c s.heap [] 0 0 (lw_Z below #[Value.ref b] s) (entryFrame m ([Value.ref b] : List Value).toArray 4) := law_start ML all_sound (fun _ _ h => (cdT_ok h).2) l hL C0
