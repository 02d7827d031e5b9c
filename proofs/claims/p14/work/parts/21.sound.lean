/-! the mini machine's runs are the machine's -/
theorem arg_at {rf : Int → Option Nat} : ∀ (as : List Vl), (argL as).length = (lg_sl (as.map (toV rf))).length ∧ ∀ (i : Nat) (v : Vl), (argL as)[i]? = some v → v.1 ≠ 9 → (lg_sl (as.map (toV rf)))[i]? = some (.val (toV rf v))
  | [] => ⟨rfl, fun i v h => by cases h⟩
  | v :: t => by
    obtain ⟨h1, h2⟩ := arg_at (rf := rf) t
    unfold argL
    have e : lg_sl ((v :: t).map (toV rf)) = (if v.1 = 1 then [Slot.val (toV rf v), Slot.second] else [Slot.val (toV rf v)]) ++ lg_sl (t.map (toV rf)) := by
      unfold lg_sl
      rw [List.map_cons, List.flatMap_cons, toV_cat]
      by_cases h : v.1 = 1
      · simp [h]
      · simp [h]
    rw [e]
    by_cases h : v.1 = 1
    · rw [if_pos h, if_pos h]
      refine ⟨by simp [h1], fun i u hu h9 => ?_⟩
      match i, hu with
      | 0, hu => cases hu; rfl
      | 1, hu => cases hu; exact absurd rfl h9
      | i + 2, hu => exact h2 i u hu h9
    · rw [if_neg h, if_neg h]
      refine ⟨by simp [h1], fun i u hu h9 => ?_⟩
      match i, hu with
      | 0, hu => cases hu; rfl
      | i + 1, hu => exact h2 i u hu h9
theorem initL_len {as : List Vl} {n : Nat} (h : (argL as).length ≤ n) : (initL as n).length = n := by
  unfold initL
  rw [List.length_append, List.length_replicate]
  omega
theorem entry_Lr {rf : Int → Option Nat} {as : List Vl} {n : Nat} (h : (argL as).length ≤ n) : Lr rf (initL as n) ((lg_sl (as.map (toV rf)) ++ List.replicate (n - (lg_sl (as.map (toV rf))).length) Slot.unset).toArray) := by
  obtain ⟨h1, h2⟩ := arg_at (rf := rf) as
  have hE := lv_entry (as.map (toV rf)) (n := n) (by rw [← h1]; exact h)
  refine ⟨by rw [initL_len h]; exact hE.1, hE.2.1, fun i v hv h9 => ?_⟩
  unfold initL at hv
  by_cases hi : i < (argL as).length
  · rw [List.getElem?_append_left hi] at hv
    have h3 := h2 i v hv h9
    rw [List.getElem?_toArray, List.getElem?_append_left (by rw [← h1]; exact hi)]
    exact h3
  · rw [List.getElem?_append_right (by omega), List.getElem?_replicate] at hv
    split at hv
    · cases hv
      exact absurd rfl h9
    · cases hv
theorem okL_argL {n : Nat} : ∀ {as : List Vl}, okS n as → okL n (argL as)
  | [], _ => fun v hv => by cases hv
  | v :: t, h => by
    have ih := okL_argL (okS_tl h)
    unfold argL
    by_cases h1 : v.1 = 1
    · rw [if_pos h1]
      intro u hu
      rcases List.mem_cons.mp hu with rfl | hu
      · exact Or.inr (okS_hd h)
      · rcases List.mem_cons.mp hu with rfl | hu
        · exact Or.inl rfl
        · exact ih u hu
    · rw [if_neg h1]
      intro u hu
      rcases List.mem_cons.mp hu with rfl | hu
      · exact Or.inr (okS_hd h)
      · exact ih u hu
theorem okL_init {n k : Nat} {as : List Vl} (h : okS n as) : okL n (initL as k) := by
  intro v hv
  unfold initL at hv
  rcases List.mem_append.mp hv with hv | hv
  · exact okL_argL h v hv
  · rw [List.eq_of_mem_replicate hv]
    exact Or.inl rfl
section SND
variable (cd : Nat → Nat → Option Op) (mk ml : Nat → Nat) (mN : Nat → MethodName) (mB : Nat → ByteArray) (mR : Nat → Option FieldType) (sc : List Int)
def wsM (y : Nat) : List Cond := .code (mN y) (mB y) (ml y) (mR y) :: lw_g
def dcC (own : String) (cc : ByteArray) (pc op nx : Nat) (a b : Int) (os : List Int) : Bool :=
  let y := a.toNat
  let g := fun k : Nat => (os.getD k 0).toNat
  (nx == pc + 3 && (decide ((mN y).cls ≠ "java/lang/invoke/MethodHandle" ∧ (mN y).cls ≠ "java/lang/invoke/VarHandle" ∧ (parseMethodDescriptor (mN y).desc).map (fun d => d.parameters.length) = some b.toNat) && (decide (ml y ≤ 45) && (wc (g 2) (.code (mN y) (mB y) (ml y) (mR y)) && wq (g 3) (.initialized (mN y).cls))))) &&
  ((if g 6 = 0 then wq (g 0) (.methodLink own (g 1) (mN y)) else wq (g 0) (.methodLinkNest own (g 1) (mN y) RX11)) &&
  (if op = 60 then dq cc pc (.invokevirtual (g 1)) 3 && (wq (g 4) (.instanceMethod (mN y)) && (wq (g 5) (.selects (mN y).cls (mN y) (mN y)) && ((decide (mk y < 14) && decide ((clAt (mk y : Int)).1 = (mN y).cls)) || (decide (mk y = 98) && decide ((mN y).cls = "java/lang/String")))))
   else if op = 61 then dq cc pc (.invokestatic (g 1)) 3 && wq (g 4) (.static (mN y))
   else if op = 62 then dq cc pc (.invokespecial (g 1)) 3 && (wq (g 4) (.instanceMethod (mN y)) && (decide ((mN y).name = "<init>") && (decide (mR y = none) && decide (mk y ≠ 98))))
   else false))
def dcE (y : Nat) (cc : ByteArray) (pc op : Nat) (a b : Int) : Bool :=
  if op = 70 then
    (if b = 0 then dq cc pc .ireturn 1 && ((a == 0 && decide (mR y = some .int)) || (a == 1 && decide (mR y = some .boolean)) || (a == 2 && decide (mR y = some .char)) || (a == 3 && decide (mR y = some .byte)))
     else if b = 1 then dq cc pc .lreturn 1 && decide (mR y = some .long)
     else b == 2 && (dq cc pc .areturn 1 && (match mR y with
       | some (.object _) => true
       | some (.array _) => true
       | _ => false)))
  else op == 71 && (dq cc pc .return_ 1 && decide (mR y = none))
/-- the whole check of an instruction -/
def dcAll (y : Nat) (pc : Nat) (x : Op) : Bool :=
  let own := (mN y).cls
  let cc := mB y
  let (op, nx, a, b, os) := x
  if op < 20 then dcP own cc pc op nx a b os
  else if op < 30 then dcB cc pc op nx a b os
  else if op < 40 then dcH own cc pc op nx a b os
  else if op < 60 then dcX own (mN y).name cc pc op nx a b os
  else if op < 70 then dcC mk ml mN mB mR own cc pc op nx a b os
  else dcE mR y cc pc op a b
/-- what a call gives -/
def Sound (cal : Nat → List Vl → Hp → Option Vl → Hp → Prop) (d : Nat) : Prop :=
  ∀ (y : Nat) (as : List Vl) (hp : Hp) (r : Option Vl) (hp' : Hp), cal y as hp r hp' → hp.length ≤ hp'.length ∧ sz hp ≤ sz hp' ∧
    ∀ (l : Launch) (base : Nat) (D : va_G) (cA : Nat → ClassId) (rf : Int → Option Nat), okS hp.length as → wfH hp → va_D (A0 base) (wld rf cA hp) → Rf base rf hp.length →
      Met l (mN y) (wsM ml mN mB mR y) (rmM d (hp'.length - hp.length) (sz hp' - sz hp)) (PcM base D cA rf sc as hp) (QcM base D cA rf hp r hp') (hp'.length - hp.length) (sz hp' - sz hp) (A0 base)
section CALLS
variable {p : Program} {l : Launch} {e : Env} {R : Room} {s : State} {m : MethodId} {args : Array Value} {below : List Frame} {meth : Method} {c : Code} {H : Heap} {locs : List Loc} {cells slots : Nat} {Q : State → Prop}
variable {cc : ByteArray} {nL : Nat} {own : String} {base : Nat} {rf : Int → Option Nat} {st st' : List Vl} {arr : Array Slot} {D : va_G} {cA : Nat → ClassId} {hp hp' : Hp}
/-- behind a call -/
theorem call_on {mc ms pc : Nat} {st0 : List Value} {rest : List Vl} {r : Option Vl} {aa : Array Value} (hr : va_Run p l e R s m args below meth c H locs cells slots mc ms (F0 m pc arr st0) (rest.map (toV rf)) (QcM base D cA rf hp r hp' aa) (A0 base)) (hSS : va_S (A0 base) s.heap H locs) (hrest : okS hp.length rest)
    (k : ∀ (rf' : Int → Option Nat) (H' : Heap) (locs' : List Loc), (∀ x : Int, x ≤ hp.length → rf' x = rf x) → va_P D vwCl (wld rf' cA hp') H' → va_D (A0 base) (wld rf' cA hp') → va_S (A0 base) s.heap H' locs' → wfH hp' → Rf base rf' hp'.length → (∀ v, r = some v → okV hp'.length v) → W p l e R s m args below meth c H' locs' (cells + mc) (slots + ms) Q (F0 m (pc + 3) arr ((pshR r rest).map (toV rf')))) : W p l e R s m args below meth c H locs cells slots Q (F0 m pc arr st0) := by
  intro T hT X
  obtain ⟨v, st₀, t, T', L, g0, X', hL, e1, e2, ⟨rf', q1, q2, q3, q4, q5, q6, q7, q8⟩, st⟩ := hr T hT X
  have q2 := (Outcome.returned.inj q2)
  have hz := q8.1
  have hk := q8.2
  rw [g0] at hz hk
  rw [← e1] at q3 hz hk
  have hS' : va_S (A0 base) s.heap T'.heap (locs ++ L) := ⟨Nat.le_trans hSS.1 hz, fun q h1 h2 => by rw [hk q (Nat.lt_of_lt_of_le h1 hSS.1) h2]; exact hSS.2.1 q h1 h2, fun q hq => by
    rcases List.mem_append.mp hq with h | h
    · exact hSS.2.2 q h
    · exact hL q h⟩
  have e3 : (pshR r rest).map (toV rf') = v.toList ++ rest.map (toV rf) := by
    rw [q2]
    cases r with
    | none => exact toVs_ext q1 hrest
    | some w =>
      show toV rf' w :: rest.map (toV rf') = toV rf' w :: rest.map (toV rf)
      rw [toVs_ext q1 hrest]
  have kk := k rf' T'.heap (locs ++ L) q1 q3 q4 hS' q5 q6 q7
  rw [e3] at kk
  obtain ⟨t2, a1, b1⟩ := kk T' rfl X'
  exact ⟨t2, st t2 a1, b1⟩
theorem wsM_good {y i : Nat} (h : wc i (.code (mN y) (mB y) (ml y) (mR y)) = true) : GoodIn lw_use (wsM ml mN mB mR y) := by
  intro w hw
  rcases List.mem_cons.mp hw with rfl | hw
  · exact ⟨wc_of h, Or.inl rfl⟩
  · exact ⟨g_use hw, good_of_word (List.mem_filter.mp hw).2⟩
theorem snd_call {cal : Nat → List Vl → Hp → Option Vl → Hp → Prop} {d : Nat} (CC : Sound ml mN mB mR sc cal d) (X : Cx p s m args c cc nL own) (hodd : ∀ w ∈ lw_odd, w.before #[] s = true) (hS : Stt base rf sc s) (hSS : va_S (A0 base) s.heap H locs) (hK : va_K D vwCl (ktys cA) s) (hP : va_P D vwCl (wld rf cA hp) H) (hD : va_D (A0 base) (wld rf cA hp)) (hw : wfH hp) (hR : Rf base rf hp.length)
    (harr : arr.size = nL) (hfr : d + 1 ≤ R.frames) (hlo : 64 * d + 64 ≤ R.locals) {pc op nx : Nat} {a b : Int} {os : List Int} {as : List Vl} {r : Option Vl} (hd : dcC mk ml mN mB mR own cc pc op nx a b os = true) (hpop : popA op b st = some (as, st')) (hrc : rcv op (mk a.toNat) hp as) (hcal : cal a.toNat as hp r hp') (hst : okS hp.length st)
    (hcells : cells + (hp'.length - hp.length) ≤ R.cells) (hslots : slots + (sz hp' - sz hp) ≤ R.slots)
    (k : ∀ (rf' : Int → Option Nat) (H' : Heap) (locs' : List Loc), (∀ x : Int, x ≤ hp.length → rf' x = rf x) → va_P D vwCl (wld rf' cA hp') H' → va_D (A0 base) (wld rf' cA hp') → va_S (A0 base) s.heap H' locs' → wfH hp' → Rf base rf' hp'.length → (∀ v, r = some v → okV hp'.length v) → W p l e R s m args below meth c H' locs' (cells + (hp'.length - hp.length)) (slots + (sz hp' - sz hp)) Q (F0 m nx arr ((pshR r st').map (toV rf')))) : W p l e R s m args below meth c H locs cells slots Q (F0 m pc arr (st.map (toV rf))) := by
  obtain ⟨hx, hb, hml, hown, hts⟩ := X
  unfold dcC at hd
  simp only [Bool.and_eq_true, beq_iff_eq] at hd
  obtain ⟨⟨rfl, hdd, hml45, hwc, hwi⟩, hlk, hop⟩ := hd
  have hdd := of_decide_eq_true hdd
  have hml45 := of_decide_eq_true hml45
  unfold popA at hpop
  dsimp only at hpop
  generalize hn : b.toNat + (if op = 61 then 0 else 1) = n at hpop
  have hc : n ≤ st.length ∧ wds (st.drop n) ≤ 8 := by
    by_cases hc : n ≤ st.length ∧ wds (st.drop n) ≤ 8
    · exact hc
    · rw [if_neg hc] at hpop
      cases hpop
  rw [if_pos hc] at hpop
  have hpop := Prod.ext_iff.mp (Option.some.inj hpop)
  obtain ⟨e1, e2⟩ := hpop
  dsimp only at e1 e2
  have hst' : okS hp.length st' := fun v hv => hst v (by rw [← e2] at hv; exact List.mem_of_mem_drop hv)
  have has : okS hp.length as := fun v hv => hst v (by rw [← e1] at hv; exact List.mem_of_mem_take (List.mem_reverse.mp hv))
  have hlen : as.length = n := by rw [← e1, List.length_reverse, List.length_take]; omega
  have hsplit : st = as.reverse ++ st' := by rw [← e1, ← e2, List.reverse_reverse, List.take_append_drop]
  have hcat : ((st'.map (toV rf)).map fun v => v.category).sum ≤ 8 := by
    have e3 : ((st'.map (toV rf)).map fun v => v.category).sum = wds st' := by
      unfold wds
      rw [List.map_map]
      congr 1
      apply List.map_congr_left
      intro v _
      exact toV_cat rf v
    rw [e3, ← e2]
    exact hc.2
  obtain ⟨hle1, hle2, hM⟩ := CC _ _ _ _ _ hcal
  have hM := hM l base D cA rf has hw hD hR
  have hgood := wsM_good ml mN mB mR hwc
  have hroom : (rmM d (hp'.length - hp.length) (sz hp' - sz hp)).frames + 1 ≤ R.frames ∧ 8 + (ml a.toNat + 11) + (rmM d (hp'.length - hp.length) (sz hp' - sz hp)).locals ≤ R.locals := ⟨hfr, by show 8 + (ml a.toNat + 11) + 64 * d ≤ R.locals; omega⟩
  have hS0 : CallFix p m c cc nL s args lw_use own := ⟨hx, hb, hml, hown, hts⟩
  have hPU : ∀ U : State, U.heap = H → s.WarmedH U.vm → PcM base D cA rf sc as hp (as.map (toV rf)).toArray U := fun U hU hW => ⟨rfl, by rw [hU]; exact hP, va_K.moved hW.alike hK, Stt_moved (locs := locs) hW (by rw [hU]; exact hSS) hS, fun w hw => odd_warm hw hW (hodd w hw)⟩
  by_cases q0 : op = 60
  · rw [if_pos q0] at hop
    simp only [Bool.and_eq_true] at hop
    obtain ⟨hdq, hw4, hw5, hkk⟩ := hop
    obtain ⟨rr, tl, ba, has2, hcr, hrecv⟩ : ∃ (rr : Int) (tl : List Vl) (ba : Nat), as = (2, rr) :: tl ∧ toV rf (2, rr) = .ref ba ∧ ∃ cell : Cell, H[ba]? = some cell ∧ cell.vm.isStatics = false ∧ s.vm.findClass (mN a.toNat).cls = some cell.cls := by
      rcases hrc with h61 | ⟨rr, lr, tl, has2, hcr⟩ | ⟨h98, rr, tl, has2, h1, h2⟩
      · omega
      · rw [Bool.or_eq_true, Bool.and_eq_true, Bool.and_eq_true] at hkk
        have hk14 : mk a.toNat < 14 ∧ (clAt (mk a.toNat : Int)).1 = (mN a.toNat).cls := by
          rcases hkk with ⟨z1, z2⟩ | ⟨z1, -⟩
          · exact ⟨of_decide_eq_true z1, of_decide_eq_true z2⟩
          · exfalso
            have z1 := of_decide_eq_true z1
            have hwl := hw.at (cel_of hcr).2.1
            have := hwl.2.1 (show 14 ≤ mk a.toNat by omega)
            rw [z1] at this
            have := this.2.1
            dsimp only at this
            omega
        have hcl := clAt_of (k := mk a.toNat) rfl hk14.1
        obtain ⟨-, hat, -⟩ := cel_of hcr
        have hwl := wld_at (rf := rf) (cA := cA) hat
        rw [ent_o (show ((mk a.toNat, lr) : Nat × List Int).1 < 14 from hk14.1)] at hwl
        exact ⟨rr, tl, _, has2, ref_of hR hcr, by rw [← hk14.2]; exact va_recv hK hP hcl hwl⟩
      · rw [Bool.or_eq_true, Bool.and_eq_true, Bool.and_eq_true] at hkk
        have hcs : (mN a.toNat).cls = "java/lang/String" := by
          rcases hkk with ⟨z1, -⟩ | ⟨-, z2⟩
          · have := of_decide_eq_true z1
            omega
          · exact of_decide_eq_true z2
        obtain ⟨-, -, -, -, adK, adV, hV, hkr, -⟩ := hS
        obtain ⟨i, hi⟩ : ∃ i : Nat, rr = -10 - (i : Int) := ⟨(-10 - rr).toNat, by omega⟩
        have hi23 : i < 23 := by omega
        refine ⟨rr, tl, adK i, has2, ?_, ?_⟩
        · rw [toV_r, hi, (hkr i hi23).1]
          rfl
        · rw [hcs]
          exact vk_recv hV hi23 hSS
    subst has2
    have hn1 : tl.length = b.toNat := by
      rw [List.length_cons] at hlen
      rw [if_neg (by omega)] at hn
      omega
    have hPV : PreV s H (mN a.toNat).cls ba (PcM base D cA rf sc ((2, rr) :: tl) hp) (tl.map (toV rf)) := by
      refine ⟨InvM_blind, hrecv, fun U hU hW => ?_⟩
      have := hPU U hU hW
      rw [List.map_cons, hcr] at this
      exact this
    have hstk : st.map (toV rf) = (tl.map (toV rf)).reverse ++ .ref ba :: st'.map (toV rf) := by
      rw [hsplit, List.map_append, List.reverse_cons, List.map_append, List.map_reverse, List.append_assoc, List.map_cons, hcr]
      rfl
    rw [hstk]
    have hW8 : 2 * (F0 m pc arr ((tl.map (toV rf)).reverse ++ .ref ba :: st'.map (toV rf))).monitorRoom + ((st'.map (toV rf)).map fun v => v.category).sum ≤ 8 := by show 2 * 0 + _ ≤ _; omega
    by_cases g6 : (os.getD 6 0).toNat = 0
    · rw [if_pos g6] at hlk
      have cw : CallW R s args own (mN a.toNat).cls (os.getD 1 0).toNat (mN a.toNat) (mB a.toNat) (ml a.toNat) (mR a.toNat) (wsM ml mN mB mR a.toNat) (rmM d (hp'.length - hp.length) (sz hp' - sz hp)) (hp'.length - hp.length) (sz hp' - sz hp) b.toNat := by
        refine cwV b.toNat hts (fun w hw => ?_) rfl rfl rfl ⟨rfl, hdd⟩ hroom
        unfold wsV at hw
        rcases List.mem_append.mp hw with hw | hw
        · simp only [List.mem_cons, List.not_mem_nil, or_false] at hw
          rcases hw with rfl | rfl | rfl | rfl
          · exact ⟨wq_of hlk, Or.inl rfl⟩
          · exact ⟨wq_of hw4, Or.inl rfl⟩
          · exact ⟨wq_of hw5, Or.inl rfl⟩
          · exact ⟨wq_of hwi, Or.inl rfl⟩
        · exact hgood w hw
      exact call_on (va_runV hS0 hM cw hPV rfl (by rw [List.length_map]; exact hn1) harr rfl hW8 (dq_of hdq) ⟨hcells, hslots⟩) hSS hst' k
    · rw [if_neg g6] at hlk
      have cw : va_CN R s args own (os.getD 1 0).toNat (mN a.toNat) RX11 (mB a.toNat) (ml a.toNat) (mR a.toNat) (wsM ml mN mB mR a.toNat) (rmM d (hp'.length - hp.length) (sz hp' - sz hp)) (hp'.length - hp.length) (sz hp' - sz hp) b.toNat := va_cnB b.toNat hts hgood rfl rfl rfl (va_Nw.of rfl (hts _ (wq_of hlk))) (hts _ (wq_of hwi)) hdd hroom
      exact call_on (va_runVN hS0 hM ⟨cw, hts _ (wq_of hw4), hts _ (wq_of hw5)⟩ hPV rfl (by rw [List.length_map]; exact hn1) harr rfl hW8 (dq_of hdq) ⟨hcells, hslots⟩) hSS hst' k
  rw [if_neg q0] at hop
  by_cases q1 : op = 61
  · rw [if_pos q1] at hop
    simp only [Bool.and_eq_true] at hop
    obtain ⟨hdq, hw4⟩ := hop
    have hn1 : as.length = b.toNat := by rw [if_pos q1] at hn; omega
    have hPS : PreS s H (PcM base D cA rf sc as hp) (as.map (toV rf)) := ⟨InvM_blind, hPU⟩
    have hstk : st.map (toV rf) = (as.map (toV rf)).reverse ++ st'.map (toV rf) := by rw [hsplit, List.map_append, List.map_reverse]
    rw [hstk]
    have hW8 : 2 * (F0 m pc arr ((as.map (toV rf)).reverse ++ st'.map (toV rf))).monitorRoom + ((st'.map (toV rf)).map fun v => v.category).sum ≤ 8 := by show 2 * 0 + _ ≤ _; omega
    by_cases g6 : (os.getD 6 0).toNat = 0
    · rw [if_pos g6] at hlk
      have cw : CallB R s args own (os.getD 1 0).toNat (mN a.toNat) (mB a.toNat) (ml a.toNat) (mR a.toNat) (wsM ml mN mB mR a.toNat) (rmM d (hp'.length - hp.length) (sz hp' - sz hp)) (hp'.length - hp.length) (sz hp' - sz hp) b.toNat ∧ (Cond.static (mN a.toNat)).before args s = true :=
        ⟨callB_of b.toNat hts hgood rfl rfl rfl (hts _ (wq_of hwi)) (hts _ (wq_of hlk)) hdd hroom, hts _ (wq_of hw4)⟩
      exact call_on (va_runS hS0 hM cw hPS rfl (by rw [List.length_map]; exact hn1) harr rfl hW8 (dq_of hdq) ⟨hcells, hslots⟩) hSS hst' k
    · rw [if_neg g6] at hlk
      have cw : va_CN R s args own (os.getD 1 0).toNat (mN a.toNat) RX11 (mB a.toNat) (ml a.toNat) (mR a.toNat) (wsM ml mN mB mR a.toNat) (rmM d (hp'.length - hp.length) (sz hp' - sz hp)) (hp'.length - hp.length) (sz hp' - sz hp) b.toNat := va_cnB b.toNat hts hgood rfl rfl rfl (va_Nw.of rfl (hts _ (wq_of hlk))) (hts _ (wq_of hwi)) hdd hroom
      exact call_on (va_runSN hS0 hM ⟨cw, hts _ (wq_of hw4), trivial⟩ hPS rfl (by rw [List.length_map]; exact hn1) harr rfl hW8 (dq_of hdq) ⟨hcells, hslots⟩) hSS hst' k
  rw [if_neg q1] at hop
  by_cases q2 : op = 62
  · rw [if_pos q2] at hop
    simp only [Bool.and_eq_true] at hop
    obtain ⟨hdq, hw4, hnm, hret, hn98⟩ := hop
    have hnm := of_decide_eq_true hnm
    have hret := of_decide_eq_true hret
    have hn98 := of_decide_eq_true hn98
    rcases hrc with h61 | ⟨rr, lr, tl, has2, hcr⟩ | ⟨h98, -⟩
    · omega
    rotate_left
    · exact absurd h98 hn98
    subst has2
    have hn1 : tl.length = b.toNat := by
      rw [List.length_cons] at hlen
      rw [if_neg (by omega)] at hn
      omega
    have hPS : PreS s H (PcM base D cA rf sc ((2, rr) :: tl) hp) (.ref (adr rf (rr.toNat - 1)) :: tl.map (toV rf)) := by
      refine ⟨InvM_blind, fun U hU hW => ?_⟩
      have := hPU U hU hW
      rw [List.map_cons, ref_of hR hcr] at this
      exact this
    have hstk : st.map (toV rf) = (tl.map (toV rf)).reverse ++ .ref (adr rf (rr.toNat - 1)) :: st'.map (toV rf) := by
      rw [hsplit, List.map_append, List.reverse_cons, List.map_append, List.map_reverse, List.append_assoc, List.map_cons, ref_of hR hcr]
      rfl
    rw [hstk]
    have hW8 : 2 * (F0 m pc arr ((tl.map (toV rf)).reverse ++ .ref (adr rf (rr.toNat - 1)) :: st'.map (toV rf))).monitorRoom + ((st'.map (toV rf)).map fun v => v.category).sum ≤ 8 := by show 2 * 0 + _ ≤ _; omega
    have hgood2 := hgood
    have hM2 := hM
    unfold wsM at hgood2 hM2
    rw [hret] at hgood2 hM2
    by_cases g6 : (os.getD 6 0).toNat = 0
    · rw [if_pos g6] at hlk
      exact call_on (va_runI hS0 hM2 (cwI b.toNat hts hgood2 rfl rfl rfl (hts _ (wq_of hwi)) (hts _ (wq_of hlk)) (hts _ (wq_of hw4)) hnm hdd hroom) hPS rfl (by rw [List.length_map]; exact hn1) harr rfl hW8 (dq_of hdq) ⟨hcells, hslots⟩) hSS hst' k
    · rw [if_neg g6] at hlk
      exact call_on (va_runIN hS0 hM2 ⟨va_cnB b.toNat hts hgood2 rfl rfl rfl (va_Nw.of rfl (hts _ (wq_of hlk))) (hts _ (wq_of hwi)) hdd hroom, hnm, hts _ (wq_of hw4)⟩ hPS rfl (by rw [List.length_map]; exact hn1) harr rfl hW8 (dq_of hdq) ⟨hcells, hslots⟩) hSS hst' k
  rw [if_neg q2] at hop
  cases hop
end CALLS
end SND
