/-! runs of the mini machine are runs of the machine -/
section RUN
variable (cd : Nat → Nat → Option Op) (mk ml : Nat → Nat) (mN : Nat → MethodName) (mB : Nat → ByteArray) (mR : Nat → Option FieldType) (sc : List Int)
theorem Ex_len {cal : Nat → List Vl → Hp → Option Vl → Hp → Prop} (hc : ∀ y as hp r hp', cal y as hp r hp' → hp.length ≤ hp'.length ∧ sz hp ≤ sz hp') {y : Nat} : ∀ (n pc : Nat) (ls st : List Vl) (hp : Hp) (r : Option Vl) (h : Hp), Ex cd mk sc stxt cal y n pc ls st hp r h → hp.length ≤ h.length ∧ sz hp ≤ sz h
  | 0, _, _, _, _, _, _, h => h.elim
  | n + 1, pc, ls, st, hp, r, h, hx => by
    obtain ⟨op, nx, a, b, os, -, hx⟩ := hx
    rcases hx with ⟨-, ls', st', -, hx⟩ | ⟨-, -, p', st', -, hx⟩ | ⟨-, -, st', -, hx⟩ | ⟨-, -, hp', st', hw, hx⟩ | ⟨-, -, as, st', r1, hp1, -, -, hcal, hx⟩ | ⟨-, -, rfl⟩
    · exact Ex_len hc n _ _ _ _ _ _ hx
    · exact Ex_len hc n _ _ _ _ _ _ hx
    · exact Ex_len hc n _ _ _ _ _ _ hx
    · have h1 := Ex_len hc n _ _ _ _ _ _ hx
      have h2 := (wst_ok hw).2
      exact ⟨Nat.le_trans h2.1 h1.1, Nat.le_trans h2.2 h1.2⟩
    · have h1 := Ex_len hc n _ _ _ _ _ _ hx
      have h2 := hc _ _ _ _ _ hcal
      exact ⟨Nat.le_trans h2.1 h1.1, Nat.le_trans h2.2 h1.2⟩
    · exact ⟨Nat.le_refl _, Nat.le_refl _⟩
theorem inj_of {base n : Nat} {rf : Int → Option Nat} {cA : Nat → ClassId} {hp : Hp} {s : State} (hS : Stt base rf sc s) (hD : va_D (A0 base) (wld rf cA hp)) (hR : Rf base rf hp.length) (hn : n = hp.length) : ∀ x y : Int, (-2 ≤ x ∧ x ≠ -1) → (-2 ≤ y ∧ y ≠ -1) → x ≤ n → y ≤ n → rf x = rf y → x = y := by
  subst hn
  obtain ⟨-, h0, ⟨t, h2, -, hT⟩, -⟩ := hS
  have ht : t < base := by
    obtain ⟨cell, -, -, -, -, -, -, h7⟩ := hT
    exact Nat.lt_of_not_le h7
  have big : ∀ x : Int, 0 < x → x ≤ hp.length → ∃ q, rf x = some q ∧ base ≤ q ∧ q = adr rf (x.toNat - 1) := fun x hx hn => by
    have e := adr_of hR hx hn
    exact ⟨_, e, adr_in hD (by omega), rfl⟩
  intro x y hx hy hxn hyn he
  have cx : x = -2 ∨ x = 0 ∨ 0 < x := by omega
  have cy : y = -2 ∨ y = 0 ∨ 0 < y := by omega
  rcases cx with rfl | rfl | hx0
  · rcases cy with rfl | rfl | hy0
    · rfl
    · rw [h0, h2] at he; cases he
    · obtain ⟨q, e1, e2, -⟩ := big y hy0 hyn
      rw [h2, e1] at he
      have := Option.some.inj he
      omega
  · rcases cy with rfl | rfl | hy0
    · rw [h0, h2] at he; cases he
    · rfl
    · obtain ⟨q, e1, e2, -⟩ := big y hy0 hyn
      rw [h0, e1] at he
      cases he
  · obtain ⟨q, e1, e2, e3⟩ := big x hx0 hxn
    rcases cy with rfl | rfl | hy0
    · rw [h2, e1] at he
      have := Option.some.inj he
      omega
    · rw [h0, e1] at he
      cases he
    · obtain ⟨q', g1, g2, g3⟩ := big y hy0 hyn
      rw [e1, g1] at he
      have e := Option.some.inj he
      rw [e3, g3] at e
      have := adr_inj hD (by omega) (by omega) e
      omega
section EXS
variable {p : Program} {l : Launch} {e : Env} {R : Room} {s : State} {m : MethodId} {args : Array Value} {below : List Frame} {meth : Method} {c : Code} {Q : State → Prop} {base : Nat} {D : va_G} {cA : Nat → ClassId}
/-- what is wanted where the run ends -/
def FIN (p : Program) (l : Launch) (e : Env) (R : Room) (s : State) (m : MethodId) (args : Array Value) (below : List Frame) (meth : Method) (c : Code) (Q : State → Prop) (base : Nat) (D : va_G) (cA : Nat → ClassId) (y : Nat) (r : Option Vl) (h hp : Hp) (rf : Int → Option Nat) (cells slots : Nat) : Prop :=
  ∀ (pc op nx : Nat) (a b : Int) (os : List Int) (arr : Array Slot) (st : List Vl) (rf' : Int → Option Nat) (H : Heap) (locs : List Loc) (cells' slots' : Nat), cd y pc = some (op, nx, a, b, os) → 70 ≤ op → retOf op a b st = some r → okS h.length st → (∀ x : Int, x ≤ hp.length → rf' x = rf x) → va_S (A0 base) s.heap H locs → va_P D vwCl (wld rf' cA h) H → va_D (A0 base) (wld rf' cA h) → wfH h → Rf base rf' h.length → cells' = cells + (h.length - hp.length) → slots' = slots + (sz h - sz hp) → W p l e R s m args below meth c H locs cells' slots' Q (F0 m pc arr (st.map (toV rf')))
theorem Ex_sound {cal : Nat → List Vl → Hp → Option Vl → Hp → Prop} {d y nL : Nat} (CC : Sound ml mN mB mR sc cal d) (hchk : ∀ pc x, cd y pc = some x → dcAll mk ml mN mB mR y pc x = true)
    (X : Cx p s m args c (mB y) nL (mN y).cls) (hmn : meth.name = (mN y).name) (hodd : ∀ w ∈ lw_odd, w.before #[] s = true) (hK : va_K D vwCl (ktys cA) s) (hfr : d + 1 ≤ R.frames) (hlo : 64 * d + 64 ≤ R.locals)
    {r : Option Vl} {h : Hp} : ∀ (n pc : Nat) (ls st : List Vl) (hp : Hp) (rf : Int → Option Nat) (H : Heap) (locs : List Loc) (cells slots : Nat) (arr : Array Slot), Ex cd mk sc stxt cal y n pc ls st hp r h → okL hp.length ls → okS hp.length st → ls.length = nL → Lr rf ls arr → Stt base rf sc s → va_S (A0 base) s.heap H locs → va_P D vwCl (wld rf cA hp) H → va_D (A0 base) (wld rf cA hp) → wfH hp → Rf base rf hp.length → cells + (h.length - hp.length) ≤ R.cells → slots + (sz h - sz hp) ≤ R.slots →
      FIN cd p l e R s m args below meth c Q base D cA y r h hp rf cells slots → W p l e R s m args below meth c H locs cells slots Q (F0 m pc arr (st.map (toV rf)))
  | 0, _, _, _, _, _, _, _, _, _, _, hx, _, _, _, _, _, _, _, _, _, _, _, _, _ => hx.elim
  | n + 1, pc, ls, st, hp, rf, H, locs, cells, slots, arr, hx, hl, hst, hnL, hL, hS, hSS, hP, hD, hw, hR, hcells, hslots, fin => by
    obtain ⟨op, nx, a, b, os, hcd, hx⟩ := hx
    have hd := hchk pc _ hcd
    unfold dcAll at hd
    dsimp only at hd
    have hlen := fun y as hp r hp' hc => (show hp.length ≤ hp'.length ∧ sz hp ≤ sz hp' from ⟨(CC y as hp r hp' hc).1, (CC y as hp r hp' hc).2.1⟩)
    rcases hx with ⟨h1, ls', st', hp2, hx⟩ | ⟨h1, h2, p', st', hp2, hx⟩ | ⟨h1, h2, st', hp2, hx⟩ | ⟨h1, h2, hp', st', hp2, hx⟩ | ⟨h1, h2, as, st', r1, hp1, hpop, hrc, hcal, hx⟩ | ⟨h1, hret, rfl⟩
    · rw [if_pos h1] at hd
      obtain ⟨k1, k2, k3⟩ := pst_ok hd hp2 hl hst
      exact snd_pst X hS hSS hd hp2 hL hst (fun arr' hL' => Ex_sound CC hchk X hmn hodd hK hfr hlo n nx ls' st' hp rf H locs cells slots arr' hx k1 k2 (k3.trans hnL) hL' hS hSS hP hD hw hR hcells hslots fin)
    · rw [if_neg (by omega), if_pos h2] at hd
      have k2 := bst_ok hp2 hst
      exact snd_bst (n := hp.length) X hS.2.1 hR (inj_of sc hS hD hR rfl) hd hp2 hst (Ex_sound CC hchk X hmn hodd hK hfr hlo n p' ls st' hp rf H locs cells slots arr hx hl k2 hnL hL hS hSS hP hD hw hR hcells hslots fin)
    · rw [if_neg (by omega), if_neg (by omega), if_pos h2] at hd
      have hsc : (∀ x ∈ sc, in32 x) ∧ sc.length ≤ 100000 := by
        obtain ⟨-, -, -, ⟨_, -, -, -, hsc⟩, -⟩ := hS
        exact hsc
      have k2 := rst_ok hsc hw (dcH_32 hd) hp2 hst
      exact snd_hst X hS hSS hK hP hw hR (by rw [hL.1]; exact hnL) (by omega) (by omega) (by omega) (by omega) hd hp2 hst (Ex_sound CC hchk X hmn hodd hK hfr hlo n nx ls st' hp rf H locs cells slots arr hx hl k2 hnL hL hS hSS hP hD hw hR hcells hslots fin)
    · rw [if_neg (by omega), if_neg (by omega), if_neg (by omega), if_pos h2] at hd
      obtain ⟨k1, k2, k3⟩ := wst_ok hp2
      obtain ⟨g1, g2⟩ := Ex_len cd mk sc hlen n _ _ _ _ _ _ hx
      refine snd_wst X hmn hS hSS hK hP hD hw hR (by rw [hL.1]; exact hnL) (by omega) (by omega) hd hp2 hst (by omega) (by omega) ?_
      intro rf' H' locs' cells' slots' q1 q2 q3 q4 q5 q6 q7 q8
      exact Ex_sound CC hchk X hmn hodd hK hfr hlo n nx ls st' hp' rf' H' locs' cells' slots' arr hx (hl.mono k2) (k1 hst) hnL (Lr_ext q1 hl hL) (Stt_ext q1 hS) q4 q2 q3 q5 q6 (by omega) (by omega)
        (fun pc op nx a b os arr st rf2 H locs cells2 slots2 z1 z2 z3 z4 z5 z6 z7 z8 z9 z10 z11 z12 => fin pc op nx a b os arr st rf2 H locs cells2 slots2 z1 z2 z3 z4 (fun x hx => by rw [z5 x (by omega), q1 x hx]) z6 z7 z8 z9 z10 (by omega) (by omega))
    · rw [if_neg (by omega), if_neg (by omega), if_neg (by omega), if_neg (by omega), if_pos h2] at hd
      obtain ⟨k2, k3⟩ := hlen _ _ _ _ _ hcal
      obtain ⟨g1, g2⟩ := Ex_len cd mk sc hlen n _ _ _ _ _ _ hx
      have hst' : okS hp.length st' := by
        unfold popA at hpop
        dsimp only at hpop
        generalize b.toNat + (if op = 61 then 0 else 1) = k at hpop
        split at hpop
        · have hpop := Prod.ext_iff.mp (Option.some.inj hpop)
          obtain ⟨-, e2⟩ := hpop
          dsimp only at e2
          intro v hv
          rw [← e2] at hv
          exact hst v (List.mem_of_mem_drop hv)
        · cases hpop
      refine snd_call mk ml mN mB mR sc CC X hodd hS hSS hK hP hD hw hR (by rw [hL.1]; exact hnL) hfr hlo hd hpop hrc hcal hst (by omega) (by omega) ?_
      intro rf' H' locs' q1 q2 q3 q4 q5 q6 q7
      have hok : okS hp1.length (pshR r1 st') := by
        cases r1 with
        | none => exact hst'.mono k2
        | some w => exact okS_cons (q7 w rfl) (hst'.mono k2)
      exact Ex_sound CC hchk X hmn hodd hK hfr hlo n nx ls _ hp1 rf' H' locs' _ _ arr hx (hl.mono k2) hok hnL (Lr_ext q1 hl hL) (Stt_ext q1 hS) q4 q2 q3 q5 q6 (by omega) (by omega)
        (fun pc op nx a b os arr st rf2 H locs cells2 slots2 z1 z2 z3 z4 z5 z6 z7 z8 z9 z10 z11 z12 => fin pc op nx a b os arr st rf2 H locs cells2 slots2 z1 z2 z3 z4 (fun x hx => by rw [z5 x (by omega), q1 x hx]) z6 z7 z8 z9 z10 (by omega) (by omega))
    · exact fin pc op nx a b os arr st rf H locs cells slots hcd h1 hret hst (fun _ _ => rfl) hSS hP hD hw hR (by omega) (by omega)
end EXS
theorem ret_ok {op n : Nat} {a b : Int} {st : List Vl} {r : Option Vl} (h : retOf op a b st = some r) (hs : okS n st) : ∀ v, r = some v → okV n v := by
  unfold retOf at h
  intro v hv
  subst hv
  by_cases q0 : op = 70
  · rw [if_pos q0] at h
    match st, h, hs with
    | [w], h, hs =>
      dsimp only at h
      split at h
      · cases h
        exact okS_hd hs
      · cases h
  · rw [if_neg q0] at h
    by_cases q1 : op = 71
    · rw [if_pos q1] at h
      match st, h with
      | [], h => cases h
    · rw [if_neg q1] at h
      cases h
theorem Sound_succ {cal : Nat → List Vl → Hp → Option Vl → Hp → Prop} {d : Nat} (CC : Sound ml mN mB mR sc cal d) (hchk : ∀ y pc x, cd y pc = some x → dcAll mk ml mN mB mR y pc x = true) (hpl : ∀ y pc x, cd y pc = some x → plainName (mN y).cls = true) :
    Sound ml mN mB mR sc (fun y as hp r h => (argL as).length ≤ ml y ∧ ∃ n, Ex cd mk sc stxt cal y n 0 (initL as (ml y)) [] hp r h) (d + 1) := by
  intro y as hp r h ⟨hal, n, hx⟩
  have hlen := fun y as hp r hp' hc => (show hp.length ≤ hp'.length ∧ sz hp ≤ sz hp' from ⟨(CC y as hp r hp' hc).1, (CC y as hp r hp' hc).2.1⟩)
  obtain ⟨g1, g2⟩ := Ex_len cd mk sc hlen n _ _ _ _ _ _ hx
  refine ⟨g1, g2, fun l base D cA rf has hw hD hR => ?_⟩
  have hy : plainName (mN y).cls = true := by
    cases n with
    | zero => exact hx.elim
    | succ n =>
      obtain ⟨op, nx, a, b, os, hcd, -⟩ := hx
      exact hpl y 0 _ hcd
  refine Met.ofW (cc := mB y) (maxL := ml y) (ret := mR y) hy rfl ?_
  intro p e s m args below meth c s₁ B hml hv
  obtain ⟨rfl, hP, hK, hS, hodd⟩ := hv
  have hts0 := atoms_spec (ws := wsM ml mN mB mR y) B.pre
  have hts : ∀ w ∈ lw_use, w.before ((as.map (toV rf)).toArray) s = true := fun w hw => by
    rcases use_split hw with h | h
    · exact hts0 w (List.mem_cons_of_mem _ h)
    · exact odd_args h (hodd w h)
  have hown : s.vm.findClass (mN y).cls = some m.cls := findClass_of_methodNamed B.named
  have hlocks := B.notSynchronized
  have hmn : meth.name = (mN y).name := (name_of_methodNamed B.named B.method).1
  have X : Cx p s m ((as.map (toV rf)).toArray) c (mB y) (ml y) (mN y).cls := ⟨B.exec, B.bytes, hml, hown, hts⟩
  rw [lg_entry_eq]
  refine Ex_sound cd mk ml mN mB mR sc (R := (headSpec (wsM ml mN mB mR y) (rmM (d + 1) (h.length - hp.length) (sz h - sz hp))).room) CC (hchk y) X hmn hodd hK (Nat.le_refl (d + 1)) (show 64 * d + 64 ≤ 64 * (d + 1) by omega) n 0 _ [] hp rf s.heap [] 0 0 _ hx (okL_init has) (fun v hv => by cases hv) (initL_len hal) (entry_Lr hal) hS va_S.rf hP hD hw hR (by show 0 + _ ≤ h.length - hp.length; omega) (by show 0 + _ ≤ sz h - sz hp; omega) ?_
  intro pc op nx a b os arr st rf' H locs cells' slots' z1 z2 z3 z4 z5 z6 z7 z8 z9 z10 z11 z12
  have hd := hchk y pc _ z1
  unfold dcAll at hd
  dsimp only at hd
  rw [if_neg (by omega), if_neg (by omega), if_neg (by omega), if_neg (by omega), if_neg (by omega)] at hd
  have hr := B.returns
  have hrv := ret_ok z3 z4
  have e1 : cells' = h.length - hp.length := by omega
  have e2 : slots' = sz h - sz hp := by omega
  subst e1 e2
  have hq : ∀ (v : Option Value), r.map (toV rf') = v → ∀ t : State, t.heap = H → s.WarmedH t.vm → QcM base D cA rf hp r h ((as.map (toV rf)).toArray) s (.returned v) t := fun v hv t ht hW => ⟨rf', z5, by rw [hv], by rw [ht]; exact z7, z8, z9, z10, hrv, z6.F ht⟩
  unfold dcE at hd
  unfold retOf at z3
  by_cases q0 : op = 70
  · rw [if_pos q0] at hd z3
    match st, z3, z4 with
    | [v], z3, z4 =>
      change (if v.1 = b.toNat ∧ (a = 1 → v.2 = 0 ∨ v.2 = 1) ∧ (a = 2 → 0 ≤ v.2 ∧ v.2 ≤ 65535) ∧ (a = 3 → -128 ≤ v.2 ∧ v.2 ≤ 127) then some (some v) else none) = some r at z3
      by_cases hc : v.1 = b.toNat ∧ (a = 1 → v.2 = 0 ∨ v.2 = 1) ∧ (a = 2 → 0 ≤ v.2 ∧ v.2 ≤ 65535) ∧ (a = 3 → -128 ≤ v.2 ∧ v.2 ≤ 127)
      · rw [if_pos hc] at z3
        have z3 := Option.some.inj z3
        obtain ⟨hv1, ha1, ha2, ha3⟩ := hc
        obtain ⟨t, x⟩ := v
        dsimp only at hv1 ha1 ha2 ha3
        by_cases b0 : b = 0
        · rw [if_pos b0] at hd
          subst b0
          subst hv1
          simp only [Bool.and_eq_true, Bool.or_eq_true, beq_iff_eq, decide_eq_true_eq] at hd
          obtain ⟨hdq, hd⟩ := hd
          have hxi : in32 x := (z4 _ List.mem_cons_self).int
          have hq1 := hq (some (.int (Int32.ofInt x))) (by rw [← z3]; rfl)
          rcases hd with ((⟨-, hR2⟩ | ⟨ha, hR2⟩) | ⟨ha, hR2⟩) | ⟨ha, hR2⟩
          · exact W.zret (ty := .int) B.exec B.bytes (hr.trans hR2) rfl hq1 z6.2.2 (dq_of hdq)
          · refine W.zret (ty := .boolean) B.exec B.bytes (hr.trans hR2) ?_ hq1 z6.2.2 (dq_of hdq)
            rcases ha1 ha with h | h <;> (subst h; rfl)
          · refine W.zret (ty := .char) B.exec B.bytes (hr.trans hR2) ?_ hq1 z6.2.2 (dq_of hdq)
            have := ha2 ha
            rw [nI_of32 this.1]
            exact (pk_charN (by omega)).1
          · refine W.zret (ty := .byte) B.exec B.bytes (hr.trans hR2) ?_ hq1 z6.2.2 (dq_of hdq)
            have := ha3 ha
            rw [narrow_byte, n_i2b]
            congr 2
            unfold i_byt
            omega
        · rw [if_neg b0] at hd
          by_cases b1 : b = 1
          · rw [if_pos b1] at hd
            subst b1
            subst hv1
            simp only [Bool.and_eq_true, decide_eq_true_eq] at hd
            exact W.lret B.exec B.bytes (hr.trans hd.2) (hq (some (.long (Int64.ofInt x))) (by rw [← z3]; rfl)) z6.2.2 (dq_of hd.1)
          · rw [if_neg b1] at hd
            simp only [Bool.and_eq_true, beq_iff_eq] at hd
            obtain ⟨rfl, hdq, hd⟩ := hd
            subst hv1
            have hq1 := hq (some (va_rf (rf' x))) (by rw [← z3]; rfl)
            have hvv : va_rf (rf' x) = .null ∨ ∃ a, va_rf (rf' x) = .ref a := by
              cases rf' x with
              | none => exact Or.inl rfl
              | some q => exact Or.inr ⟨q, rfl⟩
            cases hRy : mR y with
            | none => rw [hRy] at hd; cases hd
            | some ty =>
              rw [hRy] at hd
              cases ty with
              | object C => exact W.aret (rt := .object C) B.exec B.bytes (hr.trans hRy) (Or.inl ⟨C, rfl⟩) hvv hq1 z6.2.2 (dq_of hdq)
              | array C => exact W.aret (rt := .array C) B.exec B.bytes (hr.trans hRy) (Or.inr ⟨C, rfl⟩) hvv hq1 z6.2.2 (dq_of hdq)
              | _ => cases hd
      · rw [if_neg hc] at z3
        cases z3
  · rw [if_neg q0] at hd z3
    simp only [Bool.and_eq_true, beq_iff_eq, decide_eq_true_eq] at hd
    obtain ⟨q1, hdq, hR2⟩ := hd
    rw [if_pos q1] at z3
    match st, z3 with
    | [], z3 =>
      have z3 := Option.some.inj z3
      exact W.vret B.exec B.bytes (hr.trans hR2) (hq none (by rw [← z3]; rfl)) z6.2.2 (dq_of hdq)
theorem Runs_sound (hchk : ∀ y pc x, cd y pc = some x → dcAll mk ml mN mB mR y pc x = true) (hpl : ∀ y pc x, cd y pc = some x → plainName (mN y).cls = true) : ∀ d, Sound ml mN mB mR sc (Runs cd mk sc stxt ml d) d
  | 0 => fun y as hp r hp' h => h.elim
  | d + 1 => Sound_succ cd mk ml mN mB mR sc (Runs_sound hchk hpl d) hchk hpl
end RUN
