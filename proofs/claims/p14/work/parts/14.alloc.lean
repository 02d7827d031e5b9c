/-! cells are made, copied: the machine's step -/
/-- how it goes on behind an instruction that may have made cells -/
def KW (p : Program) (l : Launch) (e : Env) (R : Room) (s : State) (m : MethodId) (args : Array Value) (below : List Frame) (meth : Method) (c : Code) (base : Nat) (D : va_G) (cA : Nat → ClassId) (rf : Int → Option Nat) (hp hp' : Hp) (cells slots : Nat) (Q : State → Prop) (nx : Nat) (arr : Array Slot) (st' : List Vl) : Prop :=
  ∀ (rf' : Int → Option Nat) (H' : Heap) (locs' : List Loc) (cells' slots' : Nat), (∀ x : Int, x ≤ hp.length → rf' x = rf x) → va_P D vwCl (wld rf' cA hp') H' → va_D (A0 base) (wld rf' cA hp') → va_S (A0 base) s.heap H' locs' → wfH hp' → Rf base rf' hp'.length → cells' = cells + (hp'.length - hp.length) → slots' = slots + (sz hp' - sz hp) → W p l e R s m args below meth c H' locs' cells' slots' Q (F0 m nx arr (st'.map (toV rf')))
def dcN (own : String) (cc : ByteArray) (pc nx : Nat) (a b : Int) (g0 g1 g2 g3 : Nat) : Bool :=
  (decide (0 ≤ a ∧ a < 14 ∧ b.toNat = (clAt a).2.2) && (nx == pc + 3 && dq cc pc (.new g1) 3)) &&
  (wq g0 (.classLink own g1 (clAt a).1) && (wq g2 (.instantiable (clAt a).1 (clAt a).2.2) && wq g3 (.initialized (clAt a).1)))
def atq (a : Int) : ArrayType := if a = 20 then .int else if a = 21 then .byte else if a = 22 then .boolean else .long
def dcM (cc : ByteArray) (pc nx : Nat) (a : Int) (g0 : Nat) : Bool :=
  decide (a = 20 ∨ a = 21 ∨ a = 22 ∨ a = 23) && ((nx == pc + 2 && dq cc pc (.newarray (atq a)) 2) && wq g0 (.arrayClass (newarray.typeOf (atq a))))
def anq (a : Int) : String := if a = 24 then "WheelLand$Sheet" else if a = 25 then "java/lang/Object" else "java/lang/String"
def dcQ (own : String) (cc : ByteArray) (pc nx : Nat) (a : Int) (g0 g1 g2 : Nat) : Bool :=
  decide (a = 24 ∨ a = 25 ∨ a = 28) && ((nx == pc + 3 && dq cc pc (.anewarray g1) 3) && wq g0 (.classLink own g1 (anq a)) && wq g2 (.arrayOver (.object (anq a))))
theorem dfl_of {rf : Int → Option Nat} {t : Nat} {ty : FieldType} (h0 : rf 0 = none) (h : tyq t ty = true) : defaultValue ty = toV rf (tg t, 0) := by
  unfold tyq at h
  cases ty with
  | int => simp only [beq_iff_eq] at h; subst h; rfl
  | long => simp only [beq_iff_eq] at h; subst h; rfl
  | boolean => simp only [beq_iff_eq] at h; subst h; rfl
  | byte => simp only [beq_iff_eq] at h; subst h; rfl
  | object C =>
    simp only [beq_iff_eq] at h; subst h
    show Value.null = va_rf (rf 0)
    rw [h0]
    rfl
  | array C =>
    simp only [beq_iff_eq] at h; subst h
    show Value.null = va_rf (rf 0)
    rw [h0]
    rfl
  | _ => simp at h
section AL
variable {p : Program} {l : Launch} {e : Env} {R : Room} {s : State} {m : MethodId} {args : Array Value} {below : List Frame} {meth : Method} {c : Code} {H : Heap} {locs : List Loc} {cells slots : Nat} {Q : State → Prop}
variable {cc : ByteArray} {nL : Nat} {own mn : String} {base : Nat} {rf : Int → Option Nat} {sc : List Int} {st st' : List Vl} {arr : Array Slot} {D : va_G} {cA : Nat → ClassId} {hp : Hp}
theorem new_end1 {x : Nat × List Int} {q pc : Nat} {H1 : Heap} {rest : List Vl} (hw : wfH hp) (hR : Rf base rf hp.length) (hx : okC hp.length x) (hrest : okS hp.length rest)
    (h1 : va_P D vwCl (wld rf cA hp ++ [(q, ent rf cA x)]) H1) (h2 : va_D (A0 base) (wld rf cA hp ++ [(q, ent rf cA x)])) (h3 : va_S (A0 base) s.heap H1 locs)
    (k : KW p l e R s m args below meth c base D cA rf hp (hp ++ [x]) cells slots Q pc arr ((2, ((hp.length + 1 : Nat) : Int)) :: rest)) : W p l e R s m args below meth c H1 locs (cells + 1) (slots + x.2.length) Q (F0 m pc arr (.ref q :: rest.map (toV rf))) := by
  have he : ent (rfx rf hp.length q) cA x = ent rf cA x := ent_ext rfx_old hx
  rw [← wld_x hw he] at h1 h2
  have hlen : (hp ++ [x]).length = hp.length + 1 := by simp
  have hsz : sz (hp ++ [x]) = sz hp + x.2.length := by rw [sz_app]; simp [sz]
  have k2 := k (rfx rf hp.length q) H1 locs (cells + 1) (slots + x.2.length) rfx_old h1 h2 h3 (wfH_x hw (hx.mono (Nat.le_succ _))) (by rw [hlen]; exact Rf_x hR) (by rw [hlen]; omega) (by rw [hsz]; omega)
  have e1 : toV (rfx rf hp.length q) (2, ((hp.length + 1 : Nat) : Int)) = .ref q := by
    show va_rf (rfx rf hp.length q ((hp.length + 1 : Nat) : Int)) = _
    unfold rfx
    rw [if_pos (by omega)]
    rfl
  rw [List.map_cons, e1, toVs_ext rfx_old hrest] at k2
  exact k2
theorem wr_new (X : Cx p s m args c cc nL own) (h0 : rf 0 = none) (hbs : base ≤ s.heap.size) (hSS : va_S (A0 base) s.heap H locs) (hK : va_K D vwCl (ktys cA) s) (hP : va_P D vwCl (wld rf cA hp) H) (hD : va_D (A0 base) (wld rf cA hp)) (hw : wfH hp) (hR : Rf base rf hp.length)
    {pc nx g0 g1 g2 g3 : Nat} {a b : Int} {rest : List Vl} (hd : dcN own cc pc nx a b g0 g1 g2 g3 = true) (hrest : okS hp.length rest) (hcells : cells + 1 ≤ R.cells) (hslots : slots + b.toNat ≤ R.slots)
    (k : KW p l e R s m args below meth c base D cA rf hp (hp ++ [(a.toNat, List.replicate b.toNat 0)]) cells slots Q nx arr ((2, ((hp.length + 1 : Nat) : Int)) :: rest)) : W p l e R s m args below meth c H locs cells slots Q (F0 m pc arr (rest.map (toV rf))) := by
  obtain ⟨hx, hb, hml, hown, hts⟩ := X
  unfold dcN at hd
  simp only [Bool.and_eq_true, decide_eq_true_eq, beq_iff_eq] at hd
  obtain ⟨⟨⟨ha0, ha14, hbN⟩, rfl, hdq⟩, hl1, hl2, hl3⟩ := hd
  have hk14 : a.toNat < 14 := by omega
  have hcl := clAt_of (k := a.toNat) (a := a) (by omega) hk14
  obtain ⟨⟨ty0, hty⟩, hnm, hlen⟩ := cl_ty a.toNat _ hcl
  have hok : okC hp.length (a.toNat, List.replicate b.toNat 0) := okC_rep (fun _ => by rw [hbN]; exact hlen) (fun h => by omega)
  have hent : ent rf cA (a.toNat, List.replicate b.toNat 0) = .inr (a.toNat, fv rf a.toNat (List.replicate b.toNat 0)) := ent_o hk14
  refine va_new hx hb hts (cl_ws a.toNat _ hcl) ty0 (fun j hj => (hty j hj).1) hown (hts _ (wq_of hl1)) (hts _ (wq_of hl2)) (hts _ (wq_of hl3)) hK hP hD hSS (fun q hq => Nat.le_trans hbs hq) hcl (fs := fv rf a.toNat (List.replicate b.toNat 0)) (fun j hj => ?_) hcells (by rw [← hbN]; exact hslots) (dq_of hdq) (fun q H1 h1 h2 h3 => ?_)
  · rw [dfl_of h0 (hty j hj).2]
    unfold vp_V
    rw [List.getD_eq_getElem?_getD, fv_at (x := 0) (by rw [List.getElem?_replicate, if_pos (by rw [hbN]; exact hj)])]
    rfl
  · rw [← hent] at h1 h2
    have := new_end1 hw hR hok hrest h1 h2 h3 k
    rw [List.length_replicate, hbN] at this
    exact this
theorem wr_newa (X : Cx p s m args c cc nL own) (hbs : base ≤ s.heap.size) (hSS : va_S (A0 base) s.heap H locs) (hK : va_K D vwCl (ktys cA) s) (hP : va_P D vwCl (wld rf cA hp) H) (hD : va_D (A0 base) (wld rf cA hp)) (hw : wfH hp) (hR : Rf base rf hp.length)
    {pc nx g0 : Nat} {a n : Int} {rest : List Vl} (hd : dcM cc pc nx a g0 = true) (hn0 : 0 ≤ n) (hn : n ≤ 100000) (hrest : okS hp.length rest) (hcells : cells + 1 ≤ R.cells) (hslots : slots + n.toNat ≤ R.slots)
    (k : KW p l e R s m args below meth c base D cA rf hp (hp ++ [(a.toNat, List.replicate n.toNat 0)]) cells slots Q nx arr ((2, ((hp.length + 1 : Nat) : Int)) :: rest)) : W p l e R s m args below meth c H locs cells slots Q (F0 m pc arr (toV rf (0, n) :: rest.map (toV rf))) := by
  obtain ⟨hx, hb, hml, hown, hts⟩ := X
  unfold dcM at hd
  simp only [Bool.and_eq_true, decide_eq_true_eq, beq_iff_eq] at hd
  obtain ⟨ha, ⟨rfl, hdq⟩, hl⟩ := hd
  have hn32 : in32 n := by unfold in32; omega
  have hnn : ¬ Int32.ofInt n < 0 := by
    show ¬ Int32.ofInt n < Int32.ofInt 0
    rw [n_lt hn32 (by unfold in32; omega)]
    omega
  have hcl : (Int32.ofInt n).toNatClampNeg = n.toNat := cl_of hn0 hn32
  have hok : okC hp.length (a.toNat, List.replicate n.toNat 0) := okC_rep (fun h => by omega) (fun h => by omega)
  rw [toV_i]
  have fz : (fun j => Int32.ofInt ((List.replicate n.toNat (0 : Int)).getD j 0)) = fun _ => 0 := by funext j; rw [rep_getD]; rfl
  have fzl : (fun j => Int64.ofInt ((List.replicate n.toNat (0 : Int)).getD j 0)) = fun _ => 0 := by funext j; rw [rep_getD]; rfl
  have fin : ∀ (x : vp_A) (q : Nat) (c' : ClassId) (H1 : Heap), ent rf cA (a.toNat, List.replicate n.toNat 0) = .inl (cA a.toNat, x) → va_K D vwCl (ktys cA ++ [(c', aty a.toNat)]) s → va_P D vwCl (wld rf cA hp ++ [(q, .inl (c', x))]) H1 → va_D (A0 base) (wld rf cA hp ++ [(q, .inl (c', x))]) → va_S (A0 base) s.heap H1 locs → W p l e R s m args below meth c H1 locs (cells + 1) (slots + n.toNat) Q (F0 m (pc + 2) arr (.ref q :: rest.map (toV rf))) := by
    intro x q c' H1 hx2 hK2 h1 h2 h3
    rw [cA_uniq hK (by omega) (by omega) hK2] at h1 h2
    rw [← hx2] at h1 h2
    have := new_end1 hw hR hok hrest h1 h2 h3 k
    rw [List.length_replicate] at this
    exact this
  have hA : ∀ q, s.heap.size ≤ q → A0 base q := fun q hq => Nat.le_trans hbs hq
  rcases ha with rfl | rfl | rfl | rfl
  · refine va_newa (atype := .int) hx hb (hts _ (wq_of hl)) rfl hK hP hD hSS hA (a0 := (n.toNat, .inl (fun _ => 0))) (fun _ => rfl) hnn hcl (by show n.toNat * 4 ≤ _; omega) hcells hslots (dq_of hdq) (fun q c' H1 h0 h1 h2 h3 => fin _ q c' H1 ?_ h0 h1 h2 h3)
    rw [ent_i (by simp) (by simp), List.length_replicate, fz]
  · refine va_newa (atype := .byte) hx hb (hts _ (wq_of hl)) rfl hK hP hD hSS hA (a0 := (n.toNat, .inl (fun _ => 0))) (fun _ => rfl) hnn hcl (by show n.toNat * 1 ≤ _; omega) hcells hslots (dq_of hdq) (fun q c' H1 h0 h1 h2 h3 => fin _ q c' H1 ?_ h0 h1 h2 h3)
    rw [ent_i (by simp) (by simp), List.length_replicate, fz]
  · refine va_newa (atype := .boolean) hx hb (hts _ (wq_of hl)) rfl hK hP hD hSS hA (a0 := (n.toNat, .inl (fun _ => 0))) (fun _ => rfl) hnn hcl (by show n.toNat * 1 ≤ _; omega) hcells hslots (dq_of hdq) (fun q c' H1 h0 h1 h2 h3 => fin _ q c' H1 ?_ h0 h1 h2 h3)
    rw [ent_i (by simp) (by simp), List.length_replicate, fz]
  · refine va_newa (atype := .long) hx hb (hts _ (wq_of hl)) rfl hK hP hD hSS hA (a0 := (n.toNat, .inr (.inl (fun _ => 0)))) (fun _ => rfl) hnn hcl (by show n.toNat * 8 ≤ _; omega) hcells hslots (dq_of hdq) (fun q c' H1 h0 h1 h2 h3 => fin _ q c' H1 ?_ h0 h1 h2 h3)
    rw [ent_l rfl, List.length_replicate, fzl]
theorem wr_newq (X : Cx p s m args c cc nL own) (h0 : rf 0 = none) (hbs : base ≤ s.heap.size) (hSS : va_S (A0 base) s.heap H locs) (hK : va_K D vwCl (ktys cA) s) (hP : va_P D vwCl (wld rf cA hp) H) (hD : va_D (A0 base) (wld rf cA hp)) (hw : wfH hp) (hR : Rf base rf hp.length)
    {pc nx g0 g1 g2 : Nat} {a n : Int} {rest : List Vl} (hd : dcQ own cc pc nx a g0 g1 g2 = true) (hn0 : 0 ≤ n) (hn : n ≤ 100000) (hrest : okS hp.length rest) (hcells : cells + 1 ≤ R.cells) (hslots : slots + n.toNat ≤ R.slots)
    (k : KW p l e R s m args below meth c base D cA rf hp (hp ++ [(a.toNat, List.replicate n.toNat 0)]) cells slots Q nx arr ((2, ((hp.length + 1 : Nat) : Int)) :: rest)) : W p l e R s m args below meth c H locs cells slots Q (F0 m pc arr (toV rf (0, n) :: rest.map (toV rf))) := by
  obtain ⟨hx, hb, hml, hown, hts⟩ := X
  unfold dcQ at hd
  simp only [Bool.and_eq_true, decide_eq_true_eq, beq_iff_eq, Bool.or_eq_true] at hd
  obtain ⟨ha, ⟨⟨rfl, hdq⟩, hl⟩, ho⟩ := hd
  have hn32 : in32 n := by unfold in32; omega
  have hnn : ¬ Int32.ofInt n < 0 := by
    show ¬ Int32.ofInt n < Int32.ofInt 0
    rw [n_lt hn32 (by unfold in32; omega)]
    omega
  have hcl : (Int32.ofInt n).toNatClampNeg = n.toNat := cl_of hn0 hn32
  have hok : okC hp.length (a.toNat, List.replicate n.toNat 0) := okC_rep (fun h => by omega) (fun h => by omega)
  rw [toV_i]
  have fz : (fun j => rf ((List.replicate n.toNat (0 : Int)).getD j 0)) = fun _ => none := by funext j; rw [rep_getD]; exact h0
  have haty : aty a.toNat = .object (anq a) := by rcases ha with rfl | rfl | rfl <;> rfl
  have hA : ∀ q, s.heap.size ≤ q → A0 base q := fun q hq => Nat.le_trans hbs hq
  have hlk : (Cond.classLink own g1 (anq a)).before args s = true := hts _ (wq_of hl)
  refine va_newq hx hb hown hlk (va_AO.of (hts _ (wq_of ho))) hK hP hD hSS hA hnn hcl (by omega) hcells hslots (dq_of hdq) (fun q c' H1 hk2 h1 h2 h3 => ?_)
  rw [← haty] at hk2
  rw [cA_uniq hK (by omega) (by omega) hk2] at h1 h2
  have he : ent rf cA (a.toNat, List.replicate n.toNat 0) = .inl (cA a.toNat, n.toNat, .inr (.inr (.inr (.inr (fun _ => none))))) := by
    rw [ent_r (show 24 ≤ a.toNat by omega), List.length_replicate, fz]
  rw [← he] at h1 h2
  have := new_end1 hw hR hok hrest h1 h2 h3 k
  rw [List.length_replicate] at this
  exact this
theorem cpyL_len {f g : List Int} {sp dp n : Nat} (h1 : sp + n ≤ f.length) (h2 : dp + n ≤ g.length) : (cpyL f g sp dp n).length = g.length := by
  unfold cpyL
  simp only [List.length_append, List.length_take, List.length_drop]
  omega
theorem cpyL_at {f g : List Int} {sp dp n : Nat} (h1 : sp + n ≤ f.length) (h2 : dp + n ≤ g.length) (j : Nat) : (cpyL f g sp dp n)[j]? = if dp ≤ j ∧ j < dp + n then f[sp + (j - dp)]? else g[j]? := by
  unfold cpyL
  by_cases hj : j < dp
  · rw [List.getElem?_append_left (by rw [List.length_take]; omega), List.getElem?_take, if_pos hj, if_neg (by omega)]
  · rw [List.getElem?_append_right (by rw [List.length_take]; omega), List.length_take, show min dp g.length = dp by omega]
    by_cases hj2 : j < dp + n
    · rw [List.getElem?_append_left (by rw [List.length_take, List.length_drop]; omega), List.getElem?_take, if_pos (by omega), List.getElem?_drop, if_pos (by omega)]
    · rw [List.getElem?_append_right (by rw [List.length_take, List.length_drop]; omega), List.length_take, List.length_drop, List.getElem?_drop, if_neg (by omega)]
      congr 1
      omega
def dcY (own : String) (cc : ByteArray) (pc nx : Nat) (g0 g1 g2 g3 g4 : Nat) : Bool :=
  (nx == pc + 3 && dq cc pc (.invokestatic g1) 3) && (wq g0 (.methodLink own g1 arraycopyName) && (wq g2 (.native arraycopyName) && (wq g3 (.static arraycopyName) && wq g4 (.initialized "java/lang/System"))))
theorem wr_copy (X : Cx p s m args c cc nL own) (hSS : va_S (A0 base) s.heap H locs) (hK : va_K D vwCl (ktys cA) s) (hP : va_P D vwCl (wld rf cA hp) H) (hD : va_D (A0 base) (wld rf cA hp)) (hw : wfH hp) (hR : Rf base rf hp.length) (harr : arr.size = nL) (hfr : 1 ≤ R.frames) (hlo : 64 ≤ R.locals)
    {pc nx g0 g1 g2 g3 g4 : Nat} {sp dp n rs rd : Int} {lsrc ld : List Int} {rest : List Vl} (hd : dcY own cc pc nx g0 g1 g2 g3 g4 = true) (hcs : cel hp rs = some (20, lsrc)) (hcd : cel hp rd = some (20, ld)) (hn0 : 0 ≤ n) (hd0 : 0 ≤ dp) (hs0 : 0 ≤ sp) (h4 : sp + n ≤ lsrc.length) (h5 : dp + n ≤ ld.length) (hwd : wds rest ≤ 8)
    (hi1 : in32 sp) (hi2 : in32 dp) (hi3 : in32 n)
    (k : ∀ (H' : Heap) (locs' : List Loc), va_P D vwCl (wld rf cA (hp.set (rd.toNat - 1) (20, cpyL lsrc ld sp.toNat dp.toNat n.toNat))) H' → va_D (A0 base) (wld rf cA (hp.set (rd.toNat - 1) (20, cpyL lsrc ld sp.toNat dp.toNat n.toNat))) → va_S (A0 base) s.heap H' locs' → wfH (hp.set (rd.toNat - 1) (20, cpyL lsrc ld sp.toNat dp.toNat n.toNat)) → W p l e R s m args below meth c H' locs' cells slots Q (F0 m nx arr (rest.map (toV rf)))) : W p l e R s m args below meth c H locs cells slots Q (F0 m pc arr (toV rf (0, n) :: toV rf (0, dp) :: toV rf (2, rd) :: toV rf (0, sp) :: toV rf (2, rs) :: rest.map (toV rf))) := by
  obtain ⟨hx, hb, hml, hown, hts⟩ := X
  unfold dcY at hd
  simp only [Bool.and_eq_true, beq_iff_eq] at hd
  obtain ⟨⟨rfl, hdq⟩, hl1, hl2, hl3, hl4⟩ := hd
  obtain ⟨-, hats, -⟩ := cel_of hcs
  obtain ⟨-, hatd, -⟩ := cel_of hcd
  have hws := wld_at (rf := rf) (cA := cA) hats
  have hwd2 := wld_at (rf := rf) (cA := cA) hatd
  rw [ent_i (by simp) (by simp)] at hws hwd2
  rw [ref_of hR hcs, ref_of hR hcd, toV_i, toV_i, toV_i]
  have nn : ∀ z : Int, 0 ≤ z → in32 z → ¬ Int32.ofInt z < 0 := by
    intro z hz hz2
    show ¬ Int32.ofInt z < Int32.ofInt 0
    rw [n_lt hz2 (by unfold in32; omega)]
    omega
  have c1 := cl_of hs0 hi1
  have c2 := cl_of hd0 hi2
  have c3 := cl_of hn0 hi3
  have hcat : ((rest.map (toV rf)).map fun v => v.category).sum = wds rest := by
    unfold wds
    rw [List.map_map]
    congr 1
    apply List.map_congr_left
    intro v _
    exact toV_cat rf v
  have hCs := hw.at hats
  have hCd := hw.at hatd
  refine va_copyi hx hb (by rw [hml]; exact harr.symm) hown (hts _ (wq_of hl1)) (hts _ (wq_of hl2)) (hts _ (wq_of hl3)) (hts _ (wq_of hl4)) hK hP hD hSS (rs.toNat - 1) (rd.toNat - 1) 0 0 hws hwd2 (ktys_at cA (Nat.le_refl 20) (by omega)) (ktys_at cA (Nat.le_refl 20) (by omega)) rfl (nn _ hs0 hi1) (nn _ hd0 hi2) (nn _ hn0 hi3) (by rw [c1, c3]; dsimp only; omega) (by rw [c2, c3]; dsimp only; omega) (fun _ _ => rfl) hfr ?_ (dq_of hdq) (fun H1 locs1 h1 h2 h3 => ?_)
  · rw [hcat]
    have : nativeFrameWords "java/lang/System" "arraycopy" 5 + 11 ≤ 40 := by decide
    omega
  · rw [c1, c2, c3] at h1 h2
    have hl : (cpyL lsrc ld sp.toNat dp.toNat n.toNat).length = ld.length := cpyL_len (by omega) (by omega)
    have hf : va_cpy (fun j => Int32.ofInt (lsrc.getD j 0)) (fun j => Int32.ofInt (ld.getD j 0)) sp.toNat dp.toNat n.toNat = fun j => Int32.ofInt ((cpyL lsrc ld sp.toNat dp.toNat n.toNat).getD j 0) := by
      funext j
      unfold va_cpy
      rw [List.getD_eq_getElem?_getD (l := cpyL _ _ _ _ _), cpyL_at (by omega) (by omega)]
      by_cases hj : dp.toNat ≤ j ∧ j < dp.toNat + n.toNat
      · rw [if_pos hj, if_pos hj, ← List.getD_eq_getElem?_getD]
      · rw [if_neg hj, if_neg hj, ← List.getD_eq_getElem?_getD]
    have hset : (wld rf cA hp).set (rd.toNat - 1) (adr rf (rd.toNat - 1), .inl (cA 20, ld.length, .inl (va_cpy (fun j => Int32.ofInt (lsrc.getD j 0)) (fun j => Int32.ofInt (ld.getD j 0)) sp.toNat dp.toNat n.toNat))) = wld rf cA (hp.set (rd.toNat - 1) (20, cpyL lsrc ld sp.toNat dp.toNat n.toNat)) := by
      rw [← wld_set, ent_i (by simp) (by simp), hl, hf]
    rw [hset] at h1 h2
    refine k H1 locs1 h1 h2 h3 (wfH_set hw ⟨fun h => by simp at h, fun h => ⟨by simp, by simp, by rw [hl]; exact (hCd.2.1 h).2.2⟩, fun j y hy => ?_⟩)
    dsimp only at hy ⊢
    rw [cpyL_at (by omega) (by omega)] at hy
    split at hy
    · have := hCs.2.2 _ y hy
      exact this
    · exact hCd.2.2 j y hy
theorem xl_cast {args : Array Value} {s : State} {C E : String} (h : (Cond.castable C E).before args s = true) {comp c0 : ClassId} (hcomp : s.vm.findClass E = some comp) (hc0 : s.vm.findClass C = some c0) : s.vm.assignable c0 comp = true := by
  obtain ⟨c1, t1, f1, f2, f3⟩ := Cond.castable_spec h
  rw [hc0] at f1
  cases f1
  rw [hcomp] at f2
  cases f2
  exact f3
theorem oneK_of {hp : Hp} {l : List Int} {sp n : Nat} (h : oneK hp l sp n = true) : ∃ k, k < 14 ∧ ∀ i, i < n → l.getD (sp + i) 0 = 0 ∨ ∃ lx, cel hp (l.getD (sp + i) 0) = some (k, lx) := by
  unfold oneK at h
  rw [List.any_eq_true] at h
  obtain ⟨k, hk, h⟩ := h
  refine ⟨k, List.mem_range.mp hk, fun i hi => ?_⟩
  rw [List.all_eq_true] at h
  have h := h i (List.mem_range.mpr hi)
  rw [Bool.or_eq_true, beq_iff_eq] at h
  rcases h with h | h
  · exact Or.inl h
  · right
    cases hc : cel hp (l.getD (sp + i) 0) with
    | none => rw [hc] at h; cases h
    | some e =>
      obtain ⟨kd, lx⟩ := e
      rw [hc] at h
      dsimp only at h
      rw [beq_iff_eq] at h
      subst h
      exact ⟨lx, rfl⟩
theorem wr_copyq (X : Cx p s m args c cc nL own) (h0 : rf 0 = none) (hSS : va_S (A0 base) s.heap H locs) (hK : va_K D vwCl (ktys cA) s) (hP : va_P D vwCl (wld rf cA hp) H) (hD : va_D (A0 base) (wld rf cA hp)) (hw : wfH hp) (hR : Rf base rf hp.length) (harr : arr.size = nL) (hfr : 1 ≤ R.frames) (hlo : 64 ≤ R.locals)
    {pc nx g0 g1 g2 g3 g4 : Nat} {sp dp n rs rd : Int} {lsrc ld : List Int} {rest : List Vl} (hd : dcY own cc pc nx g0 g1 g2 g3 g4 = true) (hcs : cel hp rs = some (25, lsrc)) (hcd : cel hp rd = some (25, ld)) (h1k : oneK hp lsrc sp.toNat n.toNat = true) (hn0 : 0 ≤ n) (hd0 : 0 ≤ dp) (hs0 : 0 ≤ sp) (h4 : sp + n ≤ lsrc.length) (h5 : dp + n ≤ ld.length) (hwd : wds rest ≤ 8)
    (hi1 : in32 sp) (hi2 : in32 dp) (hi3 : in32 n)
    (k : ∀ (H' : Heap) (locs' : List Loc), va_P D vwCl (wld rf cA (hp.set (rd.toNat - 1) (25, cpyL lsrc ld sp.toNat dp.toNat n.toNat))) H' → va_D (A0 base) (wld rf cA (hp.set (rd.toNat - 1) (25, cpyL lsrc ld sp.toNat dp.toNat n.toNat))) → va_S (A0 base) s.heap H' locs' → wfH (hp.set (rd.toNat - 1) (25, cpyL lsrc ld sp.toNat dp.toNat n.toNat)) → W p l e R s m args below meth c H' locs' cells slots Q (F0 m nx arr (rest.map (toV rf)))) : W p l e R s m args below meth c H locs cells slots Q (F0 m pc arr (toV rf (0, n) :: toV rf (0, dp) :: toV rf (2, rd) :: toV rf (0, sp) :: toV rf (2, rs) :: rest.map (toV rf))) := by
  obtain ⟨hx, hb, hml, hown, hts⟩ := X
  unfold dcY at hd
  simp only [Bool.and_eq_true, beq_iff_eq] at hd
  obtain ⟨⟨rfl, hdq⟩, hl1, hl2, hl3, hl4⟩ := hd
  obtain ⟨-, hats, -⟩ := cel_of hcs
  obtain ⟨-, hatd, -⟩ := cel_of hcd
  have hws := wld_at (rf := rf) (cA := cA) hats
  have hwd2 := wld_at (rf := rf) (cA := cA) hatd
  rw [ent_r (by simp)] at hws hwd2
  rw [ref_of hR hcs, ref_of hR hcd, toV_i, toV_i, toV_i]
  have nn : ∀ z : Int, 0 ≤ z → in32 z → ¬ Int32.ofInt z < 0 := by
    intro z hz hz2
    show ¬ Int32.ofInt z < Int32.ofInt 0
    rw [n_lt hz2 (by unfold in32; omega)]
    omega
  have c1 := cl_of hs0 hi1
  have c2 := cl_of hd0 hi2
  have c3 := cl_of hn0 hi3
  have hcat : ((rest.map (toV rf)).map fun v => v.category).sum = wds rest := by
    unfold wds
    rw [List.map_map]
    congr 1
    apply List.map_congr_left
    intro v _
    exact toV_cat rf v
  have hCs := hw.at hats
  have hCd := hw.at hatd
  obtain ⟨kk, hkk, hone⟩ := oneK_of h1k
  have hclk := clAt_of (k := kk) rfl hkk
  refine va_copyq (C := (clAt (kk : Int)).1) hx hb (by rw [hml]; exact harr.symm) hown (hts _ (wq_of hl1)) (hts _ (wq_of hl2)) (hts _ (wq_of hl3)) (hts _ (wq_of hl4)) hK hP hD hSS (rs.toNat - 1) (rd.toNat - 1) 5 5 hws hwd2 (ktys_at cA (k := 25) (by omega) (by omega)) (ktys_at cA (k := 25) (by omega) (by omega)) (nn _ hs0 hi1) (nn _ hd0 hi2) (nn _ hn0 hi3) (by rw [c1, c3]; dsimp only; omega) (by rw [c2, c3]; dsimp only; omega) ?_ ?_ hfr ?_ (dq_of hdq) (fun H1 locs1 h1 h2 h3 => ?_)
  · intro i hi y hy
    rw [c3] at hi
    rw [c1] at hy
    rcases hone i hi with e0 | ⟨lx, hlx⟩
    · dsimp only at hy
      rw [e0, h0] at hy
      cases hy
    · dsimp only at hy
      rw [adr_of hR (cel_of hlx).1 (cel_of hlx).2.2] at hy
      have hy := Option.some.inj hy
      subst hy
      have hwx := wld_at (rf := rf) (cA := cA) (cel_of hlx).2.1
      rw [ent_o (show ((kk, lx) : Nat × List Int).1 < 14 from hkk)] at hwx
      exact va_recv hK hP hclk hwx
  · intro comp c0 hcomp hc0
    exact xl_cast (hts _ (cl_cast kk _ hclk)) hcomp hc0
  · rw [hcat]
    have : nativeFrameWords "java/lang/System" "arraycopy" 5 + 11 ≤ 40 := by decide
    omega
  · rw [c1, c2, c3] at h1 h2
    have hl : (cpyL lsrc ld sp.toNat dp.toNat n.toNat).length = ld.length := cpyL_len (by omega) (by omega)
    have hf : va_cpy (fun j => rf (lsrc.getD j 0)) (fun j => rf (ld.getD j 0)) sp.toNat dp.toNat n.toNat = fun j => rf ((cpyL lsrc ld sp.toNat dp.toNat n.toNat).getD j 0) := by
      funext j
      unfold va_cpy
      rw [List.getD_eq_getElem?_getD (l := cpyL _ _ _ _ _), cpyL_at (by omega) (by omega)]
      by_cases hj : dp.toNat ≤ j ∧ j < dp.toNat + n.toNat
      · rw [if_pos hj, if_pos hj, ← List.getD_eq_getElem?_getD]
      · rw [if_neg hj, if_neg hj, ← List.getD_eq_getElem?_getD]
    have hset : (wld rf cA hp).set (rd.toNat - 1) (adr rf (rd.toNat - 1), .inl (cA 25, ld.length, .inr (.inr (.inr (.inr (va_cpy (fun j => rf (lsrc.getD j 0)) (fun j => rf (ld.getD j 0)) sp.toNat dp.toNat n.toNat)))))) = wld rf cA (hp.set (rd.toNat - 1) (25, cpyL lsrc ld sp.toNat dp.toNat n.toNat)) := by
      rw [← wld_set, ent_r (by simp), hl, hf]
    rw [hset] at h1 h2
    refine k H1 locs1 h1 h2 h3 (wfH_set hw ⟨fun h => by simp at h, fun h => ⟨by simp, by simp, by rw [hl]; exact (hCd.2.1 h).2.2⟩, fun j y hy => ?_⟩)
    dsimp only at hy ⊢
    rw [cpyL_at (by omega) (by omega)] at hy
    split at hy
    · have := hCs.2.2 _ y hy
      exact this
    · exact hCd.2.2 j y hy
end AL
