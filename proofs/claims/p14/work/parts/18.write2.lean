/-! all instructions that write the heap -/
abbrev clN : MethodName := ⟨"java/lang/Object", "clone", "()Ljava/lang/Object;"⟩
abbrev clI : MethodName := ⟨"[I", "clone", "()Ljava/lang/Object;"⟩
def dcZ (own : String) (cc : ByteArray) (pc nx : Nat) (g0 g1 g2 g3 g4 g5 g6 : Nat) : Bool :=
  (nx == pc + 3 && dq cc pc (.invokevirtual g1) 3) && (wq g0 (.methodLink own g1 clI) && (wq g2 (.sameMethod "[I" "java/lang/Object" "clone" "()Ljava/lang/Object;") && (wq g3 (.native clN) && (wq g4 (.instanceMethod clN) && (wq g5 (.selects "[I" clI clN) && wq g6 (.castable "[I" "java/lang/Cloneable"))))))
section CLZ
variable {p : Program} {l : Launch} {e : Env} {R : Room} {s : State} {m : MethodId} {args : Array Value} {below : List Frame} {meth : Method} {c : Code} {H : Heap} {locs : List Loc} {cells slots : Nat} {Q : State → Prop}
variable {cc : ByteArray} {nL : Nat} {own : String} {base : Nat} {rf : Int → Option Nat} {arr : Array Slot} {D : va_G} {cA : Nat → ClassId} {hp : Hp}
theorem wr_clone (X : Cx p s m args c cc nL own) (hbs : base ≤ s.heap.size) (hSS : va_S (A0 base) s.heap H locs) (hK : va_K D vwCl (ktys cA) s) (hP : va_P D vwCl (wld rf cA hp) H) (hD : va_D (A0 base) (wld rf cA hp)) (hw : wfH hp) (hR : Rf base rf hp.length) (harr : arr.size = nL) (hfr : 1 ≤ R.frames) (hlo : 64 ≤ R.locals)
    {pc nx g0 g1 g2 g3 g4 g5 g6 : Nat} {rs : Int} {lsrc : List Int} {rest : List Vl} (hd : dcZ own cc pc nx g0 g1 g2 g3 g4 g5 g6 = true) (hcs : cel hp rs = some (20, lsrc)) (hwd : wds rest ≤ 8) (hrest : okS hp.length rest) (hcells : cells + 1 ≤ R.cells) (hslots : slots + lsrc.length ≤ R.slots)
    (k : KW p l e R s m args below meth c base D cA rf hp (hp ++ [(20, lsrc)]) cells slots Q nx arr ((2, ((hp.length + 1 : Nat) : Int)) :: rest)) : W p l e R s m args below meth c H locs cells slots Q (F0 m pc arr (toV rf (2, rs) :: rest.map (toV rf))) := by
  obtain ⟨hx, hb, hml, hown, hts⟩ := X
  unfold dcZ at hd
  simp only [Bool.and_eq_true, beq_iff_eq] at hd
  obtain ⟨⟨rfl, hdq⟩, hl0, hl2, hl3, hl4, hl5, hl6⟩ := hd
  obtain ⟨-, hats, -⟩ := cel_of hcs
  have hws := wld_at (rf := rf) (cA := cA) hats
  have hok : okC hp.length (20, lsrc) := hw.at hats
  rw [ent_i (by simp) (by simp)] at hws
  rw [ref_of hR hcs]
  have hcat : ((rest.map (toV rf)).map fun v => v.category).sum = wds rest := by
    unfold wds
    rw [List.map_map]
    congr 1
    apply List.map_congr_left
    intro v _
    exact toV_cat rf v
  have hA : ∀ q, s.heap.size ≤ q → A0 base q := fun q hq => Nat.le_trans hbs hq
  refine va_clone (ad := "[I") (ty := .int) hx hb (by rw [hml]; exact harr.symm) hown (hts _ (wq_of hl0)) (hts _ (wq_of hl2)) (hts _ (wq_of hl3)) (hts _ (wq_of hl4)) (hts _ (wq_of hl5)) (va_Nw.of rfl (hts _ (wq_of hl6))) hK hP hD hSS hA (rs.toNat - 1) 0 hws (ktys_at cA (Nat.le_refl 20) (by omega)) (va_nm_int ((hK.2 0 _ (ktys_at cA (Nat.le_refl 20) (by omega))).2)) ?_ hfr ?_ hcells hslots (dq_of hdq) (fun q H1 h0 h1 h2 h3 => ?_)
  · intro i v hv
    obtain ⟨hi, hv⟩ := Array.getElem?_eq_some_iff.mp hv
    have hv : (vp_cell (cA 20) (lsrc.length, .inl (fun j => Int32.ofInt (lsrc.getD j 0)))).slots[i] = v := hv
    simp only [vp_cell, arrV, Array.getElem_ofFn] at hv
    rw [← hv]
    rfl
  · rw [hcat]
    omega
  · have hx2 : ent rf cA (20, lsrc) = .inl (cA 20, lsrc.length, .inl (fun j => Int32.ofInt (lsrc.getD j 0))) := ent_i (by simp) (by simp)
    rw [← hx2] at h1 h2
    exact new_end1 hw hR hok hrest h1 h2 h3 k
end CLZ
def dcX (own mn : String) (cc : ByteArray) (pc op nx : Nat) (a b : Int) (os : List Int) : Bool :=
  if op = 40 then dcG own mn cc pc nx a b (os.getD 0 0).toNat (os.getD 1 0).toNat (os.getD 2 0).toNat (os.getD 3 0).toNat
  else if op = 41 then dcA cc pc nx a
  else if op = 42 then dcN own cc pc nx a b (os.getD 0 0).toNat (os.getD 1 0).toNat (os.getD 2 0).toNat (os.getD 3 0).toNat
  else if op = 43 then dcM cc pc nx a (os.getD 0 0).toNat
  else if op = 44 then dcQ own cc pc nx a (os.getD 0 0).toNat (os.getD 1 0).toNat (os.getD 2 0).toNat
  else if op = 45 then dcR2 own cc pc nx a b (os.getD 0 0).toNat (os.getD 1 0).toNat (os.getD 2 0).toNat (os.getD 3 0).toNat
  else if op = 46 then dcR3 own cc pc nx a b (os.getD 0 0).toNat (os.getD 1 0).toNat (os.getD 2 0).toNat (os.getD 3 0).toNat (os.getD 4 0).toNat
  else if op = 47 then dcY own cc pc nx (os.getD 0 0).toNat (os.getD 1 0).toNat (os.getD 2 0).toNat (os.getD 3 0).toNat (os.getD 4 0).toNat
  else if op = 48 then dcZ own cc pc nx (os.getD 0 0).toNat (os.getD 1 0).toNat (os.getD 2 0).toNat (os.getD 3 0).toNat (os.getD 4 0).toNat (os.getD 5 0).toNat (os.getD 6 0).toNat
  else false
section WX
variable {p : Program} {l : Launch} {e : Env} {R : Room} {s : State} {m : MethodId} {args : Array Value} {below : List Frame} {meth : Method} {c : Code} {H : Heap} {locs : List Loc} {cells slots : Nat} {Q : State → Prop}
variable {cc : ByteArray} {nL : Nat} {own mn : String} {base : Nat} {rf : Int → Option Nat} {sc : List Int} {st st' : List Vl} {arr : Array Slot} {D : va_G} {cA : Nat → ClassId} {hp hp' : Hp}
theorem sz_x (hp : Hp) (k N : Nat) : sz (hp ++ [(k, List.replicate N 0)]) - sz hp = N := by
  rw [sz_app]
  simp [sz]
theorem snd_wst (X : Cx p s m args c cc nL own) (hmn : meth.name = mn) (hS : Stt base rf sc s) (hSS : va_S (A0 base) s.heap H locs) (hK : va_K D vwCl (ktys cA) s) (hP : va_P D vwCl (wld rf cA hp) H) (hD : va_D (A0 base) (wld rf cA hp)) (hw : wfH hp) (hR : Rf base rf hp.length)
    (harr : arr.size = nL) (hfr : 1 ≤ R.frames) (hlo : 64 ≤ R.locals) {pc op nx : Nat} {a b : Int} {os : List Int} (hd : dcX own mn cc pc op nx a b os = true) (hw2 : wst op a b hp st = some (hp', st')) (hst : okS hp.length st) (hcells : cells + (hp'.length - hp.length) ≤ R.cells) (hslots : slots + (sz hp' - sz hp) ≤ R.slots)
    (K : KW p l e R s m args below meth c base D cA rf hp hp' cells slots Q nx arr st') : W p l e R s m args below meth c H locs cells slots Q (F0 m pc arr (st.map (toV rf))) := by
  have hbs := hS.1
  have h0 := hS.2.1
  unfold dcX at hd
  unfold wst at hw2
  have same : ∀ (a : Nat) (x y : Nat × List Int), hp[a]? = some x → y.2.length = x.2.length → hp' = hp.set a y → ∀ (H' : Heap) (locs' : List Loc), va_P D vwCl (wld rf cA (hp.set a y)) H' → va_D (A0 base) (wld rf cA (hp.set a y)) → va_S (A0 base) s.heap H' locs' → wfH (hp.set a y) → W p l e R s m args below meth c H' locs' cells slots Q (F0 m nx arr (st'.map (toV rf))) := by
    intro a x y hx hl he H' locs' h1 h2 h3 h4
    subst he
    exact K rf H' locs' cells slots (fun _ _ => rfl) h1 h2 h3 h4 (by rw [List.length_set]; exact hR) (by rw [List.length_set]; omega) (by rw [sz_set hx hl]; omega)
  by_cases q0 : op = 40
  · rw [if_pos q0] at hd hw2
    match st, hw2, hst with
    | v :: (2, r) :: rest, hw2, hst =>
      change (match cel hp r with
        | some (kd, l) => if (kd : Int) = a ∧ b.toNat < l.length then (match keptF (kty kd b.toNat) v with
          | some x => some (hp.set (r.toNat - 1) (kd, l.set b.toNat x), rest)
          | none => none) else none
        | none => none) = some (hp', st') at hw2
      cases hc : cel hp r with
      | none => rw [hc] at hw2; cases hw2
      | some q =>
        obtain ⟨kd, lc⟩ := q
        rw [hc] at hw2
        dsimp only at hw2
        by_cases hk : (kd : Int) = a ∧ b.toNat < lc.length
        · rw [if_pos hk] at hw2
          cases hkf : keptF (kty kd b.toNat) v with
          | none => rw [hkf] at hw2; cases hw2
          | some x =>
            rw [hkf] at hw2
            have hw2 := Prod.ext_iff.mp (Option.some.inj hw2)
            obtain ⟨e1, e2⟩ := hw2
            dsimp only at e1 e2
            subst e2
            exact wr_put X hmn hSS hK hP hD hw hR hd hc hk.1 hk.2 hkf (hst _ List.mem_cons_self) (same _ _ _ (cel_of hc).2.1 (by simp) e1.symm)
        · rw [if_neg hk] at hw2
          cases hw2
  rw [if_neg q0] at hd hw2
  by_cases q1 : op = 41
  · rw [if_pos q1] at hd hw2
    match st, hw2, hst with
    | v :: (0, i) :: (2, r) :: rest, hw2, hst =>
      change (match cel hp r with
        | some (kd, l) => if 0 ≤ i ∧ i.toNat < l.length ∧ ((kd : Int) = a ∨ (a = 21 ∧ kd = 22) ∨ (a = 24 ∧ 24 ≤ kd)) then (match kept hp kd v with
          | some x => some (hp.set (r.toNat - 1) (kd, l.set i.toNat x), rest)
          | none => none) else none
        | none => none) = some (hp', st') at hw2
      cases hc : cel hp r with
      | none => rw [hc] at hw2; cases hw2
      | some q =>
        obtain ⟨kd, lc⟩ := q
        rw [hc] at hw2
        dsimp only at hw2
        by_cases hk : 0 ≤ i ∧ i.toNat < lc.length ∧ ((kd : Int) = a ∨ (a = 21 ∧ kd = 22) ∨ (a = 24 ∧ 24 ≤ kd))
        · rw [if_pos hk] at hw2
          cases hkf : kept hp kd v with
          | none => rw [hkf] at hw2; cases hw2
          | some x =>
            rw [hkf] at hw2
            have hw2 := Prod.ext_iff.mp (Option.some.inj hw2)
            obtain ⟨e1, e2⟩ := hw2
            dsimp only at e1 e2
            subst e2
            exact wr_ast X hS hSS hK hP hD hw hR hd hc hk.1 hk.2.1 hk.2.2 hkf (hst _ List.mem_cons_self) (hst _ (List.mem_cons_of_mem _ List.mem_cons_self)).int (same _ _ _ (cel_of hc).2.1 (by simp) e1.symm)
        · rw [if_neg hk] at hw2
          cases hw2
  rw [if_neg q1] at hd hw2
  by_cases q2 : op = 42
  · rw [if_pos q2] at hd hw2
    have hw2 := Prod.ext_iff.mp (Option.some.inj hw2)
    obtain ⟨e1, e2⟩ := hw2
    dsimp only at e1 e2
    subst e1 e2
    rw [sz_x] at hslots
    exact wr_new X h0 hbs hSS hK hP hD hw hR hd hst (by simpa using hcells) hslots K
  rw [if_neg q2] at hd hw2
  by_cases q3 : op = 43
  · rw [if_pos q3] at hd hw2
    match st, hw2, hst with
    | (0, n) :: rest, hw2, hst =>
      change (if 0 ≤ n ∧ n ≤ 100000 then some (hp ++ [(a.toNat, List.replicate n.toNat 0)], (2, ((hp.length + 1 : Nat) : Int)) :: rest) else none) = some (hp', st') at hw2
      by_cases hn : 0 ≤ n ∧ n ≤ 100000
      · rw [if_pos hn] at hw2
        have hw2 := Prod.ext_iff.mp (Option.some.inj hw2)
        obtain ⟨e1, e2⟩ := hw2
        dsimp only at e1 e2
        subst e1 e2
        rw [sz_x] at hslots
        exact wr_newa X hbs hSS hK hP hD hw hR hd hn.1 hn.2 (fun v hv => hst v (List.mem_cons_of_mem _ hv)) (by simpa using hcells) hslots K
      · rw [if_neg hn] at hw2
        cases hw2
  rw [if_neg q3] at hd hw2
  by_cases q4 : op = 44
  · rw [if_pos q4] at hd hw2
    match st, hw2, hst with
    | (0, n) :: rest, hw2, hst =>
      change (if 0 ≤ n ∧ n ≤ 100000 then some (hp ++ [(a.toNat, List.replicate n.toNat 0)], (2, ((hp.length + 1 : Nat) : Int)) :: rest) else none) = some (hp', st') at hw2
      by_cases hn : 0 ≤ n ∧ n ≤ 100000
      · rw [if_pos hn] at hw2
        have hw2 := Prod.ext_iff.mp (Option.some.inj hw2)
        obtain ⟨e1, e2⟩ := hw2
        dsimp only at e1 e2
        subst e1 e2
        rw [sz_x] at hslots
        exact wr_newq X h0 hbs hSS hK hP hD hw hR hd hn.1 hn.2 (fun v hv => hst v (List.mem_cons_of_mem _ hv)) (by simpa using hcells) hslots K
      · rw [if_neg hn] at hw2
        cases hw2
  rw [if_neg q4] at hd hw2
  by_cases q5 : op = 45
  · rw [if_pos q5] at hd hw2
    match st, hw2, hst with
    | (0, k) :: (0, n) :: rest, hw2, hst =>
      change (if 0 ≤ n ∧ n ≤ 1000 ∧ 0 ≤ k ∧ k ≤ 1000 then some (hp ++ (a.toNat, refsFrom (hp.length + 1) n.toNat 1) :: List.replicate n.toNat (b.toNat, List.replicate k.toNat 0), (2, ((hp.length + 1 : Nat) : Int)) :: rest) else none) = some (hp', st') at hw2
      by_cases hn : 0 ≤ n ∧ n ≤ 1000 ∧ 0 ≤ k ∧ k ≤ 1000
      · rw [if_pos hn] at hw2
        have hw2 := Prod.ext_iff.mp (Option.some.inj hw2)
        obtain ⟨e1, e2⟩ := hw2
        dsimp only at e1 e2
        subst e1 e2
        refine wr_mna2 X h0 hbs hSS hK hP hD hw hR hd hn.1 hn.2.1 hn.2.2.1 hn.2.2.2 (fun v hv => hst v (List.mem_cons_of_mem _ (List.mem_cons_of_mem _ hv))) ?_ ?_ K
        · rw [List.length_append, List.length_cons, List.length_replicate] at hcells
          omega
        · rw [sz_app, sz_cons, sz_rep, refs_len, List.length_replicate] at hslots
          omega
      · rw [if_neg hn] at hw2
        cases hw2
  rw [if_neg q5] at hd hw2
  by_cases q6 : op = 46
  · rw [if_pos q6] at hd hw2
    match st, hw2, hst with
    | (0, q) :: (0, k) :: (0, n) :: rest, hw2, hst =>
      change (if 0 ≤ n ∧ n ≤ 1000 ∧ 0 ≤ k ∧ k ≤ 1000 ∧ 0 ≤ q ∧ q ≤ 1000 then some (hp ++ (a.toNat, refsFrom (hp.length + 1) n.toNat (k.toNat + 1)) :: (List.range n.toNat).flatMap (fun i => (b.toNat, refsFrom (hp.length + 2 + (k.toNat + 1) * i) k.toNat 1) :: List.replicate k.toNat (20, List.replicate q.toNat 0)), (2, ((hp.length + 1 : Nat) : Int)) :: rest) else none) = some (hp', st') at hw2
      by_cases hn : 0 ≤ n ∧ n ≤ 1000 ∧ 0 ≤ k ∧ k ≤ 1000 ∧ 0 ≤ q ∧ q ≤ 1000
      · rw [if_pos hn] at hw2
        have hw2 := Prod.ext_iff.mp (Option.some.inj hw2)
        obtain ⟨e1, e2⟩ := hw2
        dsimp only at e1 e2
        subst e1 e2
        refine wr_mna3 X h0 hbs hSS hK hP hD hw hR hd hn.1 hn.2.1 hn.2.2.1 hn.2.2.2.1 hn.2.2.2.2.1 hn.2.2.2.2.2 (fun v hv => hst v (List.mem_cons_of_mem _ (List.mem_cons_of_mem _ (List.mem_cons_of_mem _ hv)))) ?_ ?_ K
        · rw [List.length_append, List.length_cons, blk_len _ (k.toNat + 1) (fun i => by simp)] at hcells
          omega
        · have hsb : ∀ n, sz ((List.range n).flatMap (fun i => ((b.toNat, refsFrom (hp.length + 2 + (k.toNat + 1) * i) k.toNat 1) : Nat × List Int) :: List.replicate k.toNat (20, List.replicate q.toNat 0))) = n * (k.toNat + k.toNat * q.toNat) := by
            intro n
            induction n with
            | zero => simp [sz]
            | succ n ih =>
              rw [List.range_succ, List.flatMap_append, sz_app, ih, Nat.succ_mul]
              congr 1
              simp [sz_cons, sz_rep, refs_len]
          rw [sz_app, sz_cons, hsb, refs_len] at hslots
          omega
      · rw [if_neg hn] at hw2
        cases hw2
  rw [if_neg q6] at hd hw2
  by_cases q7 : op = 47
  · rw [if_pos q7] at hd hw2
    match st, hw2, hst with
    | (0, n) :: (0, dp) :: (2, d) :: (0, sp) :: (2, r) :: rest, hw2, hst =>
      change (match cel hp r, cel hp d with
        | some (ks, ls), some (kd, ld) => if ((ks = 20 ∧ kd = 20) ∨ (ks = 25 ∧ kd = 25 ∧ oneK hp ls sp.toNat n.toNat = true)) ∧ wds rest ≤ 8 ∧ 0 ≤ n ∧ 0 ≤ dp ∧ 0 ≤ sp ∧ sp + n ≤ ls.length ∧ dp + n ≤ ld.length then
            some (hp.set (d.toNat - 1) (kd, cpyL ls ld sp.toNat dp.toNat n.toNat), rest) else none
        | _, _ => none) = some (hp', st') at hw2
      cases hcs : cel hp r with
      | none => rw [hcs] at hw2; cases hw2
      | some qs =>
        cases hcd : cel hp d with
        | none => rw [hcs, hcd] at hw2; cases hw2
        | some qd =>
          obtain ⟨ks, lsrc⟩ := qs
          obtain ⟨kd, ld⟩ := qd
          rw [hcs, hcd] at hw2
          dsimp only at hw2
          by_cases hk : ((ks = 20 ∧ kd = 20) ∨ (ks = 25 ∧ kd = 25 ∧ oneK hp lsrc sp.toNat n.toNat = true)) ∧ wds rest ≤ 8 ∧ 0 ≤ n ∧ 0 ≤ dp ∧ 0 ≤ sp ∧ sp + n ≤ lsrc.length ∧ dp + n ≤ ld.length
          · rw [if_pos hk] at hw2
            obtain ⟨hkk, k1, k2, k3, k4, k5, k6⟩ := hk
            have hw2 := Prod.ext_iff.mp (Option.some.inj hw2)
            obtain ⟨e1, e2⟩ := hw2
            dsimp only at e1 e2
            subst e2
            have m1 := hst (0, n) (by simp)
            have m2 := hst (0, dp) (by simp)
            have m3 := hst (0, sp) (by simp)
            rcases hkk with ⟨rfl, rfl⟩ | ⟨rfl, rfl, hone⟩
            · exact wr_copy X hSS hK hP hD hw hR harr hfr hlo hd hcs hcd k2 k3 k4 k5 k6 k1 m3.int m2.int m1.int (same _ _ _ (cel_of hcd).2.1 (cpyL_len (by omega) (by omega)) e1.symm)
            · exact wr_copyq X h0 hSS hK hP hD hw hR harr hfr hlo hd hcs hcd hone k2 k3 k4 k5 k6 k1 m3.int m2.int m1.int (same _ _ _ (cel_of hcd).2.1 (cpyL_len (by omega) (by omega)) e1.symm)
          · rw [if_neg hk] at hw2
            cases hw2
  rw [if_neg q7] at hd hw2
  by_cases q8 : op = 48
  · rw [if_pos q8] at hd hw2
    match st, hw2, hst with
    | (2, r) :: rest, hw2, hst =>
      change (match cel hp r with
        | some (kd, l) => if kd = 20 ∧ wds rest ≤ 8 then some (hp ++ [(kd, l)], (2, ((hp.length + 1 : Nat) : Int)) :: rest) else none
        | none => none) = some (hp', st') at hw2
      cases hc : cel hp r with
      | none => rw [hc] at hw2; cases hw2
      | some q =>
        obtain ⟨kd, lc⟩ := q
        rw [hc] at hw2
        dsimp only at hw2
        by_cases hk : kd = 20 ∧ wds rest ≤ 8
        · rw [if_pos hk] at hw2
          obtain ⟨rfl, k1⟩ := hk
          have hw2 := Prod.ext_iff.mp (Option.some.inj hw2)
          obtain ⟨e1, e2⟩ := hw2
          dsimp only at e1 e2
          subst e1 e2
          have hsz : sz (hp ++ [(20, lc)]) - sz hp = lc.length := by
            rw [sz_app]
            simp [sz]
          rw [hsz] at hslots
          exact wr_clone X hbs hSS hK hP hD hw hR harr hfr hlo hd hc k1 (fun v hv => hst v (List.mem_cons_of_mem _ hv)) (by simpa using hcells) hslots K
        · rw [if_neg hk] at hw2
          cases hw2
  rw [if_neg q8] at hd
  cases hd
end WX
