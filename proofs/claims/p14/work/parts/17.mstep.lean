/-! new int[n][m], new int[n][m][k] over the worlds -/
def mty (a : Int) : FieldType := if a = 26 then .int else .boolean
def dcR2 (own : String) (cc : ByteArray) (pc nx : Nat) (a b : Int) (g0 g1 g2 g3 : Nat) : Bool :=
  decide ((a = 26 ∧ b = 20) ∨ (a = 29 ∧ b = 22)) && ((nx == pc + 4 && dq cc pc (.multianewarray g1 2) 4) && (wq g0 (.classLink own g1 ("[" ++ (FieldType.array (mty a)).toString)) && (wq g2 (.arrayOver (.array (mty a))) && wq g3 (.arrayClass (mty a)))))
def dcR3 (own : String) (cc : ByteArray) (pc nx : Nat) (a b : Int) (g0 g1 g2 g3 g4 : Nat) : Bool :=
  decide (a = 27 ∧ b = 26) && ((nx == pc + 4 && dq cc pc (.multianewarray g1 3) 4) && (wq g0 (.classLink own g1 ("[" ++ (FieldType.array (.array .int)).toString)) && (wq g2 (.arrayOver (.array (.array .int))) && (wq g3 (.arrayOver (.array .int)) && wq g4 (.arrayClass .int)))))
theorem sz_rep (n : Nat) (x : Nat × List Int) : sz (List.replicate n x) = n * x.2.length := by
  unfold sz
  rw [List.map_replicate, List.sum_replicate_nat]
theorem sz_cons (x : Nat × List Int) (h : Hp) : sz (x :: h) = x.2.length + sz h := by unfold sz; simp
section MS
variable {p : Program} {l : Launch} {e : Env} {R : Room} {s : State} {m : MethodId} {args : Array Value} {below : List Frame} {meth : Method} {c : Code} {H : Heap} {locs : List Loc} {cells slots : Nat} {Q : State → Prop}
variable {cc : ByteArray} {nL : Nat} {own mn : String} {base : Nat} {rf : Int → Option Nat} {sc : List Int} {st st' : List Vl} {arr : Array Slot} {D : va_G} {cA : Nat → ClassId} {hp : Hp}
theorem n_nn {z : Int} (hz : 0 ≤ z) (hz2 : in32 z) : ¬ Int32.ofInt z < 0 := by
  show ¬ Int32.ofInt z < Int32.ofInt 0
  rw [n_lt hz2 (by unfold in32; omega)]
  omega
theorem wr_mna2 (X : Cx p s m args c cc nL own) (h0 : rf 0 = none) (hbs : base ≤ s.heap.size) (hSS : va_S (A0 base) s.heap H locs) (hK : va_K D vwCl (ktys cA) s) (hP : va_P D vwCl (wld rf cA hp) H) (hD : va_D (A0 base) (wld rf cA hp)) (hw : wfH hp) (hR : Rf base rf hp.length)
    {pc nx g0 g1 g2 g3 : Nat} {a b n k : Int} {rest : List Vl} (hd : dcR2 own cc pc nx a b g0 g1 g2 g3 = true) (hn0 : 0 ≤ n) (hn : n ≤ 1000) (hk0 : 0 ≤ k) (hkk : k ≤ 1000) (hrest : okS hp.length rest) (hcells : cells + (1 + n.toNat) ≤ R.cells) (hslots : slots + (n.toNat + n.toNat * k.toNat) ≤ R.slots)
    (K : KW p l e R s m args below meth c base D cA rf hp (hp ++ (a.toNat, refsFrom (hp.length + 1) n.toNat 1) :: List.replicate n.toNat (b.toNat, List.replicate k.toNat 0)) cells slots Q nx arr ((2, ((hp.length + 1 : Nat) : Int)) :: rest)) : W p l e R s m args below meth c H locs cells slots Q (F0 m pc arr (toV rf (0, k) :: toV rf (0, n) :: rest.map (toV rf))) := by
  obtain ⟨hx, hb, hml, hown, hts⟩ := X
  unfold dcR2 at hd
  simp only [Bool.and_eq_true, decide_eq_true_eq, beq_iff_eq] at hd
  obtain ⟨hab, ⟨rfl, hdq⟩, hl1, hl2, hl3⟩ := hd
  have hn32 : in32 n := by unfold in32; omega
  have hk32 : in32 k := by unfold in32; omega
  have c1 := cl_of hn0 hn32
  have c2 := cl_of hk0 hk32
  rw [toV_i, toV_i]
  have hbH : base ≤ H.size := Nat.le_trans hbs hSS.1
  intro T hT Xs
  have hty : fits (mty a) (defaultValue (mty a)) = true ∧ (defaultValue (mty a)).isDefault = true ∧ componentBytes (mty a) ≤ 4 := by
    rcases hab with ⟨rfl, -⟩ | ⟨rfl, -⟩ <;> exact ⟨rfl, rfl, by decide⟩
  have hb2 : k.toNat * componentBytes (mty a) ≤ 536870912 := Nat.le_trans (Nat.mul_le_mul (show k.toNat ≤ 1000 by omega) hty.2.2) (by decide)
  obtain ⟨vm₁, cO, comp, -, fA, fC, hO, -, X', step⟩ := Xs.multianewarray2F hx hown (hts _ (wq_of hl1)) (hts _ (wq_of hl2)) (hts _ (wq_of hl3)) (g := F0 m pc arr (.int (Int32.ofInt k) :: .int (Int32.ofInt n) :: rest.map (toV rf))) rfl (by rw [hb]; exact dq_of hdq) rfl (n_nn hn0 hn32) (n_nn hk0 hk32) (by rw [c1]; omega) (by rw [c2]; exact hb2) (by rw [c2]; omega) hty.1 hty.2.1 (by rw [c1]; exact hcells) (by rw [c1, c2]; exact hslots)
  rw [c1, c2] at X' step
  have ecO : cO = cA a.toNat := by
    rcases hab with ⟨rfl, -⟩ | ⟨rfl, -⟩
    · exact Option.some.inj (fA.symm.trans (hK.2 (26 - 20) _ (ktys_at cA (k := 26) (by omega) (by omega))).2)
    · exact Option.some.inj (fA.symm.trans (hK.2 (29 - 20) _ (ktys_at cA (k := 29) (by omega) (by omega))).2)
  have ecC : comp = cA b.toNat := by
    rcases hab with ⟨rfl, rfl⟩ | ⟨rfl, rfl⟩
    · exact Option.some.inj (fC.symm.trans (hK.2 (20 - 20) _ (ktys_at cA (k := 20) (by omega) (by omega))).2)
    · exact Option.some.inj (fC.symm.trans (hK.2 (22 - 20) _ (ktys_at cA (k := 22) (by omega) (by omega))).2)
  subst ecO ecC
  generalize hF : Jvm.Free.Multi.fill (T.setVm vm₁) (cA a.toNat) (cA b.toNat) n.toNat k.toNat (defaultValue (mty a)) n.toNat = F at X' step
  have hTh : (T.setVm vm₁).heap = H := hT
  obtain ⟨f1, f2, -, -⟩ := Jvm.Free.Multi.fill_facts (T.setVm vm₁) (cA a.toNat) (cA b.toNat) n.toNat k.toNat (defaultValue (mty a)) n.toNat
  rw [hF, hTh] at f1 f2
  have hold : ∀ x : Nat, x < H.size → F.heap[x]? = H[x]? := fun x hx => by
    have := Jvm.Free.Multi.fill_old (T.setVm vm₁) (cA a.toNat) (cA b.toNat) n.toNat k.toNat (defaultValue (mty a)) (a := x) (by rw [hTh]; exact hx) n.toNat
    rw [hF, hTh] at this
    exact this
  have hrow : ∀ j : Nat, j < n.toNat → F.heap[H.size + 1 + j]? = some (Jvm.Free.Multi.innerC (cA b.toNat) k.toNat (defaultValue (mty a))) := fun j hj => by
    have := Jvm.Free.Multi.fill_inner (T.setVm vm₁) (cA a.toNat) (cA b.toNat) n.toNat k.toNat (defaultValue (mty a)) n.toNat j hj
    rw [hF, hTh] at this
    exact this
  generalize hes : ((a.toNat, refsFrom (hp.length + 1) n.toNat 1) :: List.replicate n.toNat (b.toNat, List.replicate k.toNat 0) : Hp) = es at K
  have hel : es.length = 1 + n.toNat := by rw [← hes]; simp; omega
  have hat : ∀ (i : Nat) (x : Nat × List Int), es[i]? = some x → (i = 0 ∧ x = (a.toNat, refsFrom (hp.length + 1) n.toNat 1)) ∨ ∃ j, i = j + 1 ∧ j < n.toNat ∧ x = (b.toNat, List.replicate k.toNat 0) := by
    intro i x hx
    rw [← hes] at hx
    cases i with
    | zero => exact Or.inl ⟨rfl, (Option.some.inj hx).symm⟩
    | succ j =>
      rw [List.getElem?_cons_succ, List.getElem?_replicate] at hx
      by_cases hj : j < n.toNat
      · rw [if_pos hj] at hx
        exact Or.inr ⟨j, rfl, hj, (Option.some.inj hx).symm⟩
      · rw [if_neg hj] at hx
        cases hx
  have hA1 : 24 ≤ a.toNat ∧ a.toNat ≤ 29 := by omega
  have hB1 : b.toNat = 20 ∨ b.toNat = 22 := by omega
  have key := ext_world (es := es) hP hD hw hR hbH hold (fun x hx => ?_) (fun i x hx => ?_)
  · obtain ⟨k1, k2, k3, k4⟩ := key
    have hlen : (hp ++ es).length - hp.length = 1 + n.toNat := by rw [List.length_append, hel]; omega
    have hsz : sz (hp ++ es) - sz hp = n.toNat + n.toNat * k.toNat := by
      rw [sz_app, ← hes, sz_cons, sz_rep, refs_len, List.length_replicate]
      omega
    have hSS' : va_S (A0 base) s.heap F.heap locs := ⟨by rw [f1]; have := hSS.1; omega, fun q h1 h2 => by rw [hold q (Nat.lt_of_lt_of_le h1 hSS.1)]; exact hSS.2.1 q h1 h2, hSS.2.2⟩
    have Wk := K (rfm rf hp.length H.size es.length) F.heap locs (cells + 1 + n.toNat) (slots + n.toNat + n.toNat * k.toNat) rfm_old k1 k2 hSS' k3 k4 (by rw [hlen]; omega) (by rw [hsz]; omega)
    have e1 : toV (rfm rf hp.length H.size es.length) (2, ((hp.length + 1 : Nat) : Int)) = .ref H.size := by
      show va_rf (rfm rf hp.length H.size es.length ((hp.length + 1 : Nat) : Int)) = _
      have := rfm_new (rf := rf) (n0 := hp.length) (h0 := H.size) (w := es.length) (i := 0) (by omega)
      rw [show ((hp.length + 1 : Nat) : Int) = ((hp.length + 0 : Nat) : Int) + 1 by omega, this]
      rfl
    rw [List.map_cons, e1, toVs_ext rfm_old hrest] at Wk
    obtain ⟨t, a1, b1⟩ := Wk F rfl X'
    refine ⟨t, step t ?_, b1⟩
    have eT : T.heap.size = H.size := by rw [hT]
    rw [eT]
    exact a1
  · obtain ⟨i, hi⟩ := List.mem_iff_getElem?.mp hx
    rcases hat i x hi with ⟨-, rfl⟩ | ⟨j, -, -, rfl⟩
    · refine ⟨fun h => by dsimp only at h; omega, fun h => ⟨by dsimp only; omega, by dsimp only; omega, by rw [refs_len]; omega⟩, fun i x hx => ?_⟩
      obtain ⟨h1, rfl⟩ := refs_in hx
      have hty2 : kty a.toNat i = 2 := by
        unfold kty
        rw [if_neg (by omega), if_neg (by omega), if_neg (by omega), if_neg (by omega), if_neg (by omega)]
      dsimp only
      rw [hty2, hel]
      exact Or.inr (Or.inr (Or.inl ⟨rfl, by omega⟩))
    · exact okC_rep (fun h => by omega) (fun h => by omega)
  · rcases hat i x hx with ⟨rfl, rfl⟩ | ⟨j, rfl, hj, rfl⟩
    · refine ⟨_, ent_r hA1.1, ?_⟩
      show F.heap[H.size]? = _
      rw [f2, oC_arr]
      show some (arrV _ _ _) = some (vp_cell _ ((refsFrom (hp.length + 1) n.toNat 1).length, .inr (.inr (.inr (.inr _)))))
      rw [vp_cell_q, refs_len]
      congr 1
      refine arrV_congr (fun j hj => ?_)
      rw [if_pos hj, refs_at hj]
      have := rfm_new (rf := rf) (n0 := hp.length) (h0 := H.size) (w := es.length) (i := 1 + j) (by omega)
      rw [show ((hp.length + 1 + 1 * j + 1 : Nat) : Int) = ((hp.length + (1 + j) : Nat) : Int) + 1 by omega, this]
      show Value.ref (H.size + 1 + j) = Value.ref (H.size + (1 + j))
      rw [Nat.add_assoc]
    · have hr := hrow j hj
      rw [show H.size + (j + 1) = H.size + 1 + j by omega]
      refine ⟨_, ent_i (show 14 ≤ b.toNat by omega) (show b.toNat < 23 by omega), ?_⟩
      rw [hr]
      have fz : (fun j => Int32.ofInt ((List.replicate k.toNat (0 : Int)).getD j 0)) = fun _ => 0 := by funext j; rw [rep_getD]; rfl
      show some _ = some (vp_cell _ ((List.replicate k.toNat (0 : Int)).length, .inl _))
      rw [fz, List.length_replicate, vp_cell_i]
      congr 1
      unfold Jvm.Free.Multi.innerC
      rw [arrV_new]
      rcases hab with ⟨rfl, -⟩ | ⟨rfl, -⟩ <;> rfl
theorem wr_mna3 (X : Cx p s m args c cc nL own) (h0 : rf 0 = none) (hbs : base ≤ s.heap.size) (hSS : va_S (A0 base) s.heap H locs) (hK : va_K D vwCl (ktys cA) s) (hP : va_P D vwCl (wld rf cA hp) H) (hD : va_D (A0 base) (wld rf cA hp)) (hw : wfH hp) (hR : Rf base rf hp.length)
    {pc nx g0 g1 g2 g3 g4 : Nat} {a b n k q : Int} {rest : List Vl} (hd : dcR3 own cc pc nx a b g0 g1 g2 g3 g4 = true) (hn0 : 0 ≤ n) (hn : n ≤ 1000) (hk0 : 0 ≤ k) (hkk : k ≤ 1000) (hq0 : 0 ≤ q) (hqq : q ≤ 1000) (hrest : okS hp.length rest) (hcells : cells + (1 + n.toNat * (k.toNat + 1)) ≤ R.cells) (hslots : slots + (n.toNat + n.toNat * (k.toNat + k.toNat * q.toNat)) ≤ R.slots)
    (K : KW p l e R s m args below meth c base D cA rf hp (hp ++ (a.toNat, refsFrom (hp.length + 1) n.toNat (k.toNat + 1)) :: (List.range n.toNat).flatMap (fun i => (b.toNat, refsFrom (hp.length + 2 + (k.toNat + 1) * i) k.toNat 1) :: List.replicate k.toNat (20, List.replicate q.toNat 0))) cells slots Q nx arr ((2, ((hp.length + 1 : Nat) : Int)) :: rest)) : W p l e R s m args below meth c H locs cells slots Q (F0 m pc arr (toV rf (0, q) :: toV rf (0, k) :: toV rf (0, n) :: rest.map (toV rf))) := by
  obtain ⟨hx, hb, hml, hown, hts⟩ := X
  unfold dcR3 at hd
  simp only [Bool.and_eq_true, decide_eq_true_eq, beq_iff_eq] at hd
  obtain ⟨⟨rfl, rfl⟩, ⟨rfl, hdq⟩, hl1, hl2, hl3, hl4⟩ := hd
  have hn32 : in32 n := by unfold in32; omega
  have hk32 : in32 k := by unfold in32; omega
  have hq32 : in32 q := by unfold in32; omega
  have c1 := cl_of hn0 hn32
  have c2 := cl_of hk0 hk32
  have c3 := cl_of hq0 hq32
  rw [toV_i, toV_i, toV_i]
  have hbH : base ≤ H.size := Nat.le_trans hbs hSS.1
  intro T hT Xs
  obtain ⟨vm₁, x3, x2, x1, fA, fB, fC, X', step⟩ := multianewarray3 Xs hx (ty := .int) hown (hts _ (wq_of hl1)) (hts _ (wq_of hl2)) (hts _ (wq_of hl3)) (hts _ (wq_of hl4)) (g := F0 m pc arr (.int (Int32.ofInt q) :: .int (Int32.ofInt k) :: .int (Int32.ofInt n) :: rest.map (toV rf))) rfl (by rw [hb]; exact dq_of hdq) rfl (n_nn hn0 hn32) (n_nn hk0 hk32) (n_nn hq0 hq32) (by rw [c1]; omega) (by rw [c2]; omega) (by rw [c3]; show q.toNat * 4 ≤ _; omega) (by rw [c3]; omega) rfl rfl (by rw [c1, c2]; exact hcells) (by rw [c1, c2, c3]; exact hslots)
  rw [c1, c2, c3] at X' step
  have e3 : x3 = cA 27 := Option.some.inj (fA.symm.trans (hK.2 (27 - 20) _ (ktys_at cA (k := 27) (by omega) (by omega))).2)
  have e2 : x2 = cA 26 := Option.some.inj (fB.symm.trans (hK.2 (26 - 20) _ (ktys_at cA (k := 26) (by omega) (by omega))).2)
  have e1 : x1 = cA 20 := Option.some.inj (fC.symm.trans (hK.2 (20 - 20) _ (ktys_at cA (k := 20) (by omega) (by omega))).2)
  subst e3 e2 e1
  have hN : n.toNat ≤ 1000 := by omega
  have hMM : k.toNat ≤ 1000 := by omega
  have hLL : q.toNat ≤ 1000 := by omega
  generalize n.toNat = N at *
  generalize k.toNat = M at *
  generalize q.toNat = L at *
  generalize hF : f3 (T.setVm vm₁) (cA 27) (cA 26) (cA 20) N M L (defaultValue .int) N = F at X' step
  have hTh : (T.setVm vm₁).heap = H := hT
  obtain ⟨f1, f2, -, -⟩ := f3_facts (T.setVm vm₁) (cA 27) (cA 26) (cA 20) N M L (defaultValue .int) N
  rw [hF, hTh] at f1 f2
  have hold : ∀ x : Nat, x < H.size → F.heap[x]? = H[x]? := fun x hx => by
    have := f3_old (T.setVm vm₁) (cA 27) (cA 26) (cA 20) N M L (defaultValue .int) (a := x) (by rw [hTh]; exact hx) N
    rw [hF, hTh] at this
    exact this
  have hin : ∀ i : Nat, i < N → F.heap[H.size + 1 + i * (M + 1)]? = some (Jvm.Free.Multi.outerC (cA 26) M (H.size + 1 + i * (M + 1)) M) ∧ ∀ t, t < M → F.heap[H.size + 1 + i * (M + 1) + 1 + t]? = some (Jvm.Free.Multi.innerC (cA 20) L (defaultValue .int)) := fun i hi => by
    have := f3_in (T.setVm vm₁) (cA 27) (cA 26) (cA 20) N M L (defaultValue .int) N i hi
    rw [hF, hTh] at this
    exact this
  let blk : Nat → Hp := fun i => (26, refsFrom (hp.length + 2 + (M + 1) * i) M 1) :: List.replicate M (20, List.replicate L 0)
  have hblk : ∀ i, (blk i).length = M + 1 := fun i => by simp [blk]
  have K2 : KW p l e R s m args below meth c base D cA rf hp (hp ++ (((27, refsFrom (hp.length + 1) N (M + 1)) :: (List.range N).flatMap blk : Hp))) cells slots Q (pc + 4) arr ((2, ((hp.length + 1 : Nat) : Int)) :: rest) := K
  clear K
  generalize hes : ((27, refsFrom (hp.length + 1) N (M + 1)) :: (List.range N).flatMap blk : Hp) = es at K2
  have hel : es.length = 1 + N * (M + 1) := by rw [← hes, List.length_cons, blk_len blk (M + 1) hblk]; omega
  have hat : ∀ (i : Nat) (x : Nat × List Int), es[i]? = some x → (i = 0 ∧ x = (27, refsFrom (hp.length + 1) N (M + 1))) ∨ (∃ j, i = 1 + j * (M + 1) ∧ j < N ∧ x = (26, refsFrom (hp.length + 2 + (M + 1) * j) M 1)) ∨ ∃ j t, i = 1 + j * (M + 1) + 1 + t ∧ j < N ∧ t < M ∧ x = (20, List.replicate L 0) := by
    intro i x hx
    have hil := (List.getElem?_eq_some_iff.mp hx).1
    rw [hel] at hil
    rw [← hes] at hx
    cases i with
    | zero => exact Or.inl ⟨rfl, (Option.some.inj hx).symm⟩
    | succ i =>
      rw [List.getElem?_cons_succ] at hx
      have hM : 0 < M + 1 := Nat.succ_pos M
      have hj : i / (M + 1) < N := (Nat.div_lt_iff_lt_mul hM).mpr (by omega)
      have ht : i % (M + 1) < M + 1 := Nat.mod_lt _ hM
      have hi : i = i / (M + 1) * (M + 1) + i % (M + 1) := by
        have := Nat.div_add_mod i (M + 1)
        rw [Nat.mul_comm] at this
        exact this.symm
      generalize i / (M + 1) = j at hj hi
      generalize i % (M + 1) = t at ht hi
      rw [hi, blk_at blk (M + 1) hblk N j t hj ht] at hx
      cases t with
      | zero => exact Or.inr (Or.inl ⟨j, by omega, hj, (Option.some.inj hx).symm⟩)
      | succ t =>
        have hx2 : (List.replicate M ((20, List.replicate L 0) : Nat × List Int))[t]? = some x := hx
        rw [List.getElem?_replicate, if_pos (by omega)] at hx2
        exact Or.inr (Or.inr ⟨j, t, by omega, hj, by omega, (Option.some.inj hx2).symm⟩)
  have hjm : ∀ j, j < N → j * (M + 1) + (M + 1) ≤ N * (M + 1) := fun j hj => by
    have := Nat.mul_le_mul_right (M + 1) (show j + 1 ≤ N from hj)
    rw [Nat.succ_mul] at this
    exact this
  have key := ext_world (es := es) hP hD hw hR hbH hold (fun x hx => ?_) (fun i x hx => ?_)
  · obtain ⟨k1, k2, k3, k4⟩ := key
    have hlen : (hp ++ es).length - hp.length = 1 + N * (M + 1) := by rw [List.length_append, hel]; omega
    have hsb : ∀ n, sz ((List.range n).flatMap blk) = n * (M + M * L) := by
      intro n
      induction n with
      | zero => simp [sz]
      | succ n ih =>
        rw [List.range_succ, List.flatMap_append, sz_app, ih, Nat.succ_mul]
        congr 1
        simp [blk, sz_cons, sz_rep, refs_len]
    have hsz : sz (hp ++ es) - sz hp = N + N * (M + M * L) := by
      rw [sz_app, ← hes, sz_cons, hsb, refs_len]
      omega
    have hSS' : va_S (A0 base) s.heap F.heap locs := ⟨by rw [f1]; have := hSS.1; omega, fun q h1 h2 => by rw [hold q (Nat.lt_of_lt_of_le h1 hSS.1)]; exact hSS.2.1 q h1 h2, hSS.2.2⟩
    have Wk := K2 (rfm rf hp.length H.size es.length) F.heap locs (cells + 1 + N * (M + 1)) (slots + N + N * (M + M * L)) rfm_old k1 k2 hSS' k3 k4 (by rw [hlen]; omega) (by rw [hsz]; omega)
    have e1 : toV (rfm rf hp.length H.size es.length) (2, ((hp.length + 1 : Nat) : Int)) = .ref H.size := by
      show va_rf (rfm rf hp.length H.size es.length ((hp.length + 1 : Nat) : Int)) = _
      have := rfm_new (rf := rf) (n0 := hp.length) (h0 := H.size) (w := es.length) (i := 0) (by omega)
      rw [show ((hp.length + 1 : Nat) : Int) = ((hp.length + 0 : Nat) : Int) + 1 by omega, this]
      rfl
    rw [List.map_cons, e1, toVs_ext rfm_old hrest] at Wk
    obtain ⟨t, a1, b1⟩ := Wk F rfl X'
    refine ⟨t, step t ?_, b1⟩
    have eT : T.heap.size = H.size := by rw [hT]
    rw [eT]
    exact a1
  · obtain ⟨i, hi⟩ := List.mem_iff_getElem?.mp hx
    rcases hat i x hi with ⟨-, rfl⟩ | ⟨j, -, hj, rfl⟩ | ⟨j, t, -, -, -, rfl⟩
    · refine ⟨fun h => by simp at h, fun h => ⟨by simp, by simp, by rw [refs_len]; omega⟩, fun i x hx => ?_⟩
      obtain ⟨h1, rfl⟩ := refs_in hx
      have := hjm i h1
      rw [Nat.mul_comm] at this
      rw [hel]
      exact Or.inr (Or.inr (Or.inl ⟨rfl, by omega⟩))
    · refine ⟨fun h => by simp at h, fun h => ⟨by simp, by simp, by rw [refs_len]; omega⟩, fun i x hx => ?_⟩
      obtain ⟨h1, rfl⟩ := refs_in hx
      have := hjm j hj
      rw [Nat.mul_comm] at this
      rw [hel]
      exact Or.inr (Or.inr (Or.inl ⟨rfl, by omega⟩))
    · exact okC_rep (fun h => by simp at h) (fun h => ⟨by simp, by simp, by omega⟩)
  · rcases hat i x hx with ⟨rfl, rfl⟩ | ⟨j, rfl, hj, rfl⟩ | ⟨j, t, rfl, hj, ht, rfl⟩
    · refine ⟨_, ent_r (by simp), ?_⟩
      show F.heap[H.size]? = _
      rw [f2, o3_arr]
      show some (arrV _ _ _) = some (vp_cell _ ((refsFrom (hp.length + 1) N (M + 1)).length, .inr (.inr (.inr (.inr _)))))
      rw [vp_cell_q, refs_len]
      congr 1
      refine arrV_congr (fun j hj => ?_)
      have hm := hjm j hj
      rw [if_pos hj, refs_at hj]
      have := rfm_new (rf := rf) (n0 := hp.length) (h0 := H.size) (w := es.length) (i := 1 + j * (M + 1)) (by omega)
      rw [show ((hp.length + 1 + (M + 1) * j + 1 : Nat) : Int) = ((hp.length + (1 + j * (M + 1)) : Nat) : Int) + 1 by rw [Nat.mul_comm (M + 1) j]; omega, this]
      show Value.ref (H.size + 1 + j * (M + 1)) = Value.ref (H.size + (1 + j * (M + 1)))
      rw [Nat.add_assoc]
    · have hm := hjm j hj
      refine ⟨_, ent_r (by simp), ?_⟩
      rw [← Nat.add_assoc, (hin j hj).1, oC_arr]
      show some (arrV _ _ _) = some (vp_cell _ ((refsFrom (hp.length + 2 + (M + 1) * j) M 1).length, .inr (.inr (.inr (.inr _)))))
      rw [vp_cell_q, refs_len]
      congr 1
      refine arrV_congr (fun t ht => ?_)
      rw [if_pos ht, refs_at ht]
      have := rfm_new (rf := rf) (n0 := hp.length) (h0 := H.size) (w := es.length) (i := 1 + j * (M + 1) + 1 + t) (by omega)
      rw [show ((hp.length + 2 + (M + 1) * j + 1 * t + 1 : Nat) : Int) = ((hp.length + (1 + j * (M + 1) + 1 + t) : Nat) : Int) + 1 by rw [Nat.mul_comm (M + 1) j]; omega, this]
      show Value.ref (H.size + 1 + j * (M + 1) + 1 + t) = Value.ref (H.size + (1 + j * (M + 1) + 1 + t))
      congr 1
      simp only [Nat.add_assoc]
    · refine ⟨_, ent_i (by simp) (by simp), ?_⟩
      rw [show H.size + (1 + j * (M + 1) + 1 + t) = H.size + 1 + j * (M + 1) + 1 + t by simp only [Nat.add_assoc], (hin j hj).2 t ht]
      have fz : (fun j => Int32.ofInt ((List.replicate L (0 : Int)).getD j 0)) = fun _ => 0 := by funext j; rw [rep_getD]; rfl
      show some _ = some (vp_cell _ ((List.replicate L (0 : Int)).length, .inl _))
      rw [fz, List.length_replicate, vp_cell_i]
      congr 1
      unfold Jvm.Free.Multi.innerC
      rw [arrV_new]
      rfl
end MS
