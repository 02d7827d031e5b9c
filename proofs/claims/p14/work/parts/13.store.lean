/-! arrays are written: the machine's step -/
theorem updI {l : List Int} {i : Nat} (x : Int) (h : i < l.length) : upd (fun j => Int32.ofInt (l.getD j 0)) i (Int32.ofInt x) = fun j => Int32.ofInt ((l.set i x).getD j 0) := by
  funext j
  unfold upd
  rw [List.getD_eq_getElem?_getD, List.getElem?_set]
  by_cases e : j = i
  · subst e
    simp [h]
  · rw [if_neg e, if_neg (fun q => e q.symm), ← List.getD_eq_getElem?_getD]
theorem updJ {l : List Int} {i : Nat} (x : Int) (h : i < l.length) : vp_updL (fun j => Int64.ofInt (l.getD j 0)) i (Int64.ofInt x) = fun j => Int64.ofInt ((l.set i x).getD j 0) := by
  funext j
  unfold vp_updL
  rw [List.getD_eq_getElem?_getD, List.getElem?_set]
  by_cases e : j = i
  · subst e
    simp [h]
  · rw [if_neg e, if_neg (fun q => e q.symm), ← List.getD_eq_getElem?_getD]
theorem updR {rf : Int → Option Nat} {l : List Int} {i : Nat} (x : Int) (h : i < l.length) : va_up (fun j => rf (l.getD j 0)) i (rf x) = fun j => rf ((l.set i x).getD j 0) := by
  funext j
  unfold va_up
  rw [List.getD_eq_getElem?_getD, List.getElem?_set]
  by_cases e : j = i
  · subst e
    simp [h]
  · rw [if_neg e, if_neg (fun q => e q.symm), ← List.getD_eq_getElem?_getD]
theorem cl_cast : ∀ (k : Nat) (q : vw_C), vwCl[k]? = some q → Cond.castable q.1 "java/lang/Object" ∈ lw_use := by
  intro k q h
  have hk : k < 14 := (List.getElem?_eq_some_iff.mp h).1
  match k, h with
  | 0, h => cases h; exact wq_of (i := 2192) (by decide +kernel)
  | 1, h => cases h; exact wq_of (i := 2203) (by decide +kernel)
  | 2, h => cases h; exact wq_of (i := 2197) (by decide +kernel)
  | 3, h => cases h; exact wq_of (i := 2196) (by decide +kernel)
  | 4, h => cases h; exact wq_of (i := 2201) (by decide +kernel)
  | 5, h => cases h; exact wq_of (i := 2198) (by decide +kernel)
  | 6, h => cases h; exact wq_of (i := 2202) (by decide +kernel)
  | 7, h => cases h; exact wq_of (i := 2194) (by decide +kernel)
  | 8, h => cases h; exact wq_of (i := 2193) (by decide +kernel)
  | 9, h => cases h; exact wq_of (i := 2195) (by decide +kernel)
  | 10, h => cases h; exact wq_of (i := 2189) (by decide +kernel)
  | 11, h => cases h; exact wq_of (i := 2200) (by decide +kernel)
  | 12, h => cases h; exact wq_of (i := 2191) (by decide +kernel)
  | 13, h => cases h; exact wq_of (i := 2199) (by decide +kernel)
  | k + 14, h => omega
section AS
variable {p : Program} {l : Launch} {e : Env} {R : Room} {s : State} {m : MethodId} {args : Array Value} {below : List Frame} {meth : Method} {c : Code} {H : Heap} {locs : List Loc} {cells slots : Nat} {Q : State → Prop}
variable {cc : ByteArray} {nL : Nat} {own mn : String} {base : Nat} {rf : Int → Option Nat} {sc : List Int} {st st' : List Vl} {arr : Array Slot} {D : va_G} {cA : Nat → ClassId} {hp : Hp}
def dcA (cc : ByteArray) (pc nx : Nat) (a : Int) : Bool :=
  if a = 20 then d1 cc pc nx .iastore else if a = 21 then d1 cc pc nx .bastore else if a = 23 then d1 cc pc nx .lastore else a == 24 && d1 cc pc nx .aastore
theorem wr_ast (X : Cx p s m args c cc nL own) (hS : Stt base rf sc s) (hSS : va_S (A0 base) s.heap H locs) (hK : va_K D vwCl (ktys cA) s) (hP : va_P D vwCl (wld rf cA hp) H) (hD : va_D (A0 base) (wld rf cA hp)) (hw : wfH hp) (hR : Rf base rf hp.length)
    {pc nx kd : Nat} {a r x i : Int} {lc : List Int} {v : Vl} {rest : List Vl} (hd : dcA cc pc nx a = true) (hc : cel hp r = some (kd, lc)) (hi0 : 0 ≤ i) (hil : i.toNat < lc.length) (hk : (kd : Int) = a ∨ (a = 21 ∧ kd = 22) ∨ (a = 24 ∧ 24 ≤ kd)) (hkf : kept hp kd v = some x) (hv : okV hp.length v) (hi32 : in32 i)
    (k : ∀ (H' : Heap) (locs' : List Loc), va_P D vwCl (wld rf cA (hp.set (r.toNat - 1) (kd, lc.set i.toNat x))) H' → va_D (A0 base) (wld rf cA (hp.set (r.toNat - 1) (kd, lc.set i.toNat x))) → va_S (A0 base) s.heap H' locs' → wfH (hp.set (r.toNat - 1) (kd, lc.set i.toNat x)) → W p l e R s m args below meth c H' locs' cells slots Q (F0 m nx arr (rest.map (toV rf)))) : W p l e R s m args below meth c H locs cells slots Q (F0 m pc arr (toV rf v :: toV rf (0, i) :: toV rf (2, r) :: rest.map (toV rf))) := by
  obtain ⟨hx, hb, hml, hown, hts⟩ := X
  obtain ⟨-, hat, -⟩ := cel_of hc
  have hwl := wld_at (rf := rf) (cA := cA) hat
  rw [ref_of hR hc, toV_i]
  have hcl : (Int32.ofInt i).toNatClampNeg = i.toNat := cl_of hi0 hi32
  have hin : vp_in (Int32.ofInt i) lc.length := vp_in_of' hi0 hi32 hil
  have hC := hw.at hat
  have hA14 : 14 ≤ kd → 20 ≤ kd ∧ kd ≤ 29 := fun h => ⟨(hC.2.1 h).1, (hC.2.1 h).2.1⟩
  have wfx : ∀ y : Int, okT hp.length (kty kd i.toNat) y → wfH (hp.set (r.toNat - 1) (kd, lc.set i.toNat y)) := fun y hy => wfH_set hw (okC_set hC hy (fun j h => kty_arr h _ _))
  unfold dcA at hd
  unfold kept at hkf
  by_cases a0 : a = 20
  · rw [if_pos a0] at hd
    obtain ⟨rfl, hdq⟩ := d1_of hd
    have hkd : kd = 20 := by omega
    subst hkd
    rw [if_pos rfl] at hkf
    by_cases h1 : v.1 = 0
    · rw [if_pos h1] at hkf
      obtain ⟨t, y⟩ := v
      dsimp only at h1 hkf
      subst h1
      have hkf := Option.some.inj hkf
      subst hkf
      rw [ent_i (by simp) (by simp)] at hwl
      refine va_iast hx hb hK hP hD hSS (r.toNat - 1) 0 hwl (ktys_at cA (Nat.le_refl 20) (by omega)) hin hdq (fun H1 locs1 h1 h2 h3 => ?_)
      have hset : (wld rf cA hp).set (r.toNat - 1) (adr rf (r.toNat - 1), .inl (cA 20, lc.length, .inl (upd (fun j => Int32.ofInt (lc.getD j 0)) (Int32.ofInt i).toNatClampNeg (Int32.ofInt y)))) = wld rf cA (hp.set (r.toNat - 1) (20, lc.set i.toNat y)) := by
        rw [← wld_set, ent_i (by simp) (by simp), hcl, updI y hil, List.length_set]
      rw [hset] at h1 h2
      exact k H1 locs1 h1 h2 h3 (wfx y (Or.inl ⟨rfl, hv.int⟩))
    · rw [if_neg h1] at hkf
      cases hkf
  rw [if_neg a0] at hd
  by_cases a1 : a = 21
  · rw [if_pos a1] at hd
    obtain ⟨rfl, hdq⟩ := d1_of hd
    have hkd : kd = 21 ∨ kd = 22 := by omega
    rcases hkd with rfl | rfl
    · rw [if_neg (by decide), if_pos rfl] at hkf
      by_cases h1 : v.1 = 0
      · rw [if_pos h1] at hkf
        obtain ⟨t, y⟩ := v
        dsimp only at h1 hkf
        subst h1
        have hkf := Option.some.inj hkf
        subst hkf
        rw [ent_i (by simp) (by simp)] at hwl
        refine va_bast hx hb hK hP hD hSS (r.toNat - 1) 1 hwl (ktys_at cA (k := 21) (by omega) (by omega)) hin hdq (fun H1 locs1 h1 h2 h3 => ?_)
        have hset : (wld rf cA hp).set (r.toNat - 1) (adr rf (r.toNat - 1), .inl (cA 21, lc.length, .inl (upd (fun j => Int32.ofInt (lc.getD j 0)) (Int32.ofInt i).toNatClampNeg (vp_nar .byte (Int32.ofInt y))))) = wld rf cA (hp.set (r.toNat - 1) (21, lc.set i.toNat (i_byt y))) := by
          rw [← wld_set, ent_i (by simp) (by simp), hcl, vp_nar_byte, n_i2b, updI _ hil, List.length_set]
        rw [hset] at h1 h2
        exact k H1 locs1 h1 h2 h3 (wfx _ (Or.inr (Or.inr (Or.inr (Or.inl ⟨rfl, by unfold i_byt; omega, by unfold i_byt; omega⟩)))))
      · rw [if_neg h1] at hkf
        cases hkf
    · rw [if_neg (by decide), if_neg (by decide), if_pos rfl] at hkf
      by_cases h1 : v.1 = 0 ∧ (v.2 = 0 ∨ v.2 = 1)
      · rw [if_pos h1] at hkf
        obtain ⟨t, y⟩ := v
        dsimp only at h1 hkf
        obtain ⟨h1, h01⟩ := h1
        subst h1
        have hkf := Option.some.inj hkf
        subst hkf
        rw [ent_i (by simp) (by simp)] at hwl
        refine va_zast hx hb hK hP hD hSS (r.toNat - 1) 2 hwl (ktys_at cA (k := 22) (by omega) (by omega)) hin hdq (fun H1 locs1 h1 h2 h3 => ?_)
        have hnz : vp_nar .boolean (Int32.ofInt y) = Int32.ofInt y := by rcases h01 with rfl | rfl <;> rfl
        have hset : (wld rf cA hp).set (r.toNat - 1) (adr rf (r.toNat - 1), .inl (cA 22, lc.length, .inl (upd (fun j => Int32.ofInt (lc.getD j 0)) (Int32.ofInt i).toNatClampNeg (vp_nar .boolean (Int32.ofInt y))))) = wld rf cA (hp.set (r.toNat - 1) (22, lc.set i.toNat y)) := by
          rw [← wld_set, ent_i (by simp) (by simp), hcl, hnz, updI _ hil, List.length_set]
        rw [hset] at h1 h2
        exact k H1 locs1 h1 h2 h3 (wfx _ (Or.inr (Or.inr (Or.inr (Or.inr ⟨rfl, h01⟩)))))
      · rw [if_neg h1] at hkf
        cases hkf
  rw [if_neg a1] at hd
  by_cases a3 : a = 23
  · rw [if_pos a3] at hd
    obtain ⟨rfl, hdq⟩ := d1_of hd
    have hkd : kd = 23 := by omega
    subst hkd
    rw [if_neg (by decide), if_neg (by decide), if_neg (by decide), if_pos rfl] at hkf
    by_cases h1 : v.1 = 1
    · rw [if_pos h1] at hkf
      obtain ⟨t, y⟩ := v
      dsimp only at h1 hkf
      subst h1
      have hkf := Option.some.inj hkf
      subst hkf
      rw [ent_l rfl] at hwl
      refine va_last hx hb hK hP hD hSS (r.toNat - 1) 3 hwl (ktys_at cA (k := 23) (by omega) (by omega)) hin hdq (fun H1 locs1 h1 h2 h3 => ?_)
      have hset : (wld rf cA hp).set (r.toNat - 1) (adr rf (r.toNat - 1), .inl (cA 23, lc.length, .inr (.inl (vp_updL (fun j => Int64.ofInt (lc.getD j 0)) (Int32.ofInt i).toNatClampNeg (Int64.ofInt y))))) = wld rf cA (hp.set (r.toNat - 1) (23, lc.set i.toNat y)) := by
        rw [← wld_set, ent_l rfl, hcl, updJ y hil, List.length_set]
      rw [hset] at h1 h2
      exact k H1 locs1 h1 h2 h3 (wfx y (Or.inr (Or.inl ⟨rfl, hv.long⟩)))
    · rw [if_neg h1] at hkf
      cases hkf
  rw [if_neg a3, Bool.and_eq_true, beq_iff_eq] at hd
  obtain ⟨rfl, hd⟩ := hd
  obtain ⟨rfl, hdq⟩ := d1_of hd
  have hkd : 24 ≤ kd := by omega
  rw [if_neg (by omega), if_neg (by omega), if_neg (by omega), if_neg (by omega)] at hkf
  rw [ent_r hkd] at hwl
  have fin : ∀ (y : Int) (H1 : Heap) (locs1 : List Loc), y ≤ hp.length → va_P D vwCl ((wld rf cA hp).set (r.toNat - 1) (adr rf (r.toNat - 1), .inl (cA kd, lc.length, .inr (.inr (.inr (.inr (va_up (fun j => rf (lc.getD j 0)) (Int32.ofInt i).toNatClampNeg (rf y)))))))) H1 → va_D (A0 base) ((wld rf cA hp).set (r.toNat - 1) (adr rf (r.toNat - 1), .inl (cA kd, lc.length, .inr (.inr (.inr (.inr (va_up (fun j => rf (lc.getD j 0)) (Int32.ofInt i).toNatClampNeg (rf y)))))))) → va_S (A0 base) s.heap H1 locs1 → x = y → W p l e R s m args below meth c H1 locs1 cells slots Q (F0 m (pc + 1) arr (rest.map (toV rf))) := by
    intro y H1 locs1 hy h1 h2 h3 hxy
    subst hxy
    have hset : (wld rf cA hp).set (r.toNat - 1) (adr rf (r.toNat - 1), .inl (cA kd, lc.length, .inr (.inr (.inr (.inr (va_up (fun j => rf (lc.getD j 0)) (Int32.ofInt i).toNatClampNeg (rf x))))))) = wld rf cA (hp.set (r.toNat - 1) (kd, lc.set i.toNat x)) := by
      rw [← wld_set, ent_r (show 24 ≤ ((kd, lc.set i.toNat x) : Nat × List Int).1 from hkd), hcl, updR x hil, List.length_set]
    rw [hset] at h1 h2
    have hty : kty kd i.toNat = 2 := by
      unfold kty
      rw [if_neg (by omega), if_neg (by omega), if_neg (by omega), if_neg (by omega), if_neg (by omega)]
    exact k H1 locs1 h1 h2 h3 (wfx x (by rw [hty]; exact Or.inr (Or.inr (Or.inl ⟨rfl, hy⟩))))
  by_cases k4 : kd = 24
  · subst k4
    rw [if_pos rfl] at hkf
    by_cases h1 : v.1 = 2
    · rw [if_pos h1] at hkf
      obtain ⟨t, y⟩ := v
      dsimp only at h1 hkf
      subst h1
      cases hcy : cel hp y with
      | none => rw [hcy] at hkf; cases hkf
      | some q =>
        obtain ⟨kq, lq⟩ := q
        rw [hcy] at hkf
        dsimp only at hkf
        by_cases hq : kq = 10
        · rw [if_pos hq] at hkf
          have hkf := Option.some.inj hkf
          subst hq
          obtain ⟨-, haty, hyn⟩ := cel_of hcy
          have hwy := wld_at (rf := rf) (cA := cA) haty
          rw [ent_o (by simp)] at hwy
          rw [ref_of hR hcy]
          refine va_astq hx hb hK hP hD hSS (r.toNat - 1) 4 (y.toNat - 1) 10 (r := (RX9, TX9, 3)) hwl (ktys_at cA (k := 24) (by omega) (by omega)) hwy rfl hin hdq (fun H1 locs1 h1 h2 h3 => fin y H1 locs1 hyn ?_ ?_ h3 hkf.symm)
          · rw [adr_of hR (cel_of hcy).1 hyn]; exact h1
          · rw [adr_of hR (cel_of hcy).1 hyn]; exact h2
        · rw [if_neg hq] at hkf
          cases hkf
    · rw [if_neg h1] at hkf
      cases hkf
  rw [if_neg k4] at hkf
  by_cases k5 : kd = 25
  · subst k5
    rw [if_pos rfl] at hkf
    by_cases h1 : v.1 = 2
    · rw [if_pos h1] at hkf
      obtain ⟨t, y⟩ := v
      dsimp only at h1 hkf
      subst h1
      by_cases hy0 : y = 0
      · rw [if_pos hy0] at hkf
        have hkf := Option.some.inj hkf
        have hr0 : rf 0 = none := hS.2.1
        rw [toV_r, hy0, hr0]
        refine va_astqN hx hb hK hP hD hSS (r.toNat - 1) 5 hwl (ktys_at cA (k := 25) (by omega) (by omega)) hin hdq (fun H1 locs1 h1 h2 h3 => fin 0 H1 locs1 (Int.natCast_nonneg _) ?_ ?_ h3 hkf.symm)
        · rw [hr0]; exact h1
        · rw [hr0]; exact h2
      · rw [if_neg hy0] at hkf
        cases hcy : cel hp y with
        | none => rw [hcy] at hkf; cases hkf
        | some q =>
          obtain ⟨kq, lq⟩ := q
          rw [hcy] at hkf
          dsimp only at hkf
          by_cases hq : kq < 14
          · rw [if_pos hq] at hkf
            have hkf := Option.some.inj hkf
            obtain ⟨-, haty, hyn⟩ := cel_of hcy
            have hwy := wld_at (rf := rf) (cA := cA) haty
            rw [ent_o (show ((kq, lq) : Nat × List Int).1 < 14 from hq)] at hwy
            have hclq := clAt_of (k := kq) rfl hq
            rw [ref_of hR hcy]
            refine va_astqO hx hb hK hP hD hSS (r.toNat - 1) 5 (y.toNat - 1) kq (E := "java/lang/Object") hwl (ktys_at cA (k := 25) (by omega) (by omega)) (va_Nw.of rfl (hts _ (cl_cast kq _ hclq))) hwy hclq hin hdq (fun H1 locs1 h1 h2 h3 => fin y H1 locs1 hyn ?_ ?_ h3 hkf.symm)
            · rw [adr_of hR (cel_of hcy).1 hyn]; exact h1
            · rw [adr_of hR (cel_of hcy).1 hyn]; exact h2
          · rw [if_neg hq] at hkf
            cases hkf
    · rw [if_neg h1] at hkf
      cases hkf
  rw [if_neg k5] at hkf
  by_cases k8 : kd = 28
  · subst k8
    rw [if_pos rfl] at hkf
    by_cases h1 : v.1 = 2 ∧ v.2 ≤ -10 ∧ -33 < v.2
    · rw [if_pos h1] at hkf
      obtain ⟨t, y⟩ := v
      dsimp only at h1 hkf
      obtain ⟨h1, hy1, hy2⟩ := h1
      subst h1
      have hkf := Option.some.inj hkf
      obtain ⟨-, -, -, -, adK, adV, hV, hk, -⟩ := hS
      obtain ⟨j, hj⟩ : ∃ j : Nat, y = -10 - (j : Int) := ⟨(-10 - y).toNat, by omega⟩
      have hj23 : j < 23 := by omega
      have e1 := (hk j hj23).1
      rw [← hj] at e1
      rw [toV_r, e1]
      obtain ⟨cell, g1, g2, g3⟩ := vk_recv hV hj23 hSS
      have hany : va_Any "java/lang/String" s H (adK j) := by
        obtain ⟨kC, hkC, -⟩ := Vm.findClass_spec g3
        refine ⟨cell, g1, g2, ⟨kC, hkC⟩, fun comp hcomp => ?_⟩
        cases hcomp.symm.trans g3
        exact va_asg _ _
      refine va_astqM hx hb hK hP hD hSS (r.toNat - 1) 8 hwl (ktys_at cA (k := 28) (by omega) (by omega)) hany hin hdq (fun H1 locs1 h1 h2 h3 => fin y H1 locs1 (by omega) ?_ ?_ h3 hkf.symm)
      · rw [e1]; exact h1
      · rw [e1]; exact h2
    · rw [if_neg h1] at hkf
      cases hkf
  rw [if_neg k8] at hkf
  cases hkf
end AS
