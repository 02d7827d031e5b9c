/-! instructions that write the heap: the machine's step -/
def tyq (t : Nat) (ty : FieldType) : Bool := match ty with
  | .int => t == 0
  | .long => t == 1
  | .boolean => t == 4
  | .byte => t == 3
  | .object _ => t == 2
  | .array _ => t == 2
  | _ => false
set_option maxRecDepth 100000 in
theorem cl_ty : ∀ (k : Nat) (q : vw_C), vwCl[k]? = some q → (∃ ty0 : Nat → FieldType, ∀ j, j < q.2.2 → parseFieldDescriptor (q.2.1 j).2.2.1 = some (ty0 j) ∧ tyq (kty k j) (ty0 j) = true) ∧ (∀ a, a < q.2.2 → ∀ b, b < q.2.2 → a ≠ b → (q.2.1 a).2.1 ≠ (q.2.1 b).2.1) ∧ q.2.2 = (knds.getD k []).length := by
  have key : ∀ (ty0 : Nat → FieldType) (k n : Nat) (T : u_T), (∀ j, j < n → parseFieldDescriptor (T j).2.2.1 = some (ty0 j)) → (∀ j, j < n → tyq (kty k j) (ty0 j) = true) → ∃ ty0 : Nat → FieldType, ∀ j, j < n → parseFieldDescriptor (T j).2.2.1 = some (ty0 j) ∧ tyq (kty k j) (ty0 j) = true := fun ty0 k n T h1 h2 => ⟨ty0, fun j hj => ⟨h1 j hj, h2 j hj⟩⟩
  intro k q h
  have hk : k < 14 := (List.getElem?_eq_some_iff.mp h).1
  match k, h with
  | 0, h => cases h; exact ⟨key tyJx4a65c 0 3 TJx4a65c tyJx4a65c_ok (by decide +kernel), nmJx4a65c, by decide⟩
  | 1, h => cases h; exact ⟨key tyX0 1 6 TX0 tyX0_ok (by decide +kernel), nmX0, by decide⟩
  | 2, h => cases h; exact ⟨key tyX1 2 10 TX1 tyX1_ok (by decide +kernel), nmX1, by decide⟩
  | 3, h => cases h; exact ⟨key tyX2 3 10 TX2 tyX2_ok (by decide +kernel), nmX2, by decide⟩
  | 4, h => cases h; exact ⟨key tyX3 4 19 TX3 tyX3_ok (by decide +kernel), nmX3, by decide⟩
  | 5, h => cases h; exact ⟨key tyX4 5 4 TX4 tyX4_ok (by decide +kernel), nmX4, by decide⟩
  | 6, h => cases h; exact ⟨key tyX5 6 7 TX5 tyX5_ok (by decide +kernel), nmX5, by decide⟩
  | 7, h => cases h; exact ⟨key tyX6 7 9 TX6 tyX6_ok (by decide +kernel), nmX6, by decide⟩
  | 8, h => cases h; exact ⟨key tyX7 8 2 TX7 tyX7_ok (by decide +kernel), nmX7, by decide⟩
  | 9, h => cases h; exact ⟨key tyX8 9 6 TX8 tyX8_ok (by decide +kernel), nmX8, by decide⟩
  | 10, h => cases h; exact ⟨key tyX9 10 3 TX9 tyX9_ok (by decide +kernel), nmX9, by decide⟩
  | 11, h => cases h; exact ⟨key tyX10 11 17 TX10 tyX10_ok (by decide +kernel), nmX10, by decide⟩
  | 12, h => cases h; exact ⟨key tyX11 12 13 TX11 tyX11_ok (by decide +kernel), nmX11, by decide⟩
  | 13, h => cases h; exact ⟨key tyX12 13 97 TX12 tyX12_ok (by decide +kernel), nmX12, by decide⟩
  | k + 14, h => omega
theorem va_rf_fits (C : String) (r : Option Nat) : fits (.object C) (va_rf r) = true ∧ narrow (.object C) (va_rf r) = va_rf r := by cases r <;> exact ⟨rfl, rfl⟩
theorem va_rf_fitsA (C : FieldType) (r : Option Nat) : fits (.array C) (va_rf r) = true ∧ narrow (.array C) (va_rf r) = va_rf r := by cases r <;> exact ⟨rfl, rfl⟩
theorem keptF_v {t : Nat} {v : Vl} {x : Int} (h : keptF t v = some x) : v = (tg t, x) ∧ (t = 4 → x = 0 ∨ x = 1) ∧ t ≠ 3 := by
  unfold keptF at h
  by_cases h1 : v.1 = tg t
  · rw [if_pos h1] at h
    by_cases h4 : t = 4
    · rw [if_pos h4] at h
      by_cases h5 : v.2 = 0 ∨ v.2 = 1
      · rw [if_pos h5] at h
        have h := Option.some.inj h
        subst h
        exact ⟨Prod.ext h1 rfl, fun _ => h5, by omega⟩
      · rw [if_neg h5] at h
        cases h
    · rw [if_neg h4] at h
      by_cases h3 : t = 3
      · rw [if_pos h3] at h
        cases h
      · rw [if_neg h3] at h
        have h := Option.some.inj h
        subst h
        exact ⟨Prod.ext h1 rfl, fun q => absurd q h4, h3⟩
  · rw [if_neg h1] at h
    cases h
theorem fit_of {rf : Int → Option Nat} {t : Nat} {x : Int} {ty : FieldType} (h : tyq t ty = true) (h4 : t = 4 → x = 0 ∨ x = 1) (h3 : t ≠ 3) : narrow ty (toV rf (tg t, x)) = toV rf (tg t, x) ∧ fits ty (toV rf (tg t, x)) = true := by
  unfold tyq at h
  cases ty with
  | int => simp only [beq_iff_eq] at h; subst h; exact ⟨rfl, rfl⟩
  | long => simp only [beq_iff_eq] at h; subst h; exact ⟨rfl, rfl⟩
  | boolean =>
    simp only [beq_iff_eq] at h
    subst h
    rcases h4 rfl with rfl | rfl <;> exact ⟨rfl, rfl⟩
  | byte => simp only [beq_iff_eq] at h; exact absurd h h3
  | object C => simp only [beq_iff_eq] at h; subst h; exact ⟨(va_rf_fits C _).2, (va_rf_fits C _).1⟩
  | array C => simp only [beq_iff_eq] at h; subst h; exact ⟨(va_rf_fitsA C _).2, (va_rf_fitsA C _).1⟩
  | _ => simp at h
theorem okT_of {n t : Nat} {x : Int} (h : okV n (tg t, x)) (h4 : t = 4 → x = 0 ∨ x = 1) (h3 : t ≠ 3) (ht : t ≤ 4) : okT n t x := by
  unfold okT
  unfold okV at h
  dsimp only at h
  have e : t = 0 ∨ t = 1 ∨ t = 2 ∨ t = 4 := by omega
  rcases e with rfl | rfl | rfl | rfl
  · simp [tg] at h
    exact Or.inl ⟨rfl, h⟩
  · simp [tg] at h
    exact Or.inr (Or.inl ⟨rfl, h⟩)
  · simp [tg] at h
    exact Or.inr (Or.inr (Or.inl ⟨rfl, h⟩))
  · exact Or.inr (Or.inr (Or.inr (Or.inr ⟨rfl, h4 rfl⟩)))
def dcG (own mn : String) (cc : ByteArray) (pc nx : Nat) (a b : Int) (g0 g1 g2 g3 : Nat) : Bool :=
  (decide (0 ≤ a ∧ a < 14 ∧ b.toNat < (clAt a).2.2) && (nx == pc + 3 && dq cc pc (.putfield g1) 3)) &&
  (if g2 = 0 then (((clAt a).2.1 b.toNat).2.2.2 == false) && wq g0 (.fieldLink own g1 ((clAt a).2.1 b.toNat).1 ((clAt a).2.1 b.toNat).2.1 ((clAt a).2.1 b.toNat).2.2.1)
   else if g2 = 1 then ((((clAt a).2.1 b.toNat).2.2.2 == true) && decide (((clAt a).2.1 b.toNat).1 = own ∧ mn = "<init>")) && wq g0 (.fieldLink own g1 ((clAt a).2.1 b.toNat).1 ((clAt a).2.1 b.toNat).2.1 ((clAt a).2.1 b.toNat).2.2.1)
   else (((clAt a).2.1 b.toNat).2.2.2 == false) && (wq g0 (.fieldLink own g1 RJx4a65c ((clAt a).2.1 b.toNat).2.1 ((clAt a).2.1 b.toNat).2.2.1) && wq g3 (.sameField RJx4a65c ((clAt a).2.1 b.toNat).1 ((clAt a).2.1 b.toNat).2.1 ((clAt a).2.1 b.toNat).2.2.1)))
section WR
variable {p : Program} {l : Launch} {e : Env} {R : Room} {s : State} {m : MethodId} {args : Array Value} {below : List Frame} {meth : Method} {c : Code} {H : Heap} {locs : List Loc} {cells slots : Nat} {Q : State → Prop}
variable {cc : ByteArray} {nL : Nat} {own mn : String} {base : Nat} {rf : Int → Option Nat} {sc : List Int} {st st' : List Vl} {arr : Array Slot} {D : va_G} {cA : Nat → ClassId} {hp : Hp}
theorem wr_put (X : Cx p s m args c cc nL own) (hmn : meth.name = mn) (hSS : va_S (A0 base) s.heap H locs) (hK : va_K D vwCl (ktys cA) s) (hP : va_P D vwCl (wld rf cA hp) H) (hD : va_D (A0 base) (wld rf cA hp)) (hw : wfH hp) (hR : Rf base rf hp.length)
    {pc nx g0 g1 g2 g3 kd : Nat} {a b r x : Int} {lc : List Int} {v : Vl} {rest : List Vl} (hd : dcG own mn cc pc nx a b g0 g1 g2 g3 = true) (hc : cel hp r = some (kd, lc)) (hk : (kd : Int) = a) (hbl : b.toNat < lc.length) (hkf : keptF (kty kd b.toNat) v = some x) (hv : okV hp.length v)
    (k : ∀ (H' : Heap) (locs' : List Loc), va_P D vwCl (wld rf cA (hp.set (r.toNat - 1) (kd, lc.set b.toNat x))) H' → va_D (A0 base) (wld rf cA (hp.set (r.toNat - 1) (kd, lc.set b.toNat x))) → va_S (A0 base) s.heap H' locs' → wfH (hp.set (r.toNat - 1) (kd, lc.set b.toNat x)) → W p l e R s m args below meth c H' locs' cells slots Q (F0 m nx arr (rest.map (toV rf)))) : W p l e R s m args below meth c H locs cells slots Q (F0 m pc arr (toV rf v :: toV rf (2, r) :: rest.map (toV rf))) := by
  obtain ⟨hx, hb, hml, hown, hts⟩ := X
  unfold dcG at hd
  rw [Bool.and_eq_true] at hd
  obtain ⟨hd, hl⟩ := hd
  simp only [Bool.and_eq_true, decide_eq_true_eq, beq_iff_eq] at hd
  obtain ⟨⟨ha0, ha14, hbN⟩, rfl, hdq⟩ := hd
  have hk14 : kd < 14 := by omega
  have hcl := clAt_of hk hk14
  obtain ⟨-, hat, -⟩ := cel_of hc
  have hwl := wld_at (rf := rf) (cA := cA) hat
  rw [ent_o (show ((kd, lc) : Nat × List Int).1 < 14 from hk14)] at hwl
  have hcw := cl_ws kd _ hcl
  obtain ⟨⟨ty0, hty⟩, hnm, hlen⟩ := cl_ty kd _ hcl
  obtain ⟨rfl, h4, h3⟩ := keptF_v hkf
  obtain ⟨hnr, hft⟩ := fit_of (rf := rf) (hty b.toNat hbN).2 h4 h3
  rw [ref_of hR hc]
  have hfl : b.toNat < (fv rf kd lc).length := by unfold fv; rw [List.length_mapIdx]; exact hbl
  have hset : (wld rf cA hp).set (r.toNat - 1) (adr rf (r.toNat - 1), .inr (kd, (fv rf kd lc).set b.toNat (toV rf (tg (kty kd b.toNat), x)))) = wld rf cA (hp.set (r.toNat - 1) (kd, lc.set b.toNat x)) := by
    rw [fv_set, ← wld_set, ent_o (show ((kd, lc.set b.toNat x) : Nat × List Int).1 < 14 from hk14)]
  have hwf : wfH (hp.set (r.toNat - 1) (kd, lc.set b.toNat x)) := wfH_set hw (okC_set (hw.at hat) (okT_of hv h4 h3 (kty_le _ _)) (fun j h => by omega))
  have fin : ∀ (H1 : Heap) (locs1 : List Loc), va_P D vwCl ((wld rf cA hp).set (r.toNat - 1) (adr rf (r.toNat - 1), .inr (kd, (fv rf kd lc).set b.toNat (toV rf (tg (kty kd b.toNat), x))))) H1 → va_D (A0 base) ((wld rf cA hp).set (r.toNat - 1) (adr rf (r.toNat - 1), .inr (kd, (fv rf kd lc).set b.toNat (toV rf (tg (kty kd b.toNat), x))))) → va_S (A0 base) s.heap H1 locs1 → W p l e R s m args below meth c H1 locs1 cells slots Q (F0 m (pc + 3) arr (rest.map (toV rf))) := by
    intro H1 locs1 h1 h2 h3
    rw [hset] at h1 h2
    exact k H1 locs1 h1 h2 h3 hwf
  by_cases hg : g2 = 0
  · rw [if_pos hg] at hl
    simp only [Bool.and_eq_true, beq_iff_eq] at hl
    exact va_put hx hb hts hcw ty0 (fun j hj => (hty j hj).1) hnm hown hK hP hD hSS (r.toNat - 1) hwl hcl b.toNat hbN (hts _ (wq_of hl.2)) (fun _ h => h) hl.1 (hty b.toNat hbN).1 hnr hft hfl (dq_of hdq) fin
  rw [if_neg hg] at hl
  by_cases hg1 : g2 = 1
  · rw [if_pos hg1] at hl
    simp only [Bool.and_eq_true, decide_eq_true_eq, beq_iff_eq] at hl
    exact va_putF hx hb hts hcw ty0 (fun j hj => (hty j hj).1) hnm hown hK hP hD hSS (r.toNat - 1) hwl hcl b.toNat hbN (hts _ (wq_of hl.2)) (fun _ h => h) hl.1.1 (by rw [hmn]; exact hl.1.2.2) hl.1.2.1 (hty b.toNat hbN).1 hnr hft hfl (dq_of hdq) fin
  rw [if_neg hg1] at hl
  simp only [Bool.and_eq_true, beq_iff_eq] at hl
  exact va_put hx hb hts hcw ty0 (fun j hj => (hty j hj).1) hnm hown hK hP hD hSS (r.toNat - 1) hwl hcl b.toNat hbN (hts _ (wq_of hl.2.1)) (fun x h => u_same (hts _ (wq_of hl.2.2)) x h) hl.1 (hty b.toNat hbN).1 hnr hft hfl (dq_of hdq) fin
end WR
