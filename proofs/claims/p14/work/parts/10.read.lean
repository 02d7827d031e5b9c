/-! instructions that read the heap: the machine's step -/
def clAt (a : Int) : vw_C := vwCl.getD a.toNat ("", fun _ => ("", "", "", false), 0)
def dcMt (own : String) (cc : ByteArray) (pc nx : Nat) (a : Int) (g0 g1 g2 g3 g4 : Nat) : Bool :=
  (nx == pc + 3 && dq cc pc (.invokestatic g1) 3) && (wq g4 (.initialized "java/lang/Math") &&
  (if a = 0 then wq g0 (.methodLink own g1 Lib.Math.max.name) && (wq g2 (.static Lib.Math.max.name) && wc g3 (.code Lib.Math.max.name Lib.Math.max.code 2 (some .int)))
   else wq g0 (.methodLink own g1 Lib.Math.min.name) && (wq g2 (.static Lib.Math.min.name) && wc g3 (.code Lib.Math.min.name Lib.Math.min.code 2 (some .int)))))
theorem mth_in {a x y : Int} (hx : in32 x) (hy : in32 y) : in32 (mth a x y) := by
  unfold mth
  split
  · split
    · exact hy
    · exact hx
  · split
    · exact hy
    · exact hx
section MT
variable {p : Program} {l : Launch} {e : Env} {R : Room} {s : State} {m : MethodId} {args : Array Value} {below : List Frame} {meth : Method} {c : Code} {H : Heap} {locs : List Loc} {cells slots : Nat} {Q : State → Prop}
variable {cc : ByteArray} {nL : Nat} {own : String} {rf : Int → Option Nat} {arr : Array Slot}
theorem rd_math (X : Cx p s m args c cc nL own) (harr : arr.size = nL) (hfr : 1 ≤ R.frames) (hlo : 64 ≤ R.locals) (hcl : cells ≤ R.cells) (hsl : slots ≤ R.slots) {pc nx g0 g1 g2 g3 g4 : Nat} {a x y : Int} {rest : List Vl} (hd : dcMt own cc pc nx a g0 g1 g2 g3 g4 = true) (hwd : wds rest ≤ 8) (hx : in32 x) (hy : in32 y)
    (k : W p l e R s m args below meth c H locs cells slots Q (F0 m nx arr (toV rf (0, mth a x y) :: rest.map (toV rf)))) : W p l e R s m args below meth c H locs cells slots Q (F0 m pc arr (toV rf (0, y) :: toV rf (0, x) :: rest.map (toV rf))) := by
  obtain ⟨hxe, hb, hml, hown, hts⟩ := X
  unfold dcMt at hd
  simp only [Bool.and_eq_true, beq_iff_eq] at hd
  obtain ⟨⟨rfl, hdq⟩, hi, hl⟩ := hd
  have hcat : ((rest.map (toV rf)).map fun v => v.category).sum = wds rest := by
    unfold wds
    rw [List.map_map]
    congr 1
    apply List.map_congr_left
    intro v _
    exact toV_cat rf v
  rw [toV_i] at k
  rw [toV_i, toV_i]
  unfold mth at k
  by_cases h0 : a = 0
  · rw [if_pos h0, Bool.and_eq_true, Bool.and_eq_true] at hl
    rw [if_pos h0] at k
    refine va_mmax hxe hb (by rw [hml]; exact harr.symm) hown (hts _ (wq_of hl.1)) (hts _ (wq_of hl.2.1)) (hts _ (wq_of hi)) (hts _ (wc_of hl.2.2)) hfr (by rw [hcat]; omega) hcl hsl (dq_of hdq) ?_
    by_cases h : x < y
    · rw [if_pos ((n_lt hx hy).mpr h)]
      rw [if_pos h] at k
      exact k
    · rw [if_neg (fun z => h ((n_lt hx hy).mp z))]
      rw [if_neg h] at k
      exact k
  · rw [if_neg h0, Bool.and_eq_true, Bool.and_eq_true] at hl
    rw [if_neg h0] at k
    refine va_mmin hxe hb (by rw [hml]; exact harr.symm) hown (hts _ (wq_of hl.1)) (hts _ (wq_of hl.2.1)) (hts _ (wq_of hi)) (hts _ (wc_of hl.2.2)) hfr (by rw [hcat]; omega) hcl hsl (dq_of hdq) ?_
    by_cases h : y < x
    · rw [if_pos ((n_lt hy hx).mpr h)]
      rw [if_pos h] at k
      exact k
    · rw [if_neg (fun z => h ((n_lt hy hx).mp z))]
      rw [if_neg h] at k
      exact k
end MT
def gcN : MethodName := ⟨"java/lang/Object", "getClass", "()Ljava/lang/Class;"⟩
def dcMl (own : String) (cc : ByteArray) (pc nx : Nat) (a : Int) (g0 g1 g2 g3 g4 : Nat) : Bool :=
  (nx == pc + 3 && dq cc pc (.invokestatic g1) 3) && (wq g4 (.initialized "java/lang/Math") &&
  (if a = 0 then wq g0 (.methodLink own g1 Lib.MathLoose.max_long.x) && (wq g2 (.static Lib.MathLoose.max_long.x) && wc g3 (.code Lib.MathLoose.max_long.x Lib.MathLoose.max_long.code 4 (some .long)))
   else wq g0 (.methodLink own g1 Lib.MathLoose.min_long.x) && (wq g2 (.static Lib.MathLoose.min_long.x) && wc g3 (.code Lib.MathLoose.min_long.x Lib.MathLoose.min_long.code 4 (some .long)))))
theorem mth_in64 {a x y : Int} (hx : in64 x) (hy : in64 y) : in64 (mth a x y) := by
  unfold mth
  split
  · split
    · exact hy
    · exact hx
  · split
    · exact hy
    · exact hx
section ML
variable {p : Program} {l : Launch} {e : Env} {R : Room} {s : State} {m : MethodId} {args : Array Value} {below : List Frame} {meth : Method} {c : Code} {H : Heap} {locs : List Loc} {cells slots : Nat} {Q : State → Prop}
variable {cc : ByteArray} {nL : Nat} {own : String} {rf : Int → Option Nat} {arr : Array Slot}
theorem rd_mathl (X : Cx p s m args c cc nL own) (harr : arr.size = nL) (hfr : 1 ≤ R.frames) (hlo : 64 ≤ R.locals) (hcl : cells ≤ R.cells) (hsl : slots ≤ R.slots) {pc nx g0 g1 g2 g3 g4 : Nat} {a x y : Int} {rest : List Vl} (hd : dcMl own cc pc nx a g0 g1 g2 g3 g4 = true) (hwd : wds rest ≤ 8) (hx : in64 x) (hy : in64 y)
    (k : W p l e R s m args below meth c H locs cells slots Q (F0 m nx arr (toV rf (1, mth a x y) :: rest.map (toV rf)))) : W p l e R s m args below meth c H locs cells slots Q (F0 m pc arr (toV rf (1, y) :: toV rf (1, x) :: rest.map (toV rf))) := by
  obtain ⟨hxe, hb, hml, hown, hts⟩ := X
  unfold dcMl at hd
  simp only [Bool.and_eq_true, beq_iff_eq] at hd
  obtain ⟨⟨rfl, hdq⟩, hi, hl⟩ := hd
  have hcat : ((rest.map (toV rf)).map fun v => v.category).sum = wds rest := by
    unfold wds
    rw [List.map_map]
    congr 1
    apply List.map_congr_left
    intro v _
    exact toV_cat rf v
  rw [toV_l] at k
  rw [toV_l, toV_l]
  unfold mth at k
  by_cases h0 : a = 0
  · rw [if_pos h0, Bool.and_eq_true, Bool.and_eq_true] at hl
    rw [if_pos h0] at k
    refine va_mmax_long hxe hb (by rw [hml]; exact harr.symm) hown (hts _ (wq_of hl.1)) (hts _ (wq_of hl.2.1)) (hts _ (wq_of hi)) (hts _ (wc_of hl.2.2)) hfr (by rw [hcat]; omega) hcl hsl (dq_of hdq) ?_
    by_cases h : x < y
    · rw [if_neg (fun z => absurd ((m_lt hy hx).mp z) (by omega))]
      rw [if_pos h] at k
      exact k
    · rw [if_neg h] at k
      by_cases h2 : y < x
      · rw [if_pos ((m_lt hy hx).mpr h2)]
        exact k
      · rw [if_neg (fun z => h2 ((m_lt hy hx).mp z))]
        rw [show x = y by omega] at k
        exact k
  · rw [if_neg h0, Bool.and_eq_true, Bool.and_eq_true] at hl
    rw [if_neg h0] at k
    refine va_mmin_long hxe hb (by rw [hml]; exact harr.symm) hown (hts _ (wq_of hl.1)) (hts _ (wq_of hl.2.1)) (hts _ (wq_of hi)) (hts _ (wc_of hl.2.2)) hfr (by rw [hcat]; omega) hcl hsl (dq_of hdq) ?_
    by_cases h : y < x
    · rw [if_pos ((m_lt hy hx).mpr h)]
      rw [if_pos h] at k
      exact k
    · rw [if_neg (fun z => h ((m_lt hy hx).mp z))]
      rw [if_neg h] at k
      exact k
end ML
def dcF (own : String) (cc : ByteArray) (pc nx : Nat) (a b : Int) (g0 g1 g2 g3 : Nat) : Bool :=
  (decide (0 ≤ a ∧ a < 14 ∧ b.toNat < (clAt a).2.2) && (nx == pc + 3 && dq cc pc (.getfield g1) 3)) &&
  (if g2 = 0 then wq g0 (.fieldLink own g1 ((clAt a).2.1 b.toNat).1 ((clAt a).2.1 b.toNat).2.1 ((clAt a).2.1 b.toNat).2.2.1)
   else wq g0 (.fieldLink own g1 RJx4a65c ((clAt a).2.1 b.toNat).2.1 ((clAt a).2.1 b.toNat).2.2.1) && wq g3 (.sameField RJx4a65c ((clAt a).2.1 b.toNat).1 ((clAt a).2.1 b.toNat).2.1 ((clAt a).2.1 b.toNat).2.2.1))
def dcH (own : String) (cc : ByteArray) (pc op nx : Nat) (a b : Int) (os : List Int) : Bool :=
  if op = 30 then dcF own cc pc nx a b (os.getD 0 0).toNat (os.getD 1 0).toNat (os.getD 2 0).toNat (os.getD 3 0).toNat
  else if op = 31 then d1 cc pc nx .arraylength
  else if op = 32 then (if a = 20 then d1 cc pc nx .iaload else if a = 21 then d1 cc pc nx .baload else if a = 23 then d1 cc pc nx .laload else a == 24 && d1 cc pc nx .aaload)
  else if op = 33 then (nx == pc + 3 && dq cc pc (.getfield (os.getD 1 0).toNat) 3) && (if b = 0 then wq (os.getD 0 0).toNat (.fieldLink own (os.getD 1 0).toNat "java/lang/String" "value" "[B") else wq (os.getD 0 0).toNat (.fieldLink own (os.getD 1 0).toNat "java/lang/String" "coder" "B"))
  else if op = 34 then (decide (0 ≤ a ∧ (a < 14 ∨ a = 20 ∨ a = 25)) && (nx == pc + 3 && dq cc pc (.checkcast (os.getD 1 0).toNat) 3)) && (if a = 20 then wq (os.getD 0 0).toNat (.classLink own (os.getD 1 0).toNat "[I") else if a = 25 then wq (os.getD 0 0).toNat (.classLink own (os.getD 1 0).toNat "[Ljava/lang/Object;") else wq (os.getD 0 0).toNat (.classLink own (os.getD 1 0).toNat (clAt a).1))
  else if op = 35 then (nx == pc + 3 && dq cc pc (.invokespecial (os.getD 1 0).toNat) 3) && (wq (os.getD 0 0).toNat (.methodLink own (os.getD 1 0).toNat Lib.objectInit) && (wq (os.getD 2 0).toNat (.instanceMethod Lib.objectInit) && wq (os.getD 3 0).toNat (.code Lib.objectInit ⟨#[0xb1]⟩ 1 none)))
  else if op = 36 then dcMt own cc pc nx a (os.getD 0 0).toNat (os.getD 1 0).toNat (os.getD 2 0).toNat (os.getD 3 0).toNat (os.getD 4 0).toNat
  else if op = 37 then dcMl own cc pc nx a (os.getD 0 0).toNat (os.getD 1 0).toNat (os.getD 2 0).toNat (os.getD 3 0).toNat (os.getD 4 0).toNat
  else if op = 38 then (nx == pc + 3 && dq cc pc (.getstatic (os.getD 1 0).toNat) 3) && (if a = 0 then wq (os.getD 0 0).toNat (.fieldLink own (os.getD 1 0).toNat "java/lang/String" "COMPACT_STRINGS" "Z") else wq (os.getD 0 0).toNat (.fieldLink own (os.getD 1 0).toNat "jdk/internal/util/Preconditions" "SIOOBE_FORMATTER" "Ljava/util/function/BiFunction;"))
  else if op = 39 then (if a = 0 then (nx == pc + 2 && dq cc pc (.ldc (os.getD 1 0).toNat) 2) && wq (os.getD 0 0).toNat (.classLink own (os.getD 1 0).toNat "[Ljava/lang/Object;")
    else (nx == pc + 3 && dq cc pc (.invokevirtual (os.getD 1 0).toNat) 3) && (wq (os.getD 0 0).toNat (.methodLink own (os.getD 1 0).toNat gcN) && (wq (os.getD 2 0).toNat (.selects "[Ljava/lang/Object;" gcN gcN) && (wq (os.getD 3 0).toNat (.instanceMethod gcN) && wq (os.getD 4 0).toNat (.native gcN)))))
  else false
set_option maxRecDepth 100000 in
theorem cl_ws : ∀ (k : Nat) (q : vw_C), vwCl[k]? = some q → ∀ w ∈ u_ws q.1 q.2.1 q.2.2, w ∈ lw_use := by
  intro k q h
  have hm := List.mem_of_getElem? h
  simp only [vwCl, List.mem_cons, List.not_mem_nil, or_false] at hm
  rcases hm with rfl | rfl | rfl | rfl | rfl | rfl | rfl | rfl | rfl | rfl | rfl | rfl | rfl | rfl
  · exact inJx4a65c
  · exact inX0
  · exact inX1
  · exact inX2
  · exact inX3
  · exact inX4
  · exact inX5
  · exact inX6
  · exact inX7
  · exact inX8
  · exact inX9
  · exact inX10
  · exact inX11
  · exact inX12
theorem clAt_of {a : Int} {k : Nat} (h : (k : Int) = a) (hk : k < 14) : vwCl[k]? = some (clAt a) := by
  subst h
  unfold clAt
  rw [List.getD_eq_getElem?_getD, Int.toNat_natCast, List.getElem?_eq_getElem (show k < vwCl.length from hk)]
  rfl
section RD
variable {p : Program} {l : Launch} {e : Env} {R : Room} {s : State} {m : MethodId} {args : Array Value} {below : List Frame} {meth : Method} {c : Code} {H : Heap} {locs : List Loc} {cells slots : Nat} {Q : State → Prop}
variable {cc : ByteArray} {nL : Nat} {own : String} {base : Nat} {rf : Int → Option Nat} {sc : List Int} {st st' : List Vl} {arr : Array Slot} {D : va_G} {cA : Nat → ClassId} {hp : Hp}
theorem ref_of (hR : Rf base rf hp.length) {r : Int} {e : Nat × List Int} (h : cel hp r = some e) : toV rf (2, r) = .ref (adr rf (r.toNat - 1)) := by
  obtain ⟨h0, -, hn⟩ := cel_of h
  rw [toV_r, adr_of hR h0 hn]
  rfl
theorem ent_o {e : Nat × List Int} (h : e.1 < 14) : ent rf cA e = .inr (e.1, fv rf e.1 e.2) := by unfold ent; rw [if_pos h]
theorem ent_l {e : Nat × List Int} (h : e.1 = 23) : ent rf cA e = .inl (cA e.1, e.2.length, .inr (.inl (fun j => Int64.ofInt (e.2.getD j 0)))) := by unfold ent; rw [if_neg (by omega), if_pos h]
theorem ent_i {e : Nat × List Int} (h : 14 ≤ e.1) (h2 : e.1 < 23) : ent rf cA e = .inl (cA e.1, e.2.length, .inl (fun j => Int32.ofInt (e.2.getD j 0))) := by unfold ent; rw [if_neg (by omega), if_neg (by omega), if_pos h2]
theorem ent_r {e : Nat × List Int} (h : 24 ≤ e.1) : ent rf cA e = .inl (cA e.1, e.2.length, .inr (.inr (.inr (.inr (fun j => rf (e.2.getD j 0)))))) := by unfold ent; rw [if_neg (by omega), if_neg (by omega), if_neg (by omega)]
theorem ent_a {e : Nat × List Int} (h : 20 ≤ e.1) : ∃ x, ent rf cA e = .inl (cA e.1, e.2.length, x) := by
  by_cases h1 : e.1 = 23
  · exact ⟨_, ent_l h1⟩
  · by_cases h2 : e.1 < 23
    · exact ⟨_, ent_i (by omega) h2⟩
    · exact ⟨_, ent_r (by omega)⟩
theorem getD_of {l : List Int} {i : Nat} {x : Int} (h : l[i]? = some x) : l.getD i 0 = x := by rw [List.getD_eq_getElem?_getD, h]; rfl
theorem aty_ref {k : Nat} (h : 24 ≤ k) : (aty k).isReference = true := by
  unfold aty
  rw [if_neg (by omega), if_neg (by omega), if_neg (by omega), if_neg (by omega)]
  repeat' split
  all_goals rfl
theorem snd_hst (X : Cx p s m args c cc nL own) (hS : Stt base rf sc s) (hSS : va_S (A0 base) s.heap H locs) (hK : va_K D vwCl (ktys cA) s) (hP : va_P D vwCl (wld rf cA hp) H) (hw : wfH hp) (hR : Rf base rf hp.length)
    (harr : arr.size = nL) (hfr : 1 ≤ R.frames) (hlo : 64 ≤ R.locals) (hcr : cells ≤ R.cells) (hsr : slots ≤ R.slots) {pc op nx : Nat} {a b : Int} {os : List Int} (hd : dcH own cc pc op nx a b os = true) (hp2 : rst sc stxt op a b hp st = some st') (hst : okS hp.length st)
    (k : W p l e R s m args below meth c H locs cells slots Q (F0 m nx arr (st'.map (toV rf)))) : W p l e R s m args below meth c H locs cells slots Q (F0 m pc arr (st.map (toV rf))) := by
  obtain ⟨hx, hb, hml, hown, hts⟩ := X
  unfold dcH at hd
  unfold rst at hp2
  by_cases q0 : op = 30
  · rw [if_pos q0] at hd hp2
    match st, hp2, hst with
    | (2, r) :: rest, hp2, hst =>
      change (match cel hp r with
        | some (kd, l) => if (kd : Int) = a then (match l[b.toNat]? with
          | some x => some ((tg (kty kd b.toNat), x) :: rest)
          | none => none) else none
        | none => none) = some st' at hp2
      cases hc : cel hp r with
      | none => rw [hc] at hp2; cases hp2
      | some e =>
        obtain ⟨kd, l⟩ := e
        rw [hc] at hp2
        dsimp only at hp2
        by_cases hk : (kd : Int) = a
        · rw [if_pos hk] at hp2
          cases hv : l[b.toNat]? with
          | none => rw [hv] at hp2; cases hp2
          | some x =>
            rw [hv] at hp2
            have hp2 := (Option.some.inj hp2).symm
            subst hp2
            unfold dcF at hd
            simp only [Bool.and_eq_true, decide_eq_true_eq, beq_iff_eq] at hd
            obtain ⟨⟨⟨ha0, ha14, hbN⟩, rfl, hdq⟩, hl⟩ := hd
            have hk14 : kd < 14 := by omega
            have hcl := clAt_of hk hk14
            obtain ⟨-, hat, -⟩ := cel_of hc
            have hwl := wld_at (rf := rf) (cA := cA) hat
            rw [ent_o (show ((kd, l) : Nat × List Int).1 < 14 from hk14)] at hwl
            rw [List.map_cons, ref_of hR hc]
            have hcw := cl_ws kd _ hcl
            by_cases hg : (os.getD 2 0).toNat = 0
            · rw [if_pos hg] at hl
              exact va_get hx hb hts hcw hown hK hP (r.toNat - 1) hwl hcl b.toNat hbN (hts _ (wq_of hl)) (fun _ h => h) (fv_at hv) (dq_of hdq) k
            · rw [if_neg hg, Bool.and_eq_true] at hl
              exact va_get hx hb hts hcw hown hK hP (r.toNat - 1) hwl hcl b.toNat hbN (hts _ (wq_of hl.1)) (fun x h => u_same (hts _ (wq_of hl.2)) x h) (fv_at hv) (dq_of hdq) k
        · rw [if_neg hk] at hp2
          cases hp2
  rw [if_neg q0] at hd hp2
  by_cases q1 : op = 31
  · rw [if_pos q1] at hd hp2
    obtain ⟨rfl, hdq⟩ := d1_of hd
    match st, hp2, hst with
    | (2, r) :: rest, hp2, hst =>
      change (if r = -1 then some ((0, (sc.length : Int)) :: rest) else if r = -2 then some ((0, 0) :: rest) else if r ≤ -100 then (match txt stxt r with
          | some l => some ((0, (l.length : Int)) :: rest)
          | none => none)
        else (match cel hp r with
        | some (kd, l) => if 20 ≤ kd then some ((0, (l.length : Int)) :: rest) else none
        | none => none)) = some st' at hp2
      by_cases r1 : r = -1
      · rw [if_pos r1] at hp2
        have hp2 := (Option.some.inj hp2).symm
        subst hp2
        obtain ⟨hbs, -, -, ⟨b0, hb1, hb2, hX, -⟩, -⟩ := hS
        rw [List.map_cons, toV_r, r1, hb1]
        exact va_slen hx hb hX (show b0 < s.heap.size by omega) (show ¬ base ≤ b0 by omega) hSS hdq k
      rw [if_neg r1] at hp2
      by_cases r2 : r = -2
      · rw [if_pos r2] at hp2
        have hp2 := (Option.some.inj hp2).symm
        subst hp2
        obtain ⟨-, -, ⟨t, ht, -, hT⟩, -⟩ := hS
        rw [List.map_cons, toV_r, r2, ht]
        exact va_tlen hx hb hT hSS rfl hdq k
      rw [if_neg r2] at hp2
      by_cases r3 : r ≤ -100
      · rw [if_pos r3] at hp2
        cases hc : txt stxt r with
        | none => rw [hc] at hp2; cases hp2
        | some l =>
          rw [hc] at hp2
          have hp2 := (Option.some.inj hp2).symm
          subst hp2
          unfold txt at hc
          rw [if_pos r3] at hc
          obtain ⟨-, -, -, -, adK, adV, hV, hk, -⟩ := hS
          have hi : (-100 - r).toNat < 23 := (List.getElem?_eq_some_iff.mp hc).1
          have e := (hk _ hi).2
          rw [show (-100 - (((-100 - r).toNat : Nat) : Int)) = r by omega] at e
          rw [List.map_cons, toV_r, e]
          have hT := (hV.1 _ hi).2.2.2
          have hl : slen.getD (-100 - r).toNat 0 = l.length := by
            unfold slen
            rw [List.getD_eq_getElem?_getD, List.getElem?_map, hc]
            rfl
          rw [hl] at hT
          exact va_tlen hx hb hT hSS rfl hdq k
      rw [if_neg r3] at hp2
      cases hc : cel hp r with
      | none => rw [hc] at hp2; cases hp2
      | some e =>
        obtain ⟨kd, l⟩ := e
        rw [hc] at hp2
        dsimp only at hp2
        by_cases hk : 20 ≤ kd
        · rw [if_pos hk] at hp2
          have hp2 := (Option.some.inj hp2).symm
          subst hp2
          obtain ⟨-, hat, -⟩ := cel_of hc
          have hwl := wld_at (rf := rf) (cA := cA) hat
          obtain ⟨x, hx2⟩ := ent_a (rf := rf) (cA := cA) (e := (kd, l)) hk
          rw [hx2] at hwl
          rw [List.map_cons, ref_of hR hc]
          have hC := (hw.at hat).2.1 (show 14 ≤ kd by omega)
          exact va_alen hx hb hK hP (r.toNat - 1) (kd - 20) hwl (ktys_at cA hk hC.2.1) rfl hdq k
        · rw [if_neg hk] at hp2
          cases hp2
  rw [if_neg q1] at hd hp2
  by_cases q2 : op = 32
  · rw [if_pos q2] at hd hp2
    match st, hp2, hst with
    | (0, i) :: (2, r) :: rest, hp2, hst =>
      change (if i < 0 then none else if r = -1 then (if a = 20 then (match sc[i.toNat]? with
        | some x => some ((0, x) :: rest)
        | none => none) else none) else if r ≤ -100 then (if a = 21 then (match txt stxt r with
        | some l => (match l[i.toNat]? with
          | some x => some ((0, x) :: rest)
          | none => none)
        | none => none) else none)
      else (match cel hp r with
      | some (kd, l) => if (kd : Int) = a ∨ (a = 21 ∧ kd = 22) ∨ (a = 24 ∧ 24 ≤ kd) then (match l[i.toNat]? with
        | some x => some ((tg (kty kd 0), x) :: rest)
        | none => none) else none
      | none => none)) = some st' at hp2
      by_cases i0 : i < 0
      · rw [if_pos i0] at hp2
        cases hp2
      rw [if_neg i0] at hp2
      have hi32 : in32 i := (hst _ List.mem_cons_self).int
      have hcl : (Int32.ofInt i).toNatClampNeg = i.toNat := cl_of (by omega) hi32
      have hin : ∀ {n : Nat}, i.toNat < n → vp_in (Int32.ofInt i) n := fun h => vp_in_of' (by omega) hi32 h
      rw [List.map_cons, List.map_cons, toV_i]
      by_cases r1 : r = -1
      · rw [if_pos r1] at hp2
        by_cases ha : a = 20
        · rw [if_pos ha] at hp2
          cases hv : sc[i.toNat]? with
          | none => rw [hv] at hp2; cases hp2
          | some x =>
            rw [hv] at hp2
            have hp2 := (Option.some.inj hp2).symm
            subst hp2
            rw [if_pos ha] at hd
            obtain ⟨rfl, hdq⟩ := d1_of hd
            obtain ⟨hbs, -, -, ⟨b0, hb1, hb2, hX, -⟩, -⟩ := hS
            rw [toV_r, r1, hb1]
            refine va_sld hx hb hX (show b0 < s.heap.size by omega) (show ¬ base ≤ b0 by omega) hSS (hin (List.getElem?_eq_some_iff.mp hv).1) hdq ?_
            rw [hcl, getD_of hv]
            exact k
        · rw [if_neg ha] at hp2
          cases hp2
      rw [if_neg r1] at hp2
      by_cases r3 : r ≤ -100
      · rw [if_pos r3] at hp2
        by_cases ha : a = 21
        · rw [if_pos ha] at hp2
          cases hc : txt stxt r with
          | none => rw [hc] at hp2; cases hp2
          | some l =>
            rw [hc] at hp2
            dsimp only at hp2
            cases hv : l[i.toNat]? with
            | none => rw [hv] at hp2; cases hp2
            | some x =>
              rw [hv] at hp2
              have hp2 := (Option.some.inj hp2).symm
              subst hp2
              rw [if_neg (by omega), if_pos ha] at hd
              obtain ⟨rfl, hdq⟩ := d1_of hd
              unfold txt at hc
              rw [if_pos r3] at hc
              obtain ⟨-, -, -, -, adK, adV, hV, hk, -⟩ := hS
              have hj : (-100 - r).toNat < 23 := (List.getElem?_eq_some_iff.mp hc).1
              have e := (hk _ hj).2
              rw [show (-100 - (((-100 - r).toNat : Nat) : Int)) = r by omega] at e
              rw [toV_r, e]
              have hT := (hV.1 _ hj).2.2.2
              have hl : slen.getD (-100 - r).toNat 0 = l.length := by
                unfold slen
                rw [List.getD_eq_getElem?_getD, List.getElem?_map, hc]
                rfl
              rw [hl] at hT
              refine va_tb hx hb hT hSS (hin (List.getElem?_eq_some_iff.mp hv).1) ?_ hdq k
              rw [hcl]
              have hby : (sbyt.getD (-100 - r).toNat []).getD i.toNat 0 = Int32.ofInt x := by
                unfold sbyt
                rw [List.getD_eq_getElem?_getD, List.getD_eq_getElem?_getD, List.getElem?_map, hc]
                show ((l.map Int32.ofInt)[i.toNat]?).getD 0 = _
                rw [List.getElem?_map, hv]
                rfl
              rw [hby]
              rfl
        · rw [if_neg ha] at hp2
          cases hp2
      rw [if_neg r3] at hp2
      cases hc : cel hp r with
      | none => rw [hc] at hp2; cases hp2
      | some e =>
        obtain ⟨kd, l⟩ := e
        rw [hc] at hp2
        dsimp only at hp2
        by_cases hk : (kd : Int) = a ∨ (a = 21 ∧ kd = 22) ∨ (a = 24 ∧ 24 ≤ kd)
        · rw [if_pos hk] at hp2
          cases hv : l[i.toNat]? with
          | none => rw [hv] at hp2; cases hp2
          | some x =>
            rw [hv] at hp2
            have hp2 := (Option.some.inj hp2).symm
            subst hp2
            obtain ⟨-, hat, -⟩ := cel_of hc
            have hwl := wld_at (rf := rf) (cA := cA) hat
            have hlt : i.toNat < l.length := (List.getElem?_eq_some_iff.mp hv).1
            rw [ref_of hR hc]
            by_cases a0 : a = 20
            · rw [if_pos a0] at hd
              obtain ⟨rfl, hdq⟩ := d1_of hd
              have hkd : kd = 20 := by omega
              subst hkd
              rw [ent_i (by simp) (by simp)] at hwl
              refine va_iald hx hb hK hP (r.toNat - 1) 0 hwl (ktys_at cA (Nat.le_refl 20) (by omega)) (hin hlt) hdq ?_
              rw [hcl, getD_of hv]
              exact k
            rw [if_neg a0] at hd
            by_cases a1 : a = 21
            · rw [if_pos a1] at hd
              obtain ⟨rfl, hdq⟩ := d1_of hd
              have hkd : kd = 21 ∨ kd = 22 := by omega
              rcases hkd with rfl | rfl
              · rw [ent_i (by simp) (by simp)] at hwl
                refine va_bald hx hb hK hP (r.toNat - 1) 1 hwl (ktys_at cA (k := 21) (by omega) (by omega)) (hin hlt) hdq ?_
                rw [hcl, getD_of hv]
                exact k
              · rw [ent_i (by simp) (by simp)] at hwl
                refine va_zald hx hb hK hP (r.toNat - 1) 2 hwl (ktys_at cA (k := 22) (by omega) (by omega)) (hin hlt) hdq ?_
                rw [hcl, getD_of hv]
                exact k
            rw [if_neg a1] at hd
            by_cases a3 : a = 23
            · rw [if_pos a3] at hd
              obtain ⟨rfl, hdq⟩ := d1_of hd
              have hkd : kd = 23 := by omega
              subst hkd
              rw [ent_l rfl] at hwl
              refine va_lald hx hb hK hP (r.toNat - 1) 3 hwl (ktys_at cA (k := 23) (by omega) (by omega)) (hin hlt) hdq ?_
              rw [hcl, getD_of hv]
              exact k
            rw [if_neg a3, Bool.and_eq_true, beq_iff_eq] at hd
            obtain ⟨a4, hd⟩ := hd
            obtain ⟨rfl, hdq⟩ := d1_of hd
            have hkd : 24 ≤ kd := by omega
            rw [ent_r hkd] at hwl
            have hC := (hw.at hat).2.1 (show 14 ≤ kd by omega)
            have hty : kty kd 0 = 2 := by
              unfold kty
              rw [if_neg (by omega), if_neg (by omega), if_neg (by omega), if_neg (by omega), if_neg (by omega)]
            rw [hty] at k
            have e2 : ∀ z : Int, toV rf (tg 2, z) = va_rf (rf z) := fun z => rfl
            rw [List.map_cons, e2, ← getD_of hv] at k
            exact W.aald (v := va_rf (rf (l.getD i.toNat 0))) (ty := aty kd) hx hb (hP (r.toNat - 1) _ hwl) ((hK.2 (kd - 20) _ (ktys_at cA (by omega) hC.2.1)).1 l.length (fun j => va_rf (rf (l.getD j 0)))) (aty_ref hkd) (fun q => by cases q) (by show ¬ (_ ∨ (arrV _ _ _).slots.size ≤ _); rw [arrV_size]; exact hin hlt) (by show (arrV _ _ _).slots[_]? = _; rw [hcl, arrV_read _ _ hlt]) rfl rfl hdq k
        · rw [if_neg hk] at hp2
          cases hp2
  rw [if_neg q2] at hd hp2
  by_cases q3 : op = 33
  · rw [if_pos q3] at hd hp2
    simp only [Bool.and_eq_true, beq_iff_eq] at hd
    obtain ⟨⟨rfl, hdq⟩, hl⟩ := hd
    match st, hp2, hst with
    | (2, r) :: rest, hp2, hst =>
      change (if r ≤ -10 ∧ -33 < r then (if b = 0 then some ((2, r - 90) :: rest) else some ((0, 0) :: rest)) else none) = some st' at hp2
      by_cases hr : r ≤ -10 ∧ -33 < r
      · rw [if_pos hr] at hp2
        obtain ⟨-, -, -, -, adK, adV, hV, hk, -⟩ := hS
        obtain ⟨i, hi⟩ : ∃ i : Nat, r = -10 - (i : Int) := ⟨(-10 - r).toNat, by omega⟩
        have hi23 : i < 23 := by omega
        obtain ⟨e1, e2⟩ := hk i hi23
        rw [List.map_cons, toV_r, hi, e1]
        by_cases b0 : b = 0
        · rw [if_pos b0] at hp2 hl
          have hp2 := (Option.some.inj hp2).symm
          subst hp2
          rw [List.map_cons, toV_r, show r - 90 = -100 - (i : Int) by omega, e2] at k
          exact vk_getf hx hb (hV.1 i hi23).2.2.1 hSS hown (hts _ (wq_of hl)) (fun _ h => h) (dq_of hdq) k
        · rw [if_neg b0] at hp2 hl
          have hp2 := (Option.some.inj hp2).symm
          subst hp2
          exact vk_getf hx hb (hV.1 i hi23).2.1 hSS hown (hts _ (wq_of hl)) (fun _ h => h) (dq_of hdq) k
      · rw [if_neg hr] at hp2
        cases hp2
  rw [if_neg q3] at hd hp2
  by_cases q4 : op = 34
  · rw [if_pos q4] at hd hp2
    simp only [Bool.and_eq_true, beq_iff_eq, decide_eq_true_eq] at hd
    obtain ⟨⟨⟨ha0, ha14⟩, rfl, hdq⟩, hl⟩ := hd
    match st, hp2, hst with
    | (2, r) :: rest, hp2, hst =>
      change (if r = 0 then some ((2, r) :: rest) else (match cel hp r with
        | some (kd, _) => if (kd : Int) = a then some ((2, r) :: rest) else none
        | none => none)) = some st' at hp2
      by_cases r0 : r = 0
      · rw [if_pos r0] at hp2
        have hp2 := (Option.some.inj hp2).symm
        subst hp2
        rw [List.map_cons, toV_r, r0, hS.2.1] at k ⊢
        exact lv_castN hx hb (dq_of hdq) k
      rw [if_neg r0] at hp2
      cases hc : cel hp r with
      | none => rw [hc] at hp2; cases hp2
      | some e =>
        obtain ⟨kd, l⟩ := e
        rw [hc] at hp2
        dsimp only at hp2
        by_cases hk : (kd : Int) = a
        · rw [if_pos hk] at hp2
          have hp2 := (Option.some.inj hp2).symm
          subst hp2
          obtain ⟨-, hat, -⟩ := cel_of hc
          have hwl := wld_at (rf := rf) (cA := cA) hat
          by_cases h20 : a = 20
          · rw [if_pos h20] at hl
            have hk20 : kd = 20 := by omega
            subst hk20
            rw [ent_i (by simp) (by simp)] at hwl
            rw [List.map_cons, ref_of hR hc] at k ⊢
            exact va_castA (nm := "[I") hx hb hown (hts _ (wq_of hl)) hP (r.toNat - 1) hwl (va_nm_int ((hK.2 0 _ (ktys_at cA (Nat.le_refl 20) (by omega))).2)) (dq_of hdq) k
          rw [if_neg h20] at hl
          by_cases h25 : a = 25
          · rw [if_pos h25] at hl
            have hk25 : kd = 25 := by omega
            subst hk25
            rw [ent_r (by simp)] at hwl
            rw [List.map_cons, ref_of hR hc] at k ⊢
            exact va_castA (nm := "[Ljava/lang/Object;") hx hb hown (hts _ (wq_of hl)) hP (r.toNat - 1) hwl (va_nmO ((hK.2 5 _ (ktys_at cA (k := 25) (by omega) (by omega))).2) rfl) (dq_of hdq) k
          rw [if_neg h25] at hl
          have hk14 : kd < 14 := by omega
          have hcl := clAt_of hk hk14
          rw [ent_o (show ((kd, l) : Nat × List Int).1 < 14 from hk14)] at hwl
          rw [List.map_cons, ref_of hR hc] at k ⊢
          exact va_castS hx hb hown (hts _ (wq_of hl)) (hK.1 kd _ hcl).2 (va_recv hK hP hcl hwl) (dq_of hdq) k
        · rw [if_neg hk] at hp2
          cases hp2
  rw [if_neg q4] at hd hp2
  by_cases q5 : op = 35
  · rw [if_pos q5] at hd hp2
    simp only [Bool.and_eq_true, beq_iff_eq] at hd
    obtain ⟨⟨rfl, hdq⟩, hw1, hw2, hw3⟩ := hd
    match st, hp2, hst with
    | (2, r) :: rest, hp2, hst =>
      change (if 0 < r ∧ wds rest ≤ 8 then some rest else none) = some st' at hp2
      by_cases r0 : 0 < r ∧ wds rest ≤ 8
      · rw [if_pos r0] at hp2
        obtain ⟨r0, hwd⟩ := r0
        have hp2 := (Option.some.inj hp2).symm
        subst hp2
        rw [List.map_cons, toV_r, adr_of hR r0 (hst _ List.mem_cons_self).rfr]
        have hcat : ((st'.map (toV rf)).map fun v => v.category).sum = wds st' := by
          unfold wds
          rw [List.map_map]
          congr 1
          apply List.map_congr_left
          intro v _
          exact toV_cat rf v
        refine W.eq rfl (W.objInit (rest := st'.map (toV rf)) hx hb hown (hts _ (wq_of hw1)) (hts _ (wq_of hw2)) (hts _ (wq_of hw3)) rfl (by rw [hml]; exact harr) rfl (dq_of hdq) hfr ?_ k)
        rw [hcat]
        show 2 * 0 + _ + _ ≤ _
        omega
      · rw [if_neg r0] at hp2
        cases hp2
  rw [if_neg q5] at hd hp2
  by_cases q6 : op = 36
  · rw [if_pos q6] at hd hp2
    match st, hp2, hst with
    | (0, y) :: (0, x) :: rest, hp2, hst =>
      change (if wds rest ≤ 8 then some ((0, mth a x y) :: rest) else none) = some st' at hp2
      by_cases hwd : wds rest ≤ 8
      · rw [if_pos hwd] at hp2
        have hp2 := (Option.some.inj hp2).symm
        subst hp2
        exact rd_math ⟨hx, hb, hml, hown, hts⟩ harr hfr hlo hcr hsr hd hwd (hst (0, x) (by simp)).int (hst (0, y) (by simp)).int k
      · rw [if_neg hwd] at hp2
        cases hp2
  rw [if_neg q6] at hd hp2
  have hcat : ∀ rest : List Vl, ((rest.map (toV rf)).map fun v => v.category).sum = wds rest := by
    intro rest
    unfold wds
    rw [List.map_map]
    congr 1
    apply List.map_congr_left
    intro v _
    exact toV_cat rf v
  by_cases q7 : op = 37
  · rw [if_pos q7] at hd hp2
    match st, hp2, hst with
    | (1, y) :: (1, x) :: rest, hp2, hst =>
      change (if wds rest ≤ 8 then some ((1, mth a x y) :: rest) else none) = some st' at hp2
      by_cases hwd : wds rest ≤ 8
      · rw [if_pos hwd] at hp2
        have hp2 := (Option.some.inj hp2).symm
        subst hp2
        exact rd_mathl ⟨hx, hb, hml, hown, hts⟩ harr hfr hlo hcr hsr hd hwd (hst (1, x) (by simp)).long (hst (1, y) (by simp)).long k
      · rw [if_neg hwd] at hp2
        cases hp2
  rw [if_neg q7] at hd hp2
  by_cases q8 : op = 38
  · rw [if_pos q8] at hd hp2
    simp only [Bool.and_eq_true, beq_iff_eq] at hd
    obtain ⟨⟨rfl, hdq⟩, hl⟩ := hd
    have hp2 := (Option.some.inj hp2).symm
    subst hp2
    obtain ⟨-, -, -, -, adK, adV, -, -, -, hZ1, hZ2, -, -⟩ := hS
    by_cases h0 : a = 0
    · rw [if_pos h0] at hl
      rw [if_pos h0, List.map_cons, toV_i] at k
      exact va_gets hx hb hZ1 hSS hown (hts _ (wq_of hl)) (fun _ h => h) (dq_of hdq) k
    · rw [if_neg h0] at hl
      rw [if_neg h0, List.map_cons, toV_r] at k
      exact va_gets hx hb hZ2 hSS hown (hts _ (wq_of hl)) (fun _ h => h) (dq_of hdq) k
  rw [if_neg q8] at hd hp2
  by_cases q9 : op = 39
  · rw [if_pos q9] at hd hp2
    obtain ⟨-, -, -, -, adK, adV, -, -, -, -, -, ⟨mi, hmi, hM⟩, hDc⟩ := hS
    by_cases h0 : a = 0
    · rw [if_pos h0] at hd hp2
      simp only [Bool.and_eq_true, beq_iff_eq] at hd
      obtain ⟨⟨rfl, hdq⟩, hl⟩ := hd
      have hp2 := (Option.some.inj hp2).symm
      subst hp2
      rw [List.map_cons, toV_r, hmi] at k
      exact va_ldcM hx hb hown (hts _ (wq_of hl)) hM (dq_of hdq) k
    · rw [if_neg h0] at hd hp2
      simp only [Bool.and_eq_true, beq_iff_eq] at hd
      obtain ⟨⟨rfl, hdq⟩, hl1, hl2, hl3, hl4⟩ := hd
      match st, hp2, hst with
      | (2, r) :: rest, hp2, hst =>
        change (match cel hp r with
          | some (kd, _) => if kd = 25 ∧ wds rest ≤ 8 then some ((2, -4) :: rest) else none
          | none => none) = some st' at hp2
        cases hc : cel hp r with
        | none => rw [hc] at hp2; cases hp2
        | some e =>
          obtain ⟨kd, l⟩ := e
          rw [hc] at hp2
          dsimp only at hp2
          by_cases hk : kd = 25 ∧ wds rest ≤ 8
          · rw [if_pos hk] at hp2
            obtain ⟨rfl, hwd⟩ := hk
            have hp2 := (Option.some.inj hp2).symm
            subst hp2
            obtain ⟨-, hat, -⟩ := cel_of hc
            have hwl := wld_at (rf := rf) (cA := cA) hat
            rw [ent_r (by simp)] at hwl
            rw [List.map_cons, toV_r, hmi] at k
            rw [List.map_cons, ref_of hR hc]
            have hnm : s.vm.findClass "[Ljava/lang/Object;" = some (cA 25) := va_nmO ((hK.2 5 _ (ktys_at cA (k := 25) (by omega) (by omega))).2) rfl
            refine va_getC hx hb (by rw [hml]; exact harr.symm) hown (hts _ (wq_of hl1)) (va_Dc.use hDc) (hts _ (wq_of hl2)) (hts _ (wq_of hl3)) (hts _ (wq_of hl4)) hM ⟨_, hP _ _ hwl, rfl, ?_⟩ hfr (by rw [hcat]; omega) (dq_of hdq) k
            rw [hnm]
            rfl
          · rw [if_neg hk] at hp2
            cases hp2
  rw [if_neg q9] at hp2
  cases hp2
end RD
