/-! what class and model have alike, with the TEXT -/
/-! what class and model have alike -/
def uTS : List (Nat × Nat × Nat × Nat) := [(2, 2, 37, 1), (3, 2, 37, 2), (1, 0, 37, 0), (27, 0, 37, 96), (4, 2, 37, 64), (20, 2, 37, 86), (9, 0, 37, 41), (14, 2, 37, 52), (13, 1, 37, 53)]
def uTN : List Nat := [2, 3, 4]
def uTF : List (Nat × Nat × Nat) := [(2, 2, 65), (2, 3, 66), (2, 11, 74), (3, 2, 80), (3, 3, 81), (3, 4, 82), (3, 5, 83), (3, 7, 85), (3, 11, 89), (3, 12, 90), (3, 13, 91)]
def uTZ : List (Nat × Nat) := [(2, 74), (3, 89), (3, 90), (3, 91)]
def uTR : List (Nat × Nat × Nat × Nat) := [(3, 1, 2, 79)]
/-- the TEXT's bytes -/
def uTx (h : Hp) : Prop := ∀ i : Nat, i < 400 → (0 ≤ fld h 10 i ∧ fld h 10 i ≤ 255) ∧ fld h 98 i = i_byt (fld h 10 i)
theorem uTx.kp {h g : Hp} {ms : Zms} {c s : Int} (P : uTx h) (R : zXR ms c s h g) (e : (zqN ms 10 10 0 400 && zqN ms 98 98 0 400) = true) : uTx g := by
  rw [Bool.and_eq_true] at e
  intro i hi
  have q1 : fld g 10 i = fld h 10 i := R.f e.1 (by first | decide | exact ⟨by decide, by decide⟩) (by first | omega | exact ⟨by omega, by omega⟩) (by first | decide | exact ⟨by decide, by decide⟩)
  have q2 : fld g 98 i = fld h 98 i := R.f e.2 (by first | decide | exact ⟨by decide, by decide⟩) (by first | omega | exact ⟨by omega, by omega⟩) (by first | decide | exact ⟨by decide, by decide⟩)
  rw [q1, q2]
  exact P i hi
def uE (h : Hp) : Prop := zQS uTS h ∧ zNM uTN h ∧ zFL uTF h ∧ zZL uTZ h ∧ zRL uTR h ∧ zRO h ∧ zId h ∧ zCb h ∧ zAk h ∧ uTx h ∧ zShe h ∧ zFo h
theorem uE_ro {h : Hp} (E : uE h) : zRO h := E.2.2.2.2.2.1
theorem uE_id {h : Hp} (E : uE h) : zId h := E.2.2.2.2.2.2.1
theorem uE_cb {h : Hp} (E : uE h) : zCb h := E.2.2.2.2.2.2.2.1
theorem uE_ak {h : Hp} (E : uE h) : zAk h := E.2.2.2.2.2.2.2.2.1
theorem uE_tx {h : Hp} (E : uE h) : uTx h := E.2.2.2.2.2.2.2.2.2.1
theorem uE_sh {h : Hp} (E : uE h) : zShe h := E.2.2.2.2.2.2.2.2.2.2.1
theorem uE_fo {h : Hp} (E : uE h) : zFo h := E.2.2.2.2.2.2.2.2.2.2.2
theorem uE_s2_2 {h : Hp} (E : uE h) : fld h 2 2 = fld h 37 1 := E.1.at (a1 := 2) (j1 := 2) (a2 := 37) (j2 := 1) (by decide +kernel)
theorem uE_s3_2 {h : Hp} (E : uE h) : fld h 3 2 = fld h 37 2 := E.1.at (a1 := 3) (j1 := 2) (a2 := 37) (j2 := 2) (by decide +kernel)
theorem uE_s1_0 {h : Hp} (E : uE h) : fld h 1 0 = fld h 37 0 := E.1.at (a1 := 1) (j1 := 0) (a2 := 37) (j2 := 0) (by decide +kernel)
theorem uE_s27_0 {h : Hp} (E : uE h) : fld h 27 0 = fld h 37 96 := E.1.at (a1 := 27) (j1 := 0) (a2 := 37) (j2 := 96) (by decide +kernel)
theorem uE_s4_2 {h : Hp} (E : uE h) : fld h 4 2 = fld h 37 64 := E.1.at (a1 := 4) (j1 := 2) (a2 := 37) (j2 := 64) (by decide +kernel)
theorem uE_s20_2 {h : Hp} (E : uE h) : fld h 20 2 = fld h 37 86 := E.1.at (a1 := 20) (j1 := 2) (a2 := 37) (j2 := 86) (by decide +kernel)
theorem uE_s9_0 {h : Hp} (E : uE h) : fld h 9 0 = fld h 37 41 := E.1.at (a1 := 9) (j1 := 0) (a2 := 37) (j2 := 41) (by decide +kernel)
theorem uE_s14_2 {h : Hp} (E : uE h) : fld h 14 2 = fld h 37 52 := E.1.at (a1 := 14) (j1 := 2) (a2 := 37) (j2 := 52) (by decide +kernel)
theorem uE_s13_1 {h : Hp} (E : uE h) : fld h 13 1 = fld h 37 53 := E.1.at (a1 := 13) (j1 := 1) (a2 := 37) (j2 := 53) (by decide +kernel)
theorem uE_n2 {h : Hp} (E : uE h) : ∀ i : Nat, (i : Int) < fld h 2 2 → fld h (zv h 2 i) 0 = i := E.2.1.at (A := 2) (by decide +kernel)
theorem uE_n3 {h : Hp} (E : uE h) : ∀ i : Nat, (i : Int) < fld h 3 2 → fld h (zv h 3 i) 0 = i := E.2.1.at (A := 3) (by decide +kernel)
theorem uE_n4 {h : Hp} (E : uE h) : ∀ i : Nat, (i : Int) < fld h 4 2 → fld h (zv h 4 i) 0 = i := E.2.1.at (A := 4) (by decide +kernel)
theorem uE_f2_2 {h : Hp} (E : uE h) : zF1 2 2 65 h := E.2.2.1.at (by decide +kernel)
theorem uE_f2_3 {h : Hp} (E : uE h) : zF1 2 3 66 h := E.2.2.1.at (by decide +kernel)
theorem uE_f2_11 {h : Hp} (E : uE h) : zF1 2 11 74 h := E.2.2.1.at (by decide +kernel)
theorem uE_f3_2 {h : Hp} (E : uE h) : zF1 3 2 80 h := E.2.2.1.at (by decide +kernel)
theorem uE_f3_3 {h : Hp} (E : uE h) : zF1 3 3 81 h := E.2.2.1.at (by decide +kernel)
theorem uE_f3_4 {h : Hp} (E : uE h) : zF1 3 4 82 h := E.2.2.1.at (by decide +kernel)
theorem uE_f3_5 {h : Hp} (E : uE h) : zF1 3 5 83 h := E.2.2.1.at (by decide +kernel)
theorem uE_f3_7 {h : Hp} (E : uE h) : zF1 3 7 85 h := E.2.2.1.at (by decide +kernel)
theorem uE_f3_11 {h : Hp} (E : uE h) : zF1 3 11 89 h := E.2.2.1.at (by decide +kernel)
theorem uE_f3_12 {h : Hp} (E : uE h) : zF1 3 12 90 h := E.2.2.1.at (by decide +kernel)
theorem uE_f3_13 {h : Hp} (E : uE h) : zF1 3 13 91 h := E.2.2.1.at (by decide +kernel)
theorem uE_z2_74 {h : Hp} (E : uE h) : zZ1 2 74 h := E.2.2.2.1.at (by decide +kernel)
theorem uE_z3_89 {h : Hp} (E : uE h) : zZ1 3 89 h := E.2.2.2.1.at (by decide +kernel)
theorem uE_z3_90 {h : Hp} (E : uE h) : zZ1 3 90 h := E.2.2.2.1.at (by decide +kernel)
theorem uE_z3_91 {h : Hp} (E : uE h) : zZ1 3 91 h := E.2.2.2.1.at (by decide +kernel)
theorem uE_r3_1 {h : Hp} (E : uE h) : zR1 3 1 2 79 h := E.2.2.2.2.1.at (by decide +kernel)
theorem uE_x {h : Hp} (E : uE h) : zX h (zSt h) := by
  have s1 := uE_s2_2 E
  have s2 := uE_s3_2 E
  have s3 := uE_s4_2 E
  refine ⟨⟨s1, s2, s3, uE_s1_0 E⟩, fun v hv => ?_, fun k hk => ?_, fun i hi => ?_⟩
  · have hv : (v : Int) < fld h 37 1 := hv
    have hv2 : (v : Int) < fld h ((2 : Nat) : Int) 2 := by rw [show fld h ((2 : Nat) : Int) 2 = fld h 37 1 from s1]; exact hv
    have d := uE_id E v hv
    exact ⟨uE_n2 E v hv2, uE_f2_3 E v hv2, d.1, d.2⟩
  · have hk : (k : Int) < fld h 37 2 := hk
    have hk2 : (k : Int) < fld h ((3 : Nat) : Int) 2 := by rw [show fld h ((3 : Nat) : Int) 2 = fld h 37 2 from s2]; exact hk
    exact ⟨uE_f3_2 E k hk2, uE_f3_3 E k hk2, uE_f3_7 E k hk2, (uE_r3_1 E k hk2).2.2⟩
  · have hi : (i : Int) < fld h 37 64 := hi
    exact uE_n4 E i (by show (i : Int) < fld h 4 2; rw [s3]; exact hi)
theorem uE_bs {h : Hp} (E : uE h) (I : zI h) (A : zAM h) : zBs (zSt h) := by
  have s1 := uE_s2_2 E
  have s2 := uE_s3_2 E
  have n0 := I.b (a1 := 37) (a2 := 37) (j1 := 0) (j2 := 1) (lo := 0) (hi := 156) (by decide +kernel) (r := 37) (j := 0) (by decide) (by decide) (by decide) (by decide)
  have n1 := I.b (a1 := 37) (a2 := 37) (j1 := 1) (j2 := 2) (lo := 0) (hi := 8) (by decide +kernel) (r := 37) (j := 1) (by decide) (by decide) (by decide) (by decide)
  have n2 := I.b (a1 := 37) (a2 := 37) (j1 := 2) (j2 := 3) (lo := 0) (hi := 20) (by decide +kernel) (r := 37) (j := 2) (by decide) (by decide) (by decide) (by decide)
  have n3 := I.b (a1 := 37) (a2 := 37) (j1 := 64) (j2 := 65) (lo := 0) (hi := 300) (by decide +kernel) (r := 37) (j := 64) (by decide) (by decide) (by decide) (by decide)
  refine ⟨fun k hk => ?_, fun v hv => ⟨uE_cb E v hv, fun s hs => ?_⟩, n3, n0, n1, n2⟩
  · have hk : (k : Int) < fld h 37 2 := hk
    have hk2 : (k : Int) < fld h ((3 : Nat) : Int) 2 := by rw [show fld h ((3 : Nat) : Int) 2 = fld h 37 2 from s2]; exact hk
    have r := uE_r3_1 E k hk2
    have r2 : fld h 79 k < fld h 2 2 := r.2.1
    have r1 : 0 ≤ fld h 79 k := r.1
    have b1 := I.b (a1 := 80) (a2 := 80) (j1 := 0) (j2 := 20) (lo := 0) (hi := 5) (by decide +kernel) (r := 80) (j := k) (by decide) (by decide) (by omega) (by omega)
    have b2 := I.b (a1 := 81) (a2 := 81) (j1 := 0) (j2 := 20) (lo := 0) (hi := 9) (by decide +kernel) (r := 81) (j := k) (by decide) (by decide) (by omega) (by omega)
    have b3 := I.b (a1 := 85) (a2 := 85) (j1 := 0) (j2 := 20) (lo := 0) (hi := 60) (by decide +kernel) (r := 85) (j := k) (by decide) (by decide) (by omega) (by omega)
    have b4 := A k hk
    exact ⟨b1, b2, ⟨b4.1, b3.2⟩, ⟨r1, by show fld h 79 k < fld h 37 1; omega⟩⟩
  · have hv : (v : Int) < fld h 37 1 := hv
    rw [zSt_39 hs]
    exact I.b (a1 := 39) (a2 := 46) (j1 := 0) (j2 := 4) (lo := 0) (hi := 40) (by decide +kernel) (by omega) (by omega) (by omega) (by omega)
def ukRoad (h : Hp) : Bool := (List.range 8).all (fun a => (List.range 8).all (fun b => decide (fld h 7 (8 * a + b) = if a = b then 0 else 1000000) && (decide (fld h 8 (8 * a + b) = if a = b then 0 else 1000000) && decide (fld h (48 + (a : Int)) b = 0))))
theorem ukRoad_ok {h : Hp} (e : ukRoad h = true) : zRO h := by
  have w : ∀ a b : Nat, a < 8 → b < 8 → (zLa h a b = if a = b then 0 else 1000000) ∧ (zLe h a b = if a = b then 0 else 1000000) ∧ fld h (48 + (a : Int)) b = 0 := by
    intro a b ha hb
    have q := List.all_eq_true.mp (List.all_eq_true.mp e a (List.mem_range.mpr ha)) b (List.mem_range.mpr hb)
    simp only [Bool.and_eq_true, decide_eq_true_eq] at q
    exact q
  refine ⟨fun a b ha hb => ?_, ⟨fun a b ha hb => ?_, fun a ha => ?_, fun a b c ha hb hc hc8 => ?_, fun a b ha hb hne hl => ?_⟩, fun a b ha hb => ?_⟩
  · rw [(w a b ha hb).1]
    split <;> omega
  · rw [(w a b ha hb).1, (w a b ha hb).2.1]
    split <;> omega
  · rw [(w a a ha ha).2.1, if_pos rfl]
  · rw [(w a b ha hb).2.1, (w a c ha hc8).2.1, (w c b hc8 hb).2.1]
    split <;> split <;> split <;> omega
  · rw [(w a b ha hb).2.1, if_neg hne] at hl
    omega
  · obtain ⟨w1, w2, w3⟩ := w a b ha hb
    rw [w1, w3, if_pos rfl]
    exact ⟨rfl, fun z => absurd rfl z⟩
def ukE (h : Hp) : Bool := uTS.all (fun e => decide (fld h e.1 e.2.1 = fld h e.2.2.1 e.2.2.2)) && ((uTN.all (fun A => decide (fld h A 2 = 0)) && (uTF.all (fun e => decide (fld h e.1 2 = 0)) && uTR.all (fun e => decide (fld h e.1 2 = 0)))) && (uTZ.all (fun e => (List.range (zmN e.1)).all (fun i => decide (fld h e.2 i = 0))) && (ukRoad h && (decide (fld h 20 2 = 0) && ((decide (fld h 14 2 = 0) && decide (fld h 13 1 = 0)) && (List.range 400).all (fun i => decide (fld h 10 i = 0) && decide (fld h 98 i = 0)))))))
theorem ukE_ok {h : Hp} (e : ukE h = true) : uE h := by
  unfold ukE at e
  simp only [Bool.and_eq_true] at e
  obtain ⟨e1, ⟨e2, e3, e4⟩, e5, e6, e7, ⟨e9, e10⟩, e8⟩ := e
  have e9 := of_decide_eq_true e9
  have e10 := of_decide_eq_true e10
  have e7 := of_decide_eq_true e7
  refine ⟨fun q hq => of_decide_eq_true (List.all_eq_true.mp e1 q hq), fun A hA i hi => ?_, fun q hq i hi => ?_, fun q hq i hi hm => ?_, fun q hq i hi => ?_, ukRoad_ok e6, fun v hv => ?_, fun v hv => ?_, fun i hi => ?_, fun i hi => ?_, fun u hu => ?_, fun k hk => ?_⟩
  rotate_left 4
  · have w : fld h 2 2 = fld h 37 1 := of_decide_eq_true (List.all_eq_true.mp e1 (2, 2, 37, 1) (by decide))
    have w2 := of_decide_eq_true (List.all_eq_true.mp e2 2 (by decide))
    have w2 : fld h 2 2 = 0 := w2
    omega
  · have w : fld h 2 2 = fld h 37 1 := of_decide_eq_true (List.all_eq_true.mp e1 (2, 2, 37, 1) (by decide))
    have w2 := of_decide_eq_true (List.all_eq_true.mp e2 2 (by decide))
    have w2 : fld h 2 2 = 0 := w2
    omega
  · have w3 := e7
    omega
  · have w8 := List.all_eq_true.mp e8 i (List.mem_range.mpr hi)
    rw [Bool.and_eq_true] at w8
    rw [of_decide_eq_true w8.1, of_decide_eq_true w8.2]
    exact ⟨(by first | decide | exact ⟨by decide, by decide⟩), by decide⟩
  · omega
  · omega
  · have := of_decide_eq_true (List.all_eq_true.mp e2 A hA)
    omega
  · have := of_decide_eq_true (List.all_eq_true.mp e3 q hq)
    omega
  · exact of_decide_eq_true (List.all_eq_true.mp (List.all_eq_true.mp e5 q hq) i (List.mem_range.mpr (by unfold zmN; omega)))
  · have := of_decide_eq_true (List.all_eq_true.mp e4 q hq)
    omega
/-- .. and all tables -/
def uF (h : Hp) : Prop := uE h ∧ wD h
/-- what a round keeps -/
def uLJ (h g : Hp) : Prop := CI g ∧ zAM g ∧ zCW g ∧ uF g ∧ ∃ ms, zXR ms 7 7000 h g
