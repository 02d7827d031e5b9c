/-! contracts of methods -/
def ms215_n : Zms := [(168, 168, 0, 13)]
-- WheelLandModel.clears()V
theorem m215_n {sc : List Int} (h : Hp) (I : zI h) : zwC sc 2 215 [(2, 37)] h (zwRv (fun g => zI g ∧ zMR ms215_n h g ∧ (n13 168 g (yNm0 (fld h 37 0))))) := by
  refine zwC_of (D := 1) 2 (by decide +kernel) rfl (ls := [(2, 37), (9, 0)]) rfl ?_
  have R : zMR ms215_n h h := zMR.rf _ _
  refine zwW_p [(0, 0, 0), (2, 1, 0)] (q := 2) (ls' := [(2, 37), (0, 0)]) (st' := []) (by decide +kernel) rfl ?_
  have L1 : ∀ (n0 : Nat) (kL1 : Int) (hL1 : Hp), n0 = ((100 - kL1)).toNat → ((0 ≤ kL1 ∧ kL1 ≤ 13) ∧ fld hL1 37 0 = fld h 37 0) → (∀ j : Nat, (j : Int) < kL1 → fld hL1 168 j = 0) → zI hL1 → zMR ms215_n h hL1 → zwW sc (1) 215 2 [(2, 37), (0, kL1)] [] hL1 (zwRv (fun g => zI g ∧ zMR ms215_n h g ∧ (n13 168 g (yNm0 (fld h 37 0))))) := by
    intro n0
    induction n0 using Nat.strongRecOn with
    | ind n0 IHL1 =>
      intro kL1 hL1 hnL1 iL1_0 iL1_1 IhL1 RhL1
      refine zwW_p [(1, 1, 0), (0, 13, 0)] (q := 5) (ls' := [(2, 37), (0, kL1)]) (st' := [(0, 13), (0, kL1)]) (by decide +kernel) rfl ?_
      refine zwic_ge (q := 21) (nx := 8) (by decide +kernel) (fun c2 => ?_) (fun c2 => ?_)
      · refine zwW_p [(1, 0, 2)] (q := 22) (ls' := [(2, 37), (0, kL1)]) (st' := [(2, 37)]) (by decide +kernel) rfl ?_
        refine zwW_gc IhL1 (kd := 13) (bn := 56) (n := 97) (c := 168) (nx := 25) (by decide +kernel) ?_
        refine zwW_p [(0, 0, 0), (1, 0, 2)] (q := 27) (ls' := [(2, 37), (0, kL1)]) (st' := [(2, 37), (0, 0), (2, 168)]) (by decide +kernel) rfl ?_
        refine zwW_gs IhL1 (kd := 13) (bn := 0) (n := 97) (t := 0) (lo := 0) (hi := 156) (nx := 30) (by decide +kernel) ?_
        intro v3 ev3 lv3 uv3
        refine zwW_as IhL1 (a1 := 168) (a2 := 168) (n := 13) (lo := -2147483648) (hi := 2147483647) (nx := 31) (by decide +kernel) ⟨by decide, by decide⟩ ⟨by decide, by decide⟩ ⟨by omega, by omega⟩ ?_
        intro h4 eh4 Ih4
        have th4_37_0 : fld h4 37 0 = fld hL1 37 0 := by rw [eh4]; exact fld_wr (by decide)
        have G30 : n13 168 h4 (zu (fun _ => 0) 0 (fld h 37 0)) := n13.zu (N := fun _ => 0) (fun j hj => iL1_1 j (by omega)) (fld_zu (IhL1.s (a1 := 168) (a2 := 168) (k := 20) (n := 13) (by decide +kernel) (by decide) (by decide)) (by decide) eh4) (by omega)
        have Rh4 : zMR ms215_n h h4 := RhL1.w (a1 := 168) (a2 := 168) (j1 := 0) (j2 := 13) (by decide +kernel) ⟨by decide, by decide⟩ ⟨by decide, by decide⟩ eh4
        refine zwW_p [(1, 0, 2)] (q := 32) (ls' := [(2, 37), (0, kL1)]) (st' := [(2, 37)]) (by decide +kernel) rfl ?_
        refine zwW_gc Ih4 (kd := 13) (bn := 56) (n := 97) (c := 168) (nx := 35) (by decide +kernel) ?_
        refine zwW_p [(0, 1, 0), (1, 0, 2)] (q := 37) (ls' := [(2, 37), (0, kL1)]) (st' := [(2, 37), (0, 1), (2, 168)]) (by decide +kernel) rfl ?_
        refine zwW_gs Ih4 (kd := 13) (bn := 0) (n := 97) (t := 0) (lo := 0) (hi := 156) (nx := 40) (by decide +kernel) ?_
        intro v5 ev5 lv5 uv5
        refine zwW_cs (k' := 174) (n := 1) (nx := 43) (as := [(0, v5)]) (st' := [(0, 1), (2, 168)]) (by decide +kernel) rfl (m174 h4 v5 (by omega) (by omega)) rfl ?_
        rintro v6 _ ⟨rfl, f7, f8, f9, f10⟩
        refine zwW_as Ih4 (a1 := 168) (a2 := 168) (n := 13) (lo := -2147483648) (hi := 2147483647) (nx := 44) (by decide +kernel) ⟨by decide, by decide⟩ ⟨by decide, by decide⟩ ⟨by omega, by omega⟩ ?_
        intro h11 eh11 Ih11
        have th11_37_0 : fld h11 37 0 = fld h4 37 0 := by rw [eh11]; exact fld_wr (by decide)
        have G43 : n13 168 h11 (yNm0 (fld h 37 0)) := G30.zu (fld_zu (Ih4.s (a1 := 168) (a2 := 168) (k := 20) (n := 13) (by decide +kernel) (by decide) (by decide)) (by decide) eh11) (by omega)
        have Rh11 : zMR ms215_n h h11 := Rh4.w (a1 := 168) (a2 := 168) (j1 := 0) (j2 := 13) (by decide +kernel) ⟨by decide, by decide⟩ ⟨by decide, by decide⟩ eh11
        refine zwW_retv (nx := 45) (a := 0) (b := 0) (by decide +kernel) ?_
        exact ⟨Ih11, Rh11, by exact G43⟩
      · refine zwW_p [(1, 0, 2)] (q := 9) (ls' := [(2, 37), (0, kL1)]) (st' := [(2, 37)]) (by decide +kernel) rfl ?_
        refine zwW_gc IhL1 (kd := 13) (bn := 56) (n := 97) (c := 168) (nx := 12) (by decide +kernel) ?_
        refine zwW_p [(1, 1, 0), (0, 0, 0)] (q := 14) (ls' := [(2, 37), (0, kL1)]) (st' := [(0, 0), (0, kL1), (2, 168)]) (by decide +kernel) rfl ?_
        refine zwW_as IhL1 (a1 := 168) (a2 := 168) (n := 13) (lo := -2147483648) (hi := 2147483647) (nx := 15) (by decide +kernel) ⟨by decide, by decide⟩ ⟨by omega, by omega⟩ ⟨by decide, by decide⟩ ?_
        intro h12 eh12 Ih12
        have th12_37_0 : fld h12 37 0 = fld hL1 37 0 := by rw [eh12]; exact fld_wr (by omega)
        have W14 := zr_w iL1_1 eh12 (IhL1.s (a1 := 168) (a2 := 168) (k := 20) (n := 13) (by decide +kernel) (by decide) (by decide)) ⟨by omega, by omega⟩
        have Rh12 : zMR ms215_n h h12 := RhL1.w (a1 := 168) (a2 := 168) (j1 := 0) (j2 := 13) (by decide +kernel) ⟨by decide, by decide⟩ ⟨by omega, by omega⟩ eh12
        refine zwW_inc (i := 1) (c := 1) (x := kL1) (nx := 18) (by decide +kernel) rfl ⟨by omega, by omega⟩ (ls' := [(2, 37), (0, (kL1 + 1))]) rfl ?_
        refine zwW_p [(24, 2, 0)] (q := 2) (ls' := [(2, 37), (0, (kL1 + 1))]) (st' := []) (by decide +kernel) rfl ?_
        exact IHL1 ((100 - (kL1 + 1))).toNat (by omega) (kL1 + 1) h12 rfl (by omega) (W14) Ih12 Rh12
  exact L1 _ 0 h rfl (by omega) (fun j hj => by omega) I R
-- WheelLandModel.asksOf(I)V
theorem m225_z {sc : List Int} (h : Hp) (I : zI h) (a : Int) (p1 : 0 ≤ a) (p2 : a ≤ 19) : zwC sc 3 225 [(2, 37), (0, a)] h (zwRv (fun g => zI g ∧ zMR ms225 h g ∧ (n13 168 g (yNmH (yM h) a.toNat (yNm0 (yM h 37 0)))))) := by
  refine zwC_of (D := 2) 2 (by decide +kernel) rfl (ls := [(2, 37), (0, a)]) rfl ?_
  have R : zMR ms225 h h := zMR.rf _ _
  have u0 : yM h 37 0 = fld h 37 0 := rfl
  refine zwW_p [(1, 0, 2)] (q := 1) (ls' := [(2, 37), (0, a)]) (st' := [(2, 37)]) (by decide +kernel) rfl ?_
  refine zwW_cmv I (op := 60) (k' := 215) (n := 0) (kd := 13) (m := 97) (nx := 4) (r := 37) (tl := []) (st' := []) (by decide +kernel) rfl (by decide +kernel) rfl (m215_n h I) ?_
  rintro h2 ⟨Ih2, Qh2, f1⟩
  have Rh2 : zMR ms225 h h2 := R.tr Qh2 (by decide +kernel)
  have th2_37_0 : fld h2 37 0 = fld h 37 0 := Qh2.f (a1 := 37) (a2 := 37) (j1 := 0) (j2 := 1) (by decide +kernel) ⟨by decide, by decide⟩ ⟨by decide, by decide⟩
  have Zh2 : yM h2 = (yM h) := (yM_fr Qh2 (by decide +kernel) (I.b (a1 := 37) (a2 := 37) (j1 := 86) (j2 := 87) (lo := 0) (hi := 6) (by decide +kernel) (r := 37) (j := 86) (by decide) (by decide) (by decide) (by decide)).2).trans (rfl : yM h = yM h)
  have G1 : n13 168 h2 (yNm0 (yM h 37 0)) := f1
  refine zwW_p [(1, 0, 2)] (q := 5) (ls' := [(2, 37), (0, a)]) (st' := [(2, 37)]) (by decide +kernel) rfl ?_
  refine zwW_gc Ih2 (kd := 13) (bn := 56) (n := 97) (c := 168) (nx := 8) (by decide +kernel) ?_
  refine zwW_p [(0, 2, 0), (1, 0, 2)] (q := 10) (ls' := [(2, 37), (0, a)]) (st' := [(2, 37), (0, 2), (2, 168)]) (by decide +kernel) rfl ?_
  refine zwW_gc Ih2 (kd := 13) (bn := 24) (n := 97) (c := 83) (nx := 13) (by decide +kernel) ?_
  refine zwW_p [(1, 1, 0)] (q := 14) (ls' := [(2, 37), (0, a)]) (st' := [(0, a), (2, 83), (0, 2), (2, 168)]) (by decide +kernel) rfl ?_
  refine zwW_al Ih2 (a1 := 83) (a2 := 83) (kd := 20) (n := 20) (t := 0) (lo := 0) (hi := 9) (nx := 15) (by decide +kernel) ⟨by decide, by decide⟩ ⟨by omega, by omega⟩ ?_
  intro v3 ev3 lv3 uv3
  have sv3 : v3 = (yM h) 83 a.toNat := Eq.trans ev3 (Eq.trans (Eq.symm (yM_p (h := h2) (a := 83) (n := 20) (i := a.toNat) rfl (by omega))) (Eq.trans (congrFun (congrFun Zh2 83) a.toNat) rfl))
  refine zwW_as Ih2 (a1 := 168) (a2 := 168) (n := 13) (lo := -2147483648) (hi := 2147483647) (nx := 16) (by decide +kernel) ⟨by decide, by decide⟩ ⟨by decide, by decide⟩ ⟨by omega, by omega⟩ ?_
  intro h4 eh4 Ih4
  have th4_37_0 : fld h4 37 0 = fld h2 37 0 := by rw [eh4]; exact fld_wr (by decide)
  have G15 : n13 168 h4 (zu (yNm0 (yM h 37 0)) 2 (yM h 83 a.toNat)) := G1.zu (fld_zu (Ih2.s (a1 := 168) (a2 := 168) (k := 20) (n := 13) (by decide +kernel) (by decide) (by decide)) (by decide) eh4) sv3
  have Zh4 : yM h4 = (yM h) := (yM_fr (ms := [(168, 168, 0, 13)]) (zMR.one (a1 := 168) (a2 := 168) (j1 := 0) (j2 := 13) ⟨by decide, by decide⟩ ⟨by decide, by decide⟩ eh4) (by decide +kernel) (Ih2.b (a1 := 37) (a2 := 37) (j1 := 86) (j2 := 87) (lo := 0) (hi := 6) (by decide +kernel) (r := 37) (j := 86) (by decide) (by decide) (by decide) (by decide)).2).trans Zh2
  have Rh4 : zMR ms225 h h4 := Rh2.w (a1 := 168) (a2 := 168) (j1 := 0) (j2 := 13) (by decide +kernel) ⟨by decide, by decide⟩ ⟨by decide, by decide⟩ eh4
  refine zwW_p [(1, 0, 2)] (q := 17) (ls' := [(2, 37), (0, a)]) (st' := [(2, 37)]) (by decide +kernel) rfl ?_
  refine zwW_gc Ih4 (kd := 13) (bn := 56) (n := 97) (c := 168) (nx := 20) (by decide +kernel) ?_
  refine zwW_p [(0, 3, 0), (1, 0, 2)] (q := 22) (ls' := [(2, 37), (0, a)]) (st' := [(2, 37), (0, 3), (2, 168)]) (by decide +kernel) rfl ?_
  refine zwW_gc Ih4 (kd := 13) (bn := 21) (n := 97) (c := 80) (nx := 25) (by decide +kernel) ?_
  refine zwW_p [(1, 1, 0)] (q := 26) (ls' := [(2, 37), (0, a)]) (st' := [(0, a), (2, 80), (0, 3), (2, 168)]) (by decide +kernel) rfl ?_
  refine zwW_al Ih4 (a1 := 80) (a2 := 80) (kd := 20) (n := 20) (t := 0) (lo := 0) (hi := 5) (nx := 27) (by decide +kernel) ⟨by decide, by decide⟩ ⟨by omega, by omega⟩ ?_
  intro v5 ev5 lv5 uv5
  have sv5 : v5 = (yM h) 80 a.toNat := Eq.trans ev5 (Eq.trans (Eq.symm (yM_p (h := h4) (a := 80) (n := 20) (i := a.toNat) rfl (by omega))) (Eq.trans (congrFun (congrFun Zh4 80) a.toNat) rfl))
  refine zwW_as Ih4 (a1 := 168) (a2 := 168) (n := 13) (lo := -2147483648) (hi := 2147483647) (nx := 28) (by decide +kernel) ⟨by decide, by decide⟩ ⟨by decide, by decide⟩ ⟨by omega, by omega⟩ ?_
  intro h6 eh6 Ih6
  have th6_37_0 : fld h6 37 0 = fld h4 37 0 := by rw [eh6]; exact fld_wr (by decide)
  have G27 : n13 168 h6 (zu (zu (yNm0 (yM h 37 0)) 2 (yM h 83 a.toNat)) 3 (yM h 80 a.toNat)) := G15.zu (fld_zu (Ih4.s (a1 := 168) (a2 := 168) (k := 20) (n := 13) (by decide +kernel) (by decide) (by decide)) (by decide) eh6) sv5
  have Zh6 : yM h6 = (yM h) := (yM_fr (ms := [(168, 168, 0, 13)]) (zMR.one (a1 := 168) (a2 := 168) (j1 := 0) (j2 := 13) ⟨by decide, by decide⟩ ⟨by decide, by decide⟩ eh6) (by decide +kernel) (Ih4.b (a1 := 37) (a2 := 37) (j1 := 86) (j2 := 87) (lo := 0) (hi := 6) (by decide +kernel) (r := 37) (j := 86) (by decide) (by decide) (by decide) (by decide)).2).trans Zh4
  have Rh6 : zMR ms225 h h6 := Rh4.w (a1 := 168) (a2 := 168) (j1 := 0) (j2 := 13) (by decide +kernel) ⟨by decide, by decide⟩ ⟨by decide, by decide⟩ eh6
  refine zwW_p [(1, 0, 2)] (q := 29) (ls' := [(2, 37), (0, a)]) (st' := [(2, 37)]) (by decide +kernel) rfl ?_
  refine zwW_gc Ih6 (kd := 13) (bn := 56) (n := 97) (c := 168) (nx := 32) (by decide +kernel) ?_
  refine zwW_p [(0, 4, 0), (1, 0, 2)] (q := 34) (ls' := [(2, 37), (0, a)]) (st' := [(2, 37), (0, 4), (2, 168)]) (by decide +kernel) rfl ?_
  refine zwW_gc Ih6 (kd := 13) (bn := 22) (n := 97) (c := 81) (nx := 37) (by decide +kernel) ?_
  refine zwW_p [(1, 1, 0)] (q := 38) (ls' := [(2, 37), (0, a)]) (st' := [(0, a), (2, 81), (0, 4), (2, 168)]) (by decide +kernel) rfl ?_
  refine zwW_al Ih6 (a1 := 81) (a2 := 81) (kd := 20) (n := 20) (t := 0) (lo := 0) (hi := 9) (nx := 39) (by decide +kernel) ⟨by decide, by decide⟩ ⟨by omega, by omega⟩ ?_
  intro v7 ev7 lv7 uv7
  have sv7 : v7 = (yM h) 81 a.toNat := Eq.trans ev7 (Eq.trans (Eq.symm (yM_p (h := h6) (a := 81) (n := 20) (i := a.toNat) rfl (by omega))) (Eq.trans (congrFun (congrFun Zh6 81) a.toNat) rfl))
  refine zwW_as Ih6 (a1 := 168) (a2 := 168) (n := 13) (lo := -2147483648) (hi := 2147483647) (nx := 40) (by decide +kernel) ⟨by decide, by decide⟩ ⟨by decide, by decide⟩ ⟨by omega, by omega⟩ ?_
  intro h8 eh8 Ih8
  have th8_37_0 : fld h8 37 0 = fld h6 37 0 := by rw [eh8]; exact fld_wr (by decide)
  have G39 : n13 168 h8 (zu (zu (zu (yNm0 (yM h 37 0)) 2 (yM h 83 a.toNat)) 3 (yM h 80 a.toNat)) 4 (yM h 81 a.toNat)) := G27.zu (fld_zu (Ih6.s (a1 := 168) (a2 := 168) (k := 20) (n := 13) (by decide +kernel) (by decide) (by decide)) (by decide) eh8) sv7
  have Zh8 : yM h8 = (yM h) := (yM_fr (ms := [(168, 168, 0, 13)]) (zMR.one (a1 := 168) (a2 := 168) (j1 := 0) (j2 := 13) ⟨by decide, by decide⟩ ⟨by decide, by decide⟩ eh8) (by decide +kernel) (Ih6.b (a1 := 37) (a2 := 37) (j1 := 86) (j2 := 87) (lo := 0) (hi := 6) (by decide +kernel) (r := 37) (j := 86) (by decide) (by decide) (by decide) (by decide)).2).trans Zh6
  have Rh8 : zMR ms225 h h8 := Rh6.w (a1 := 168) (a2 := 168) (j1 := 0) (j2 := 13) (by decide +kernel) ⟨by decide, by decide⟩ ⟨by decide, by decide⟩ eh8
  refine zwW_p [(1, 0, 2)] (q := 41) (ls' := [(2, 37), (0, a)]) (st' := [(2, 37)]) (by decide +kernel) rfl ?_
  refine zwW_gc Ih8 (kd := 13) (bn := 56) (n := 97) (c := 168) (nx := 44) (by decide +kernel) ?_
  refine zwW_p [(0, 5, 0), (1, 0, 2)] (q := 46) (ls' := [(2, 37), (0, a)]) (st' := [(2, 37), (0, 5), (2, 168)]) (by decide +kernel) rfl ?_
  refine zwW_gc Ih8 (kd := 13) (bn := 23) (n := 97) (c := 82) (nx := 49) (by decide +kernel) ?_
  refine zwW_p [(1, 1, 0)] (q := 50) (ls' := [(2, 37), (0, a)]) (st' := [(0, a), (2, 82), (0, 5), (2, 168)]) (by decide +kernel) rfl ?_
  refine zwW_al Ih8 (a1 := 82) (a2 := 82) (kd := 20) (n := 20) (t := 0) (lo := 0) (hi := 5) (nx := 51) (by decide +kernel) ⟨by decide, by decide⟩ ⟨by omega, by omega⟩ ?_
  intro v9 ev9 lv9 uv9
  have sv9 : v9 = (yM h) 82 a.toNat := Eq.trans ev9 (Eq.trans (Eq.symm (yM_p (h := h8) (a := 82) (n := 20) (i := a.toNat) rfl (by omega))) (Eq.trans (congrFun (congrFun Zh8 82) a.toNat) rfl))
  refine zwW_as Ih8 (a1 := 168) (a2 := 168) (n := 13) (lo := -2147483648) (hi := 2147483647) (nx := 52) (by decide +kernel) ⟨by decide, by decide⟩ ⟨by decide, by decide⟩ ⟨by omega, by omega⟩ ?_
  intro h10 eh10 Ih10
  have th10_37_0 : fld h10 37 0 = fld h8 37 0 := by rw [eh10]; exact fld_wr (by decide)
  have G51 : n13 168 h10 (zu (zu (zu (zu (yNm0 (yM h 37 0)) 2 (yM h 83 a.toNat)) 3 (yM h 80 a.toNat)) 4 (yM h 81 a.toNat)) 5 (yM h 82 a.toNat)) := G39.zu (fld_zu (Ih8.s (a1 := 168) (a2 := 168) (k := 20) (n := 13) (by decide +kernel) (by decide) (by decide)) (by decide) eh10) sv9
  have Zh10 : yM h10 = (yM h) := (yM_fr (ms := [(168, 168, 0, 13)]) (zMR.one (a1 := 168) (a2 := 168) (j1 := 0) (j2 := 13) ⟨by decide, by decide⟩ ⟨by decide, by decide⟩ eh10) (by decide +kernel) (Ih8.b (a1 := 37) (a2 := 37) (j1 := 86) (j2 := 87) (lo := 0) (hi := 6) (by decide +kernel) (r := 37) (j := 86) (by decide) (by decide) (by decide) (by decide)).2).trans Zh8
  have Rh10 : zMR ms225 h h10 := Rh8.w (a1 := 168) (a2 := 168) (j1 := 0) (j2 := 13) (by decide +kernel) ⟨by decide, by decide⟩ ⟨by decide, by decide⟩ eh10
  refine zwW_p [(1, 0, 2)] (q := 53) (ls' := [(2, 37), (0, a)]) (st' := [(2, 37)]) (by decide +kernel) rfl ?_
  refine zwW_gc Ih10 (kd := 13) (bn := 56) (n := 97) (c := 168) (nx := 56) (by decide +kernel) ?_
  refine zwW_p [(0, 10, 0), (1, 0, 2)] (q := 59) (ls' := [(2, 37), (0, a)]) (st' := [(2, 37), (0, 10), (2, 168)]) (by decide +kernel) rfl ?_
  refine zwW_gc Ih10 (kd := 13) (bn := 3) (n := 97) (c := 38) (nx := 62) (by decide +kernel) ?_
  refine zwW_p [(1, 0, 2)] (q := 63) (ls' := [(2, 37), (0, a)]) (st' := [(2, 37), (2, 38), (0, 10), (2, 168)]) (by decide +kernel) rfl ?_
  refine zwW_gc Ih10 (kd := 13) (bn := 20) (n := 97) (c := 79) (nx := 66) (by decide +kernel) ?_
  refine zwW_p [(1, 1, 0)] (q := 67) (ls' := [(2, 37), (0, a)]) (st' := [(0, a), (2, 79), (2, 38), (0, 10), (2, 168)]) (by decide +kernel) rfl ?_
  refine zwW_al Ih10 (a1 := 79) (a2 := 79) (kd := 20) (n := 20) (t := 0) (lo := 0) (hi := 7) (nx := 68) (by decide +kernel) ⟨by decide, by decide⟩ ⟨by omega, by omega⟩ ?_
  intro v11 ev11 lv11 uv11
  have sv11 : v11 = (yM h) 79 a.toNat := Eq.trans ev11 (Eq.trans (Eq.symm (yM_p (h := h10) (a := 79) (n := 20) (i := a.toNat) rfl (by omega))) (Eq.trans (congrFun (congrFun Zh10 79) a.toNat) rfl))
  refine zwW_ro Ih10 (a := 38) (n := 8) (kd := 26) (base := 39) (step := 1) (nx := 69) (by decide +kernel) rfl ⟨by omega, by omega⟩ ?_
  rw [show ((39 : Nat) : Int) + ((1 : Nat) : Int) * v11 = (39 + v11) by omega]
  refine zwW_p [(1, 0, 2)] (q := 70) (ls' := [(2, 37), (0, a)]) (st' := [(2, 37), (2, (39 + v11)), (0, 10), (2, 168)]) (by decide +kernel) rfl ?_
  refine zwW_gs Ih10 (kd := 13) (bn := 0) (n := 97) (t := 0) (lo := 0) (hi := 156) (nx := 73) (by decide +kernel) ?_
  intro v12 ev12 lv12 uv12
  have sv12 : v12 = (yM h) 37 0 := Eq.trans ev12 (Eq.trans (Eq.symm (yM_s (h := h10) (i := 0) rfl)) (Eq.trans (congrFun (congrFun Zh10 37) 0) rfl))
  refine zwW_cs (k' := 174) (n := 1) (nx := 76) (as := [(0, v12)]) (st' := [(2, (39 + v11)), (0, 10), (2, 168)]) (by decide +kernel) rfl (m174 h10 v12 (by omega) (by omega)) rfl ?_
  rintro v13 _ ⟨rfl, f14, f15, f16, f17⟩
  refine zwW_al Ih10 (a1 := 39) (a2 := 46) (kd := 20) (n := 4) (t := 0) (lo := 0) (hi := 40) (nx := 77) (by decide +kernel) ⟨by omega, by omega⟩ ⟨by omega, by omega⟩ ?_
  intro v18 ev18 lv18 uv18
  have sv18 : v18 = (yM h) 39 (4 * v11.toNat + v13.toNat) := Eq.trans (show v18 = yM h10 39 (4 * v11.toNat + v13.toNat) by rw [yM_2 (a := 39) (w := 4) (v := v11.toNat) (j := v13.toNat) rfl (by omega) (by show _ < 32; omega), ev18]; congr 1; omega) (Eq.trans (congrFun (congrFun Zh10 39) (4 * v11.toNat + v13.toNat)) rfl)
  refine zwW_as Ih10 (a1 := 168) (a2 := 168) (n := 13) (lo := -2147483648) (hi := 2147483647) (nx := 78) (by decide +kernel) ⟨by decide, by decide⟩ ⟨by decide, by decide⟩ ⟨by omega, by omega⟩ ?_
  intro h19 eh19 Ih19
  have th19_37_0 : fld h19 37 0 = fld h10 37 0 := by rw [eh19]; exact fld_wr (by decide)
  have G77 : n13 168 h19 (yNmH (yM h) a.toNat (yNm0 (yM h 37 0))) := G51.zu (fld_zu (Ih10.s (a1 := 168) (a2 := 168) (k := 20) (n := 13) (by decide +kernel) (by decide) (by decide)) (by decide) eh19) (sv18.trans (by unfold yIdl; congr 1; omega))
  have Zh19 : yM h19 = (yM h) := (yM_fr (ms := [(168, 168, 0, 13)]) (zMR.one (a1 := 168) (a2 := 168) (j1 := 0) (j2 := 13) ⟨by decide, by decide⟩ ⟨by decide, by decide⟩ eh19) (by decide +kernel) (Ih10.b (a1 := 37) (a2 := 37) (j1 := 86) (j2 := 87) (lo := 0) (hi := 6) (by decide +kernel) (r := 37) (j := 86) (by decide) (by decide) (by decide) (by decide)).2).trans Zh10
  have Rh19 : zMR ms225 h h19 := Rh10.w (a1 := 168) (a2 := 168) (j1 := 0) (j2 := 13) (by decide +kernel) ⟨by decide, by decide⟩ ⟨by decide, by decide⟩ eh19
  refine zwW_retv (nx := 79) (a := 0) (b := 0) (by decide +kernel) ?_
  exact ⟨Ih19, Rh19, by exact G77⟩
-- WheelLandModel.dutyAt(I)I
theorem m155_z {sc : List Int} (h : Hp) (I : zI h) (a : Int) (q : qT) (p1 : 0 ≤ a) (p2 : a ≤ 7) (pv : a < fld h 37 1) (V : mRq q h) (ok : yOK (yM h)) : zwC sc 4 155 [(2, 37), (0, a)] h (zwRt 0 (fun x g => zI g ∧ zMR ms155 h g ∧ (-2147483648 ≤ x ∧ x ≤ 2147483647) ∧ (0 ≤ x ∧ x ≤ 1000000) ∧ (x = yDut q (yM h) a.toNat))) := by
  refine zwC_of (D := 3) 2 (by decide +kernel) rfl (ls := [(2, 37), (0, a)]) rfl ?_
  have R : zMR ms155 h h := zMR.rf _ _
  have u0 : yM h 37 0 = fld h 37 0 := rfl
  have O155 : ((a.toNat : Nat) : Int) < yM h 37 1 := by show _ < fld h 37 1; omega
  have B155 : eNum (q 2 (yM h 37 0) (zu (yNm0 (yM h 37 0)) 12 (yM h 71 a.toNat))) := V.num (eNs_dut ok O155) ⟨by decide, by decide⟩
  unfold eNum at B155
  refine zwW_p [(1, 0, 2)] (q := 1) (ls' := [(2, 37), (0, a)]) (st' := [(2, 37)]) (by decide +kernel) rfl ?_
  refine zwW_cmv I (op := 60) (k' := 215) (n := 0) (kd := 13) (m := 97) (nx := 4) (r := 37) (tl := []) (st' := []) (by decide +kernel) rfl (by decide +kernel) rfl (m215_n h I) ?_
  rintro h2 ⟨Ih2, Qh2, f1⟩
  have Rh2 : zMR ms155 h h2 := R.tr Qh2 (by decide +kernel)
  have Vh2 : mRq q h2 := V.fr Qh2 (by decide +kernel)
  have th2_37_0 : fld h2 37 0 = fld h 37 0 := Qh2.f (a1 := 37) (a2 := 37) (j1 := 0) (j2 := 1) (by decide +kernel) ⟨by decide, by decide⟩ ⟨by decide, by decide⟩
  have Zh2 : yM h2 = (yM h) := (yM_fr Qh2 (by decide +kernel) (I.b (a1 := 37) (a2 := 37) (j1 := 86) (j2 := 87) (lo := 0) (hi := 6) (by decide +kernel) (r := 37) (j := 86) (by decide) (by decide) (by decide) (by decide)).2).trans (rfl : yM h = yM h)
  have G1 : n13 168 h2 (yNm0 (yM h 37 0)) := f1
  refine zwW_p [(1, 0, 2)] (q := 5) (ls' := [(2, 37), (0, a)]) (st' := [(2, 37)]) (by decide +kernel) rfl ?_
  refine zwW_gc Ih2 (kd := 13) (bn := 56) (n := 97) (c := 168) (nx := 8) (by decide +kernel) ?_
  refine zwW_p [(0, 12, 0), (1, 0, 2)] (q := 11) (ls' := [(2, 37), (0, a)]) (st' := [(2, 37), (0, 12), (2, 168)]) (by decide +kernel) rfl ?_
  refine zwW_gc Ih2 (kd := 13) (bn := 12) (n := 97) (c := 71) (nx := 14) (by decide +kernel) ?_
  refine zwW_p [(1, 1, 0)] (q := 15) (ls' := [(2, 37), (0, a)]) (st' := [(0, a), (2, 71), (0, 12), (2, 168)]) (by decide +kernel) rfl ?_
  refine zwW_al Ih2 (a1 := 71) (a2 := 71) (kd := 20) (n := 8) (t := 0) (lo := -2147483648) (hi := 2147483647) (nx := 16) (by decide +kernel) ⟨by decide, by decide⟩ ⟨by omega, by omega⟩ ?_
  intro v3 ev3 lv3 uv3
  have sv3 : v3 = (yM h) 71 a.toNat := Eq.trans ev3 (Eq.trans (Eq.symm (yM_p (h := h2) (a := 71) (n := 8) (i := a.toNat) rfl (by omega))) (Eq.trans (congrFun (congrFun Zh2 71) a.toNat) rfl))
  refine zwW_as Ih2 (a1 := 168) (a2 := 168) (n := 13) (lo := -2147483648) (hi := 2147483647) (nx := 17) (by decide +kernel) ⟨by decide, by decide⟩ ⟨by decide, by decide⟩ ⟨by omega, by omega⟩ ?_
  intro h4 eh4 Ih4
  have th4_37_0 : fld h4 37 0 = fld h2 37 0 := by rw [eh4]; exact fld_wr (by decide)
  have G16 : n13 168 h4 (zu (yNm0 (yM h 37 0)) 12 (yM h 71 a.toNat)) := G1.zu (fld_zu (Ih2.s (a1 := 168) (a2 := 168) (k := 20) (n := 13) (by decide +kernel) (by decide) (by decide)) (by decide) eh4) sv3
  have Vh4 : mRq q h4 := Vh2.fr (zMR.one (a1 := 168) (a2 := 168) (j1 := 0) (j2 := 13) ⟨by decide, by decide⟩ ⟨by decide, by decide⟩ eh4) (by decide +kernel)
  have Zh4 : yM h4 = (yM h) := (yM_fr (ms := [(168, 168, 0, 13)]) (zMR.one (a1 := 168) (a2 := 168) (j1 := 0) (j2 := 13) ⟨by decide, by decide⟩ ⟨by decide, by decide⟩ eh4) (by decide +kernel) (Ih2.b (a1 := 37) (a2 := 37) (j1 := 86) (j2 := 87) (lo := 0) (hi := 6) (by decide +kernel) (r := 37) (j := 86) (by decide) (by decide) (by decide) (by decide)).2).trans Zh2
  have Rh4 : zMR ms155 h h4 := Rh2.w (a1 := 168) (a2 := 168) (j1 := 0) (j2 := 13) (by decide +kernel) ⟨by decide, by decide⟩ ⟨by decide, by decide⟩ eh4
  refine zwW_p [(1, 0, 2), (0, 2, 0)] (q := 19) (ls' := [(2, 37), (0, a)]) (st' := [(0, 2), (2, 37)]) (by decide +kernel) rfl ?_
  refine zwW_cm Ih4 (op := 60) (k' := 137) (n := 1) (kd := 13) (m := 97) (nx := 22) (r := 37) (tl := [(0, 2)]) (st' := []) (by decide +kernel) rfl (by decide +kernel) rfl (m137_e h4 Ih4 2 (by decide) (by decide) Vh4.2.1 Vh4.1 (G16.ns (eNs_dut ok O155))) ?_
  rintro v5 h8 ⟨Ih8, Qh8, f6, f7⟩
  have Rh8 : zMR ms155 h h8 := Rh4.tr Qh8 (by decide +kernel)
  have Vh8 : mRq q h8 := Vh4.fr Qh8 (by decide +kernel)
  have th8_37_0 : fld h8 37 0 = fld h4 37 0 := Qh8.f (a1 := 37) (a2 := 37) (j1 := 0) (j2 := 1) (by decide +kernel) ⟨by decide, by decide⟩ ⟨by decide, by decide⟩
  have Zh8 : yM h8 = (yM h) := (yM_fr Qh8 (by decide +kernel) (Ih4.b (a1 := 37) (a2 := 37) (j1 := 86) (j2 := 87) (lo := 0) (hi := 6) (by decide +kernel) (r := 37) (j := 86) (by decide) (by decide) (by decide) (by decide)).2).trans Zh4
  have A19 : v5 = q 2 (yM h 37 0) (zu (yNm0 (yM h 37 0)) 12 (yM h 71 a.toNat)) := by
    have z := f7
    rw [z, G16.tl, Vh4.2.2.2 _ _ _ (by decide) (by decide), show fld h4 37 0 = yM h 37 0 by show _ = fld h 37 0; omega]
  refine zwW_cs (k' := 129) (n := 1) (nx := 25) (as := [(0, v5)]) (st' := []) (by decide +kernel) rfl (m129 h8 v5 (by omega)) rfl ?_
  rintro v9 _ ⟨rfl, f10, f11, f12⟩
  refine zwW_ret (nx := 26) (a := 0) (b := 0) (by decide +kernel) rfl (Or.inl rfl) ?_
  exact ⟨Ih8, Rh8, by omega, by omega, by unfold yDut; omega⟩
-- WheelLandModel.canHand(I)Z
theorem m156_z {sc : List Int} (h : Hp) (I : zI h) (a : Int) (p1 : 0 ≤ a) (p2 : a ≤ 19) : zwC sc 1 156 [(2, 37), (0, a)] h (zwRt 0 (fun x g => h = g ∧ (-2147483648 ≤ x ∧ x ≤ 2147483647) ∧ (x = yCh0 (yM h) a.toNat))) := by
  refine zwC_of (D := 0) 3 (by decide +kernel) rfl (ls := [(2, 37), (0, a), (9, 0)]) rfl ?_
  have u0 : yM h 37 0 = fld h 37 0 := rfl
  have u1 : yM h 37 1 = fld h 37 1 := rfl
  have u2 : yM h 37 2 = fld h 37 2 := rfl
  have u64 : yM h 37 64 = fld h 37 64 := rfl
  have u78 : yM h 37 78 = fld h 37 78 := rfl
  refine zwW_p [(1, 0, 2)] (q := 1) (ls' := [(2, 37), (0, a), (9, 0)]) (st' := [(2, 37)]) (by decide +kernel) rfl ?_
  refine zwW_gc I (kd := 13) (bn := 20) (n := 97) (c := 79) (nx := 4) (by decide +kernel) ?_
  refine zwW_p [(1, 1, 0)] (q := 5) (ls' := [(2, 37), (0, a), (9, 0)]) (st' := [(0, a), (2, 79)]) (by decide +kernel) rfl ?_
  refine zwW_al I (a1 := 79) (a2 := 79) (kd := 20) (n := 20) (t := 0) (lo := 0) (hi := 7) (nx := 6) (by decide +kernel) ⟨by decide, by decide⟩ ⟨by omega, by omega⟩ ?_
  intro v1 ev1 lv1 uv1
  have sv1 : v1 = (yM h) 79 a.toNat := Eq.trans ev1 (Eq.trans (Eq.symm (yM_p (h := h) (a := 79) (n := 20) (i := a.toNat) rfl (by omega))) (Eq.trans (congrFun (congrFun (rfl : yM h = yM h) 79) a.toNat) rfl))
  refine zwW_p [(2, 2, 0), (1, 0, 2)] (q := 8) (ls' := [(2, 37), (0, a), (0, v1)]) (st' := [(2, 37)]) (by decide +kernel) rfl ?_
  refine zwW_gc I (kd := 13) (bn := 8) (n := 97) (c := 67) (nx := 11) (by decide +kernel) ?_
  refine zwW_p [(1, 2, 0)] (q := 12) (ls' := [(2, 37), (0, a), (0, v1)]) (st' := [(0, v1), (2, 67)]) (by decide +kernel) rfl ?_
  refine zwW_al I (a1 := 67) (a2 := 67) (kd := 20) (n := 8) (t := 0) (lo := -2147483648) (hi := 2147483647) (nx := 13) (by decide +kernel) ⟨by decide, by decide⟩ ⟨by omega, by omega⟩ ?_
  intro v2 ev2 lv2 uv2
  have sv2 : v2 = (yM h) 67 (((yM h) 79 a.toNat).toNat) := Eq.trans ev2 (Eq.trans (Eq.symm (yM_p (h := h) (a := 67) (n := 8) (i := v1.toNat) rfl (by omega))) (Eq.trans (congrArg (yM h 67) (show v1.toNat = ((yM h) 79 a.toNat).toNat by rw [sv1])) (Eq.trans (congrFun (congrFun (rfl : yM h = yM h) 67) (((yM h) 79 a.toNat).toNat)) rfl)))
  refine zwW_p [(1, 0, 2)] (q := 14) (ls' := [(2, 37), (0, a), (0, v1)]) (st' := [(2, 37), (0, v2)]) (by decide +kernel) rfl ?_
  refine zwW_gc I (kd := 13) (bn := 9) (n := 97) (c := 68) (nx := 17) (by decide +kernel) ?_
  refine zwW_p [(1, 2, 0)] (q := 18) (ls' := [(2, 37), (0, a), (0, v1)]) (st' := [(0, v1), (2, 68), (0, v2)]) (by decide +kernel) rfl ?_
  refine zwW_al I (a1 := 68) (a2 := 68) (kd := 20) (n := 8) (t := 0) (lo := -2147483648) (hi := 2147483647) (nx := 19) (by decide +kernel) ⟨by decide, by decide⟩ ⟨by omega, by omega⟩ ?_
  intro v3 ev3 lv3 uv3
  have sv3 : v3 = (yM h) 68 (((yM h) 79 a.toNat).toNat) := Eq.trans ev3 (Eq.trans (Eq.symm (yM_p (h := h) (a := 68) (n := 8) (i := v1.toNat) rfl (by omega))) (Eq.trans (congrArg (yM h 68) (show v1.toNat = ((yM h) 79 a.toNat).toNat by rw [sv1])) (Eq.trans (congrFun (congrFun (rfl : yM h = yM h) 68) (((yM h) 79 a.toNat).toNat)) rfl)))
  refine zwW_adw (nx := 20) (by decide +kernel) ?_
  intro v4 ev4 lv4 uv4
  have Ev4 : v4 = w32 (((yM h) 67 (((yM h) 79 a.toNat).toNat)) + ((yM h) 68 (((yM h) 79 a.toNat).toNat))) := by rw [ev4, sv2, sv3]
  refine zwif_le (q := 42) (nx := 23) (by decide +kernel) (fun c5 => ?_) (fun c5 => ?_)
  · refine zwW_p [(0, 0, 0)] (q := 43) (ls' := [(2, 37), (0, a), (0, v1)]) (st' := [(0, 0)]) (by decide +kernel) rfl ?_
    refine zwW_ret (nx := 44) (a := 1) (b := 0) (by decide +kernel) rfl (Or.inr (Or.inl ⟨rfl, by omega⟩)) ?_
    exact ⟨rfl, by omega, by unfold yCh0; (repeat' (first | rw [if_pos (by omega)] | rw [if_neg (by omega)])); all_goals (first | rfl | omega)⟩
  · refine zwW_p [(1, 0, 2)] (q := 24) (ls' := [(2, 37), (0, a), (0, v1)]) (st' := [(2, 37)]) (by decide +kernel) rfl ?_
    refine zwW_gc I (kd := 13) (bn := 25) (n := 97) (c := 84) (nx := 27) (by decide +kernel) ?_
    refine zwW_p [(1, 1, 0)] (q := 28) (ls' := [(2, 37), (0, a), (0, v1)]) (st' := [(0, a), (2, 84)]) (by decide +kernel) rfl ?_
    refine zwW_al I (a1 := 84) (a2 := 84) (kd := 20) (n := 20) (t := 0) (lo := -2147483648) (hi := 2147483647) (nx := 29) (by decide +kernel) ⟨by decide, by decide⟩ ⟨by omega, by omega⟩ ?_
    intro v6 ev6 lv6 uv6
    have sv6 : v6 = (yM h) 84 a.toNat := Eq.trans ev6 (Eq.trans (Eq.symm (yM_p (h := h) (a := 84) (n := 20) (i := a.toNat) rfl (by omega))) (Eq.trans (congrFun (congrFun (rfl : yM h = yM h) 84) a.toNat) rfl))
    refine zwW_p [(1, 0, 2)] (q := 30) (ls' := [(2, 37), (0, a), (0, v1)]) (st' := [(2, 37), (0, v6)]) (by decide +kernel) rfl ?_
    refine zwW_gc I (kd := 13) (bn := 11) (n := 97) (c := 70) (nx := 33) (by decide +kernel) ?_
    refine zwW_p [(1, 2, 0)] (q := 34) (ls' := [(2, 37), (0, a), (0, v1)]) (st' := [(0, v1), (2, 70), (0, v6)]) (by decide +kernel) rfl ?_
    refine zwW_al I (a1 := 70) (a2 := 70) (kd := 20) (n := 8) (t := 0) (lo := -2147483648) (hi := 2147483647) (nx := 35) (by decide +kernel) ⟨by decide, by decide⟩ ⟨by omega, by omega⟩ ?_
    intro v7 ev7 lv7 uv7
    have sv7 : v7 = (yM h) 70 (((yM h) 79 a.toNat).toNat) := Eq.trans ev7 (Eq.trans (Eq.symm (yM_p (h := h) (a := 70) (n := 8) (i := v1.toNat) rfl (by omega))) (Eq.trans (congrArg (yM h 70) (show v1.toNat = ((yM h) 79 a.toNat).toNat by rw [sv1])) (Eq.trans (congrFun (congrFun (rfl : yM h = yM h) 70) (((yM h) 79 a.toNat).toNat)) rfl)))
    refine zwic_lt (q := 42) (nx := 38) (by decide +kernel) (fun c8 => ?_) (fun c8 => ?_)
    · refine zwW_p [(0, 0, 0)] (q := 43) (ls' := [(2, 37), (0, a), (0, v1)]) (st' := [(0, 0)]) (by decide +kernel) rfl ?_
      refine zwW_ret (nx := 44) (a := 1) (b := 0) (by decide +kernel) rfl (Or.inr (Or.inl ⟨rfl, by omega⟩)) ?_
      exact ⟨rfl, by omega, by unfold yCh0; (repeat' (first | rw [if_pos (by omega)] | rw [if_neg (by omega)])); all_goals (first | rfl | omega)⟩
    · refine zwW_p [(0, 1, 0), (24, 43, 0)] (q := 43) (ls' := [(2, 37), (0, a), (0, v1)]) (st' := [(0, 1)]) (by decide +kernel) rfl ?_
      refine zwW_ret (nx := 44) (a := 1) (b := 0) (by decide +kernel) rfl (Or.inr (Or.inl ⟨rfl, by omega⟩)) ?_
      exact ⟨rfl, by omega, by unfold yCh0; (repeat' (first | rw [if_pos (by omega)] | rw [if_neg (by omega)])); all_goals (first | rfl | omega)⟩
-- WheelLandModel.canMill(I)Z
theorem m157_z {sc : List Int} (h : Hp) (I : zI h) (a : Int) (q : qT) (p1 : 0 ≤ a) (p2 : a ≤ 19) (pv : a < fld h 37 2) (V : mRq q h) (ok : yOK (yM h)) : zwC sc 5 157 [(2, 37), (0, a)] h (zwRt 0 (fun x g => zI g ∧ zMR ms157 h g ∧ (-2147483648 ≤ x ∧ x ≤ 2147483647) ∧ (x = yCm1 q (yM h) a.toNat))) := by
  refine zwC_of (D := 4) 3 (by decide +kernel) rfl (ls := [(2, 37), (0, a), (9, 0)]) rfl ?_
  have R : zMR ms157 h h := zMR.rf _ _
  have u1 : yM h 37 1 = fld h 37 1 := rfl
  have u2 : yM h 37 2 = fld h 37 2 := rfl
  have KH := ok.ho (k := a.toNat) (by show _ < fld h 37 2; omega)
  refine zwW_p [(1, 0, 2)] (q := 1) (ls' := [(2, 37), (0, a), (9, 0)]) (st' := [(2, 37)]) (by decide +kernel) rfl ?_
  refine zwW_gc I (kd := 13) (bn := 20) (n := 97) (c := 79) (nx := 4) (by decide +kernel) ?_
  refine zwW_p [(1, 1, 0)] (q := 5) (ls' := [(2, 37), (0, a), (9, 0)]) (st' := [(0, a), (2, 79)]) (by decide +kernel) rfl ?_
  refine zwW_al I (a1 := 79) (a2 := 79) (kd := 20) (n := 20) (t := 0) (lo := 0) (hi := 7) (nx := 6) (by decide +kernel) ⟨by decide, by decide⟩ ⟨by omega, by omega⟩ ?_
  intro v1 ev1 lv1 uv1
  have sv1 : v1 = (yM h) 79 a.toNat := Eq.trans ev1 (Eq.trans (Eq.symm (yM_p (h := h) (a := 79) (n := 20) (i := a.toNat) rfl (by omega))) (Eq.trans (congrFun (congrFun (rfl : yM h = yM h) 79) a.toNat) rfl))
  refine zwW_p [(2, 2, 0), (1, 0, 2)] (q := 8) (ls' := [(2, 37), (0, a), (0, v1)]) (st' := [(2, 37)]) (by decide +kernel) rfl ?_
  refine zwW_gc I (kd := 13) (bn := 10) (n := 97) (c := 69) (nx := 11) (by decide +kernel) ?_
  refine zwW_p [(1, 2, 0)] (q := 12) (ls' := [(2, 37), (0, a), (0, v1)]) (st' := [(0, v1), (2, 69)]) (by decide +kernel) rfl ?_
  refine zwW_al I (a1 := 69) (a2 := 69) (kd := 20) (n := 8) (t := 0) (lo := -2147483648) (hi := 2147483647) (nx := 13) (by decide +kernel) ⟨by decide, by decide⟩ ⟨by omega, by omega⟩ ?_
  intro v2 ev2 lv2 uv2
  have sv2 : v2 = (yM h) 69 (((yM h) 79 a.toNat).toNat) := Eq.trans ev2 (Eq.trans (Eq.symm (yM_p (h := h) (a := 69) (n := 8) (i := v1.toNat) rfl (by omega))) (Eq.trans (congrArg (yM h 69) (show v1.toNat = ((yM h) 79 a.toNat).toNat by rw [sv1])) (Eq.trans (congrFun (congrFun (rfl : yM h = yM h) 69) (((yM h) 79 a.toNat).toNat)) rfl)))
  refine zwif_le (q := 41) (nx := 16) (by decide +kernel) (fun c3 => ?_) (fun c3 => ?_)
  · refine zwW_p [(0, 0, 0)] (q := 42) (ls' := [(2, 37), (0, a), (0, v1)]) (st' := [(0, 0)]) (by decide +kernel) rfl ?_
    refine zwW_ret (nx := 43) (a := 1) (b := 0) (by decide +kernel) rfl (Or.inr (Or.inl ⟨rfl, by omega⟩)) ?_
    exact ⟨I, R, by omega, by unfold yCm1 yCm0; (repeat' (first | rw [if_pos (by omega)] | rw [if_neg (by omega)])); all_goals (first | rfl | omega)⟩
  · refine zwW_p [(1, 0, 2)] (q := 17) (ls' := [(2, 37), (0, a), (0, v1)]) (st' := [(2, 37)]) (by decide +kernel) rfl ?_
    refine zwW_gc I (kd := 13) (bn := 25) (n := 97) (c := 84) (nx := 20) (by decide +kernel) ?_
    refine zwW_p [(1, 1, 0)] (q := 21) (ls' := [(2, 37), (0, a), (0, v1)]) (st' := [(0, a), (2, 84)]) (by decide +kernel) rfl ?_
    refine zwW_al I (a1 := 84) (a2 := 84) (kd := 20) (n := 20) (t := 0) (lo := -2147483648) (hi := 2147483647) (nx := 22) (by decide +kernel) ⟨by decide, by decide⟩ ⟨by omega, by omega⟩ ?_
    intro v4 ev4 lv4 uv4
    have sv4 : v4 = (yM h) 84 a.toNat := Eq.trans ev4 (Eq.trans (Eq.symm (yM_p (h := h) (a := 84) (n := 20) (i := a.toNat) rfl (by omega))) (Eq.trans (congrFun (congrFun (rfl : yM h = yM h) 84) a.toNat) rfl))
    refine zwW_p [(1, 0, 2)] (q := 23) (ls' := [(2, 37), (0, a), (0, v1)]) (st' := [(2, 37), (0, v4)]) (by decide +kernel) rfl ?_
    refine zwW_gc I (kd := 13) (bn := 12) (n := 97) (c := 71) (nx := 26) (by decide +kernel) ?_
    refine zwW_p [(1, 2, 0)] (q := 27) (ls' := [(2, 37), (0, a), (0, v1)]) (st' := [(0, v1), (2, 71), (0, v4)]) (by decide +kernel) rfl ?_
    refine zwW_al I (a1 := 71) (a2 := 71) (kd := 20) (n := 8) (t := 0) (lo := -2147483648) (hi := 2147483647) (nx := 28) (by decide +kernel) ⟨by decide, by decide⟩ ⟨by omega, by omega⟩ ?_
    intro v5 ev5 lv5 uv5
    have sv5 : v5 = (yM h) 71 (((yM h) 79 a.toNat).toNat) := Eq.trans ev5 (Eq.trans (Eq.symm (yM_p (h := h) (a := 71) (n := 8) (i := v1.toNat) rfl (by omega))) (Eq.trans (congrArg (yM h 71) (show v1.toNat = ((yM h) 79 a.toNat).toNat by rw [sv1])) (Eq.trans (congrFun (congrFun (rfl : yM h = yM h) 71) (((yM h) 79 a.toNat).toNat)) rfl)))
    refine zwW_p [(1, 0, 2), (1, 2, 0)] (q := 30) (ls' := [(2, 37), (0, a), (0, v1)]) (st' := [(0, v1), (2, 37), (0, v5), (0, v4)]) (by decide +kernel) rfl ?_
    refine zwW_cm I (op := 60) (k' := 155) (n := 1) (kd := 13) (m := 97) (nx := 33) (r := 37) (tl := [(0, v1)]) (st' := [(0, v5), (0, v4)]) (by decide +kernel) rfl (by decide +kernel) rfl (m155_z h I v1 q (by omega) (by omega) (by omega) V (by rw [(rfl : yM h = yM h)]; exact ok)) ?_
    rintro v6 h10 ⟨Ih10, Qh10, f7, f8, f9⟩
    have Rh10 : zMR ms157 h h10 := R.tr Qh10 (by decide +kernel)
    have Vh10 : mRq q h10 := V.fr Qh10 (by decide +kernel)
    have th10_37_1 : fld h10 37 1 = fld h 37 1 := Qh10.f (a1 := 37) (a2 := 37) (j1 := 1) (j2 := 2) (by decide +kernel) ⟨by decide, by decide⟩ ⟨by decide, by decide⟩
    have sv6 : v6 = yDut q (yM h) (((yM h) 79 a.toNat).toNat) := by rw [f9, sv1]
    have Zh10 : yM h10 = (yM h) := (yM_fr Qh10 (by decide +kernel) (I.b (a1 := 37) (a2 := 37) (j1 := 86) (j2 := 87) (lo := 0) (hi := 6) (by decide +kernel) (r := 37) (j := 86) (by decide) (by decide) (by decide) (by decide)).2).trans (rfl : yM h = yM h)
    refine zwW_adw (nx := 34) (by decide +kernel) ?_
    intro v11 ev11 lv11 uv11
    have Ev11 : v11 = w32 (((yM h) 71 (((yM h) 79 a.toNat).toNat)) + (yDut q (yM h) (((yM h) 79 a.toNat).toNat))) := by rw [ev11, sv5, sv6]
    refine zwic_lt (q := 41) (nx := 37) (by decide +kernel) (fun c12 => ?_) (fun c12 => ?_)
    · refine zwW_p [(0, 0, 0)] (q := 42) (ls' := [(2, 37), (0, a), (0, v1)]) (st' := [(0, 0)]) (by decide +kernel) rfl ?_
      refine zwW_ret (nx := 43) (a := 1) (b := 0) (by decide +kernel) rfl (Or.inr (Or.inl ⟨rfl, by omega⟩)) ?_
      exact ⟨Ih10, Rh10, by omega, by unfold yCm1 yCm0; (repeat' (first | rw [if_pos (by omega)] | rw [if_neg (by omega)])); all_goals (first | rfl | omega)⟩
    · refine zwW_p [(0, 1, 0), (24, 42, 0)] (q := 42) (ls' := [(2, 37), (0, a), (0, v1)]) (st' := [(0, 1)]) (by decide +kernel) rfl ?_
      refine zwW_ret (nx := 43) (a := 1) (b := 0) (by decide +kernel) rfl (Or.inr (Or.inl ⟨rfl, by omega⟩)) ?_
      exact ⟨Ih10, Rh10, by omega, by unfold yCm1 yCm0; (repeat' (first | rw [if_pos (by omega)] | rw [if_neg (by omega)])); all_goals (first | rfl | omega)⟩
-- WheelLandModel.likes(I)I
theorem m62_z {sc : List Int} (h : Hp) (I : zI h) (a : Int) (q : qT) (V : mRq q h) (ok : yOK (yM h)) : zwC sc 6 62 [(2, 37), (0, a)] h (zwRt 0 (fun x g => zI g ∧ zMR ms62 h g ∧ (-2147483648 ≤ x ∧ x ≤ 2147483647) ∧ (-1 ≤ x ∧ x ≤ 1) ∧ (x = yLikA q (yM h) a))) := by
  refine zwC_of (D := 5) 4 (by decide +kernel) rfl (ls := [(2, 37), (0, a), (9, 0), (9, 0)]) rfl ?_
  have R : zMR ms62 h h := zMR.rf _ _
  have u1 : yM h 37 1 = fld h 37 1 := rfl
  have u2 : yM h 37 2 = fld h 37 2 := rfl
  refine zwW_p [(1, 0, 2), (1, 1, 0)] (q := 2) (ls' := [(2, 37), (0, a), (9, 0), (9, 0)]) (st' := [(0, a), (2, 37)]) (by decide +kernel) rfl ?_
  refine zwW_cm I (op := 60) (k' := 111) (n := 1) (kd := 13) (m := 97) (nx := 5) (r := 37) (tl := [(0, a)]) (st' := []) (by decide +kernel) rfl (by decide +kernel) rfl (m111 h I a) ?_
  rintro x _ ⟨rfl, ⟨rfl, c1⟩ | ⟨rfl, c1⟩⟩
  · refine zwif_ne (q := 10) (nx := 8) (by decide +kernel) (fun c2 => ?_) (fun c2 => ?_)
    · have KH := ok.ho (k := a.toNat) (by show _ < fld h 37 2; omega)
      refine zwW_p [(1, 0, 2)] (q := 11) (ls' := [(2, 37), (0, a), (9, 0), (9, 0)]) (st' := [(2, 37)]) (by decide +kernel) rfl ?_
      refine zwW_gc I (kd := 13) (bn := 20) (n := 97) (c := 79) (nx := 14) (by decide +kernel) ?_
      refine zwW_p [(1, 1, 0)] (q := 15) (ls' := [(2, 37), (0, a), (9, 0), (9, 0)]) (st' := [(0, a), (2, 79)]) (by decide +kernel) rfl ?_
      refine zwW_al I (a1 := 79) (a2 := 79) (kd := 20) (n := 20) (t := 0) (lo := 0) (hi := 7) (nx := 16) (by decide +kernel) ⟨by decide, by decide⟩ ⟨by omega, by omega⟩ ?_
      intro v3 ev3 lv3 uv3
      have sv3 : v3 = (yM h) 79 a.toNat := Eq.trans ev3 (Eq.trans (Eq.symm (yM_p (h := h) (a := 79) (n := 20) (i := a.toNat) rfl (by omega))) (Eq.trans (congrFun (congrFun (rfl : yM h = yM h) 79) a.toNat) rfl))
      refine zwW_p [(2, 2, 0), (1, 0, 2)] (q := 18) (ls' := [(2, 37), (0, a), (0, v3), (9, 0)]) (st' := [(2, 37)]) (by decide +kernel) rfl ?_
      refine zwW_gc I (kd := 13) (bn := 11) (n := 97) (c := 70) (nx := 21) (by decide +kernel) ?_
      refine zwW_p [(1, 2, 0)] (q := 22) (ls' := [(2, 37), (0, a), (0, v3), (9, 0)]) (st' := [(0, v3), (2, 70)]) (by decide +kernel) rfl ?_
      refine zwW_al I (a1 := 70) (a2 := 70) (kd := 20) (n := 8) (t := 0) (lo := -2147483648) (hi := 2147483647) (nx := 23) (by decide +kernel) ⟨by decide, by decide⟩ ⟨by omega, by omega⟩ ?_
      intro v4 ev4 lv4 uv4
      have sv4 : v4 = (yM h) 70 (((yM h) 79 a.toNat).toNat) := Eq.trans ev4 (Eq.trans (Eq.symm (yM_p (h := h) (a := 70) (n := 8) (i := v3.toNat) rfl (by omega))) (Eq.trans (congrArg (yM h 70) (show v3.toNat = ((yM h) 79 a.toNat).toNat by rw [sv3])) (Eq.trans (congrFun (congrFun (rfl : yM h = yM h) 70) (((yM h) 79 a.toNat).toNat)) rfl)))
      refine zwW_p [(1, 0, 2)] (q := 24) (ls' := [(2, 37), (0, a), (0, v3), (9, 0)]) (st' := [(2, 37), (0, v4)]) (by decide +kernel) rfl ?_
      refine zwW_gc I (kd := 13) (bn := 12) (n := 97) (c := 71) (nx := 27) (by decide +kernel) ?_
      refine zwW_p [(1, 2, 0)] (q := 28) (ls' := [(2, 37), (0, a), (0, v3), (9, 0)]) (st' := [(0, v3), (2, 71), (0, v4)]) (by decide +kernel) rfl ?_
      refine zwW_al I (a1 := 71) (a2 := 71) (kd := 20) (n := 8) (t := 0) (lo := -2147483648) (hi := 2147483647) (nx := 29) (by decide +kernel) ⟨by decide, by decide⟩ ⟨by omega, by omega⟩ ?_
      intro v5 ev5 lv5 uv5
      have sv5 : v5 = (yM h) 71 (((yM h) 79 a.toNat).toNat) := Eq.trans ev5 (Eq.trans (Eq.symm (yM_p (h := h) (a := 71) (n := 8) (i := v3.toNat) rfl (by omega))) (Eq.trans (congrArg (yM h 71) (show v3.toNat = ((yM h) 79 a.toNat).toNat by rw [sv3])) (Eq.trans (congrFun (congrFun (rfl : yM h = yM h) 71) (((yM h) 79 a.toNat).toNat)) rfl)))
      refine zwW_p [(1, 0, 2), (1, 2, 0)] (q := 31) (ls' := [(2, 37), (0, a), (0, v3), (9, 0)]) (st' := [(0, v3), (2, 37), (0, v5), (0, v4)]) (by decide +kernel) rfl ?_
      refine zwW_cm I (op := 60) (k' := 155) (n := 1) (kd := 13) (m := 97) (nx := 34) (r := 37) (tl := [(0, v3)]) (st' := [(0, v5), (0, v4)]) (by decide +kernel) rfl (by decide +kernel) rfl (m155_z h I v3 q (by omega) (by omega) (by omega) V (by rw [(rfl : yM h = yM h)]; exact ok)) ?_
      rintro v6 h10 ⟨Ih10, Qh10, f7, f8, f9⟩
      have Rh10 : zMR ms62 h h10 := R.tr Qh10 (by decide +kernel)
      have Vh10 : mRq q h10 := V.fr Qh10 (by decide +kernel)
      have th10_37_1 : fld h10 37 1 = fld h 37 1 := Qh10.f (a1 := 37) (a2 := 37) (j1 := 1) (j2 := 2) (by decide +kernel) ⟨by decide, by decide⟩ ⟨by decide, by decide⟩
      have th10_37_2 : fld h10 37 2 = fld h 37 2 := Qh10.f (a1 := 37) (a2 := 37) (j1 := 2) (j2 := 3) (by decide +kernel) ⟨by decide, by decide⟩ ⟨by decide, by decide⟩
      have sv6 : v6 = yDut q (yM h) (((yM h) 79 a.toNat).toNat) := by rw [f9, sv3]
      have Zh10 : yM h10 = (yM h) := (yM_fr Qh10 (by decide +kernel) (I.b (a1 := 37) (a2 := 37) (j1 := 86) (j2 := 87) (lo := 0) (hi := 6) (by decide +kernel) (r := 37) (j := 86) (by decide) (by decide) (by decide) (by decide)).2).trans (rfl : yM h = yM h)
      refine zwW_adw (nx := 35) (by decide +kernel) ?_
      intro v11 ev11 lv11 uv11
      have Ev11 : v11 = w32 (((yM h) 71 (((yM h) 79 a.toNat).toNat)) + (yDut q (yM h) (((yM h) 79 a.toNat).toNat))) := by rw [ev11, sv5, sv6]
      refine zwW_p [(1, 0, 2)] (q := 36) (ls' := [(2, 37), (0, a), (0, v3), (9, 0)]) (st' := [(2, 37), (0, v11), (0, v4)]) (by decide +kernel) rfl ?_
      refine zwW_gc Ih10 (kd := 13) (bn := 13) (n := 97) (c := 72) (nx := 39) (by decide +kernel) ?_
      refine zwW_p [(1, 2, 0)] (q := 40) (ls' := [(2, 37), (0, a), (0, v3), (9, 0)]) (st' := [(0, v3), (2, 72), (0, v11), (0, v4)]) (by decide +kernel) rfl ?_
      refine zwW_al Ih10 (a1 := 72) (a2 := 72) (kd := 20) (n := 8) (t := 0) (lo := -2147483648) (hi := 2147483647) (nx := 41) (by decide +kernel) ⟨by decide, by decide⟩ ⟨by omega, by omega⟩ ?_
      intro v12 ev12 lv12 uv12
      have sv12 : v12 = (yM h) 72 (((yM h) 79 a.toNat).toNat) := Eq.trans ev12 (Eq.trans (Eq.symm (yM_p (h := h10) (a := 72) (n := 8) (i := v3.toNat) rfl (by omega))) (Eq.trans (congrArg (yM h10 72) (show v3.toNat = ((yM h) 79 a.toNat).toNat by rw [sv3])) (Eq.trans (congrFun (congrFun Zh10 72) (((yM h) 79 a.toNat).toNat)) rfl)))
      refine zwW_adw (nx := 42) (by decide +kernel) ?_
      intro v13 ev13 lv13 uv13
      have Ev13 : v13 = w32 ((w32 (((yM h) 71 (((yM h) 79 a.toNat).toNat)) + (yDut q (yM h) (((yM h) 79 a.toNat).toNat)))) + ((yM h) 72 (((yM h) 79 a.toNat).toNat))) := by rw [ev13, Ev11, sv12]
      refine zwic_gt (q := 49) (nx := 45) (by decide +kernel) (fun c14 => ?_) (fun c14 => ?_)
      · refine zwW_p [(0, 0, 0), (2, 3, 0), (1, 3, 0)] (q := 52) (ls' := [(2, 37), (0, a), (0, v3), (0, 0)]) (st' := [(0, 0)]) (by decide +kernel) rfl ?_
        refine zwif_eq (q := 65) (nx := 55) (by decide +kernel) (fun c15 => ?_) (fun c15 => ?_)
        · refine zwW_p [(1, 0, 2), (1, 1, 0)] (q := 67) (ls' := [(2, 37), (0, a), (0, v3), (0, 0)]) (st' := [(0, a), (2, 37)]) (by decide +kernel) rfl ?_
          refine zwW_cm Ih10 (op := 60) (k' := 157) (n := 1) (kd := 13) (m := 97) (nx := 70) (r := 37) (tl := [(0, a)]) (st' := []) (by decide +kernel) rfl (by decide +kernel) rfl (m157_z h10 Ih10 a q (by omega) (by omega) (by omega) Vh10 (by rw [Zh10]; exact ok)) ?_
          rintro v16 h19 ⟨Ih19, Qh19, f17, f18⟩
          have Rh19 : zMR ms62 h h19 := Rh10.tr Qh19 (by decide +kernel)
          have Vh19 : mRq q h19 := Vh10.fr Qh19 (by decide +kernel)
          have th19_37_1 : fld h19 37 1 = fld h10 37 1 := Qh19.f (a1 := 37) (a2 := 37) (j1 := 1) (j2 := 2) (by decide +kernel) ⟨by decide, by decide⟩ ⟨by decide, by decide⟩
          have th19_37_2 : fld h19 37 2 = fld h10 37 2 := Qh19.f (a1 := 37) (a2 := 37) (j1 := 2) (j2 := 3) (by decide +kernel) ⟨by decide, by decide⟩ ⟨by decide, by decide⟩
          have sv16 : v16 = yCm1 q (yM h) a.toNat := by rw [f18, Zh10]
          have Zh19 : yM h19 = (yM h) := (yM_fr Qh19 (by decide +kernel) (Ih10.b (a1 := 37) (a2 := 37) (j1 := 86) (j2 := 87) (lo := 0) (hi := 6) (by decide +kernel) (r := 37) (j := 86) (by decide) (by decide) (by decide) (by decide)).2).trans Zh10
          refine zwif_eq (q := 75) (nx := 73) (by decide +kernel) (fun c20 => ?_) (fun c20 => ?_)
          · refine zwW_p [(1, 0, 2), (1, 1, 0)] (q := 77) (ls' := [(2, 37), (0, a), (0, v3), (0, 0)]) (st' := [(0, a), (2, 37)]) (by decide +kernel) rfl ?_
            refine zwW_cm Ih19 (op := 60) (k' := 156) (n := 1) (kd := 13) (m := 97) (nx := 80) (r := 37) (tl := [(0, a)]) (st' := []) (by decide +kernel) rfl (by decide +kernel) rfl (m156_z h19 Ih19 a (by omega) (by omega)) ?_
            rintro v21 _ ⟨rfl, f22, f23⟩
            have sv21 : v21 = yCh0 (yM h) a.toNat := by rw [f23, Zh19]
            refine zwif_eq (q := 87) (nx := 83) (by decide +kernel) (fun c24 => ?_) (fun c24 => ?_)
            · refine zwW_p [(0, -1, 0)] (q := 88) (ls' := [(2, 37), (0, a), (0, v3), (0, 0)]) (st' := [(0, -1)]) (by decide +kernel) rfl ?_
              refine zwW_ret (nx := 89) (a := 0) (b := 0) (by decide +kernel) rfl (Or.inl rfl) ?_
              exact ⟨Ih19, Rh19, by omega, by omega, by have H2 := yCm1_c (q := q) (S := yM h) (k := a.toNat); unfold yLikA yCho; rcases yCh0_c (S := yM h) (k := a.toNat) with ⟨H1, H3, H4⟩ | ⟨H1, H3⟩ <;> first | (exfalso; omega) | ((repeat' (first | rw [if_pos (by omega)] | rw [if_neg (by omega)])); all_goals (first | rfl | omega))⟩
            · refine zwW_p [(0, 0, 0), (24, 88, 0)] (q := 88) (ls' := [(2, 37), (0, a), (0, v3), (0, 0)]) (st' := [(0, 0)]) (by decide +kernel) rfl ?_
              refine zwW_ret (nx := 89) (a := 0) (b := 0) (by decide +kernel) rfl (Or.inl rfl) ?_
              exact ⟨Ih19, Rh19, by omega, by omega, by have H2 := yCm1_c (q := q) (S := yM h) (k := a.toNat); unfold yLikA yCho; rcases yCh0_c (S := yM h) (k := a.toNat) with ⟨H1, H3, H4⟩ | ⟨H1, H3⟩ <;> first | (exfalso; omega) | ((repeat' (first | rw [if_pos (by omega)] | rw [if_neg (by omega)])); all_goals (first | rfl | omega))⟩
          · refine zwW_p [(0, 1, 0)] (q := 74) (ls' := [(2, 37), (0, a), (0, v3), (0, 0)]) (st' := [(0, 1)]) (by decide +kernel) rfl ?_
            refine zwW_ret (nx := 75) (a := 0) (b := 0) (by decide +kernel) rfl (Or.inl rfl) ?_
            exact ⟨Ih19, Rh19, by omega, by omega, by have H2 := yCm1_c (q := q) (S := yM h) (k := a.toNat); unfold yLikA yCho; rcases yCh0_c (S := yM h) (k := a.toNat) with ⟨H1, H3, H4⟩ | ⟨H1, H3⟩ <;> first | (exfalso; omega) | ((repeat' (first | rw [if_pos (by omega)] | rw [if_neg (by omega)])); all_goals (first | rfl | omega))⟩
        · exfalso; omega
      · refine zwW_p [(0, 1, 0), (24, 50, 0), (2, 3, 0), (1, 3, 0)] (q := 52) (ls' := [(2, 37), (0, a), (0, v3), (0, 1)]) (st' := [(0, 1)]) (by decide +kernel) rfl ?_
        refine zwif_eq (q := 65) (nx := 55) (by decide +kernel) (fun c25 => ?_) (fun c25 => ?_)
        · exfalso; omega
        · refine zwW_p [(1, 0, 2), (1, 1, 0)] (q := 57) (ls' := [(2, 37), (0, a), (0, v3), (0, 1)]) (st' := [(0, a), (2, 37)]) (by decide +kernel) rfl ?_
          refine zwW_cm Ih10 (op := 60) (k' := 156) (n := 1) (kd := 13) (m := 97) (nx := 60) (r := 37) (tl := [(0, a)]) (st' := []) (by decide +kernel) rfl (by decide +kernel) rfl (m156_z h10 Ih10 a (by omega) (by omega)) ?_
          rintro v26 _ ⟨rfl, f27, f28⟩
          have sv26 : v26 = yCh0 (yM h) a.toNat := by rw [f28, Zh10]
          refine zwif_eq (q := 65) (nx := 63) (by decide +kernel) (fun c29 => ?_) (fun c29 => ?_)
          · refine zwW_p [(1, 0, 2), (1, 1, 0)] (q := 67) (ls' := [(2, 37), (0, a), (0, v3), (0, 1)]) (st' := [(0, a), (2, 37)]) (by decide +kernel) rfl ?_
            refine zwW_cm Ih10 (op := 60) (k' := 157) (n := 1) (kd := 13) (m := 97) (nx := 70) (r := 37) (tl := [(0, a)]) (st' := []) (by decide +kernel) rfl (by decide +kernel) rfl (m157_z h10 Ih10 a q (by omega) (by omega) (by omega) Vh10 (by rw [Zh10]; exact ok)) ?_
            rintro v30 h33 ⟨Ih33, Qh33, f31, f32⟩
            have Rh33 : zMR ms62 h h33 := Rh10.tr Qh33 (by decide +kernel)
            have Vh33 : mRq q h33 := Vh10.fr Qh33 (by decide +kernel)
            have th33_37_1 : fld h33 37 1 = fld h10 37 1 := Qh33.f (a1 := 37) (a2 := 37) (j1 := 1) (j2 := 2) (by decide +kernel) ⟨by decide, by decide⟩ ⟨by decide, by decide⟩
            have th33_37_2 : fld h33 37 2 = fld h10 37 2 := Qh33.f (a1 := 37) (a2 := 37) (j1 := 2) (j2 := 3) (by decide +kernel) ⟨by decide, by decide⟩ ⟨by decide, by decide⟩
            have sv30 : v30 = yCm1 q (yM h) a.toNat := by rw [f32, Zh10]
            have Zh33 : yM h33 = (yM h) := (yM_fr Qh33 (by decide +kernel) (Ih10.b (a1 := 37) (a2 := 37) (j1 := 86) (j2 := 87) (lo := 0) (hi := 6) (by decide +kernel) (r := 37) (j := 86) (by decide) (by decide) (by decide) (by decide)).2).trans Zh10
            refine zwif_eq (q := 75) (nx := 73) (by decide +kernel) (fun c34 => ?_) (fun c34 => ?_)
            · refine zwW_p [(1, 0, 2), (1, 1, 0)] (q := 77) (ls' := [(2, 37), (0, a), (0, v3), (0, 1)]) (st' := [(0, a), (2, 37)]) (by decide +kernel) rfl ?_
              refine zwW_cm Ih33 (op := 60) (k' := 156) (n := 1) (kd := 13) (m := 97) (nx := 80) (r := 37) (tl := [(0, a)]) (st' := []) (by decide +kernel) rfl (by decide +kernel) rfl (m156_z h33 Ih33 a (by omega) (by omega)) ?_
              rintro v35 _ ⟨rfl, f36, f37⟩
              have sv35 : v35 = yCh0 (yM h) a.toNat := by rw [f37, Zh33]
              refine zwif_eq (q := 87) (nx := 83) (by decide +kernel) (fun c38 => ?_) (fun c38 => ?_)
              · refine zwW_p [(0, -1, 0)] (q := 88) (ls' := [(2, 37), (0, a), (0, v3), (0, 1)]) (st' := [(0, -1)]) (by decide +kernel) rfl ?_
                refine zwW_ret (nx := 89) (a := 0) (b := 0) (by decide +kernel) rfl (Or.inl rfl) ?_
                exact ⟨Ih33, Rh33, by omega, by omega, by have H2 := yCm1_c (q := q) (S := yM h) (k := a.toNat); unfold yLikA yCho; rcases yCh0_c (S := yM h) (k := a.toNat) with ⟨H1, H3, H4⟩ | ⟨H1, H3⟩ <;> first | (exfalso; omega) | ((repeat' (first | rw [if_pos (by omega)] | rw [if_neg (by omega)])); all_goals (first | rfl | omega))⟩
              · refine zwW_p [(0, 0, 0), (24, 88, 0)] (q := 88) (ls' := [(2, 37), (0, a), (0, v3), (0, 1)]) (st' := [(0, 0)]) (by decide +kernel) rfl ?_
                refine zwW_ret (nx := 89) (a := 0) (b := 0) (by decide +kernel) rfl (Or.inl rfl) ?_
                exact ⟨Ih33, Rh33, by omega, by omega, by have H2 := yCm1_c (q := q) (S := yM h) (k := a.toNat); unfold yLikA yCho; rcases yCh0_c (S := yM h) (k := a.toNat) with ⟨H1, H3, H4⟩ | ⟨H1, H3⟩ <;> first | (exfalso; omega) | ((repeat' (first | rw [if_pos (by omega)] | rw [if_neg (by omega)])); all_goals (first | rfl | omega))⟩
            · refine zwW_p [(0, 1, 0)] (q := 74) (ls' := [(2, 37), (0, a), (0, v3), (0, 1)]) (st' := [(0, 1)]) (by decide +kernel) rfl ?_
              refine zwW_ret (nx := 75) (a := 0) (b := 0) (by decide +kernel) rfl (Or.inl rfl) ?_
              exact ⟨Ih33, Rh33, by omega, by omega, by have H2 := yCm1_c (q := q) (S := yM h) (k := a.toNat); unfold yLikA yCho; rcases yCh0_c (S := yM h) (k := a.toNat) with ⟨H1, H3, H4⟩ | ⟨H1, H3⟩ <;> first | (exfalso; omega) | ((repeat' (first | rw [if_pos (by omega)] | rw [if_neg (by omega)])); all_goals (first | rfl | omega))⟩
          · refine zwW_p [(0, 0, 0)] (q := 64) (ls' := [(2, 37), (0, a), (0, v3), (0, 1)]) (st' := [(0, 0)]) (by decide +kernel) rfl ?_
            refine zwW_ret (nx := 65) (a := 0) (b := 0) (by decide +kernel) rfl (Or.inl rfl) ?_
            exact ⟨Ih10, Rh10, by omega, by omega, by have H2 := yCm1_c (q := q) (S := yM h) (k := a.toNat); unfold yLikA yCho; rcases yCh0_c (S := yM h) (k := a.toNat) with ⟨H1, H3, H4⟩ | ⟨H1, H3⟩ <;> first | (exfalso; omega) | ((repeat' (first | rw [if_pos (by omega)] | rw [if_neg (by omega)])); all_goals (first | rfl | omega))⟩
    · exfalso; omega
  · refine zwif_ne (q := 10) (nx := 8) (by decide +kernel) (fun c39 => ?_) (fun c39 => ?_)
    · exfalso; omega
    · refine zwW_p [(0, -1, 0)] (q := 9) (ls' := [(2, 37), (0, a), (9, 0), (9, 0)]) (st' := [(0, -1)]) (by decide +kernel) rfl ?_
      refine zwW_ret (nx := 10) (a := 0) (b := 0) (by decide +kernel) rfl (Or.inl rfl) ?_
      exact ⟨I, R, by omega, by omega, by have H2 := yCm1_c (q := q) (S := yM h) (k := a.toNat); unfold yLikA yCho; rcases yCh0_c (S := yM h) (k := a.toNat) with ⟨H1, H3, H4⟩ | ⟨H1, H3⟩ <;> first | (exfalso; omega) | ((repeat' (first | rw [if_pos (by omega)] | rw [if_neg (by omega)])); all_goals (first | rfl | omega))⟩
-- WheelLandModel.buys(I)V
theorem m195_z {sc : List Int} (h : Hp) (I : zI h) (a : Int) (q : qT) (p1 : 0 ≤ a) (p2 : a ≤ 19) (pv : a < fld h 37 2) (V : mRq q h) (ok : yOK (yM h)) : zwC sc 7 195 [(2, 37), (0, a)] h (zwRv (fun g => zI g ∧ zMR ms195 h g ∧ (yM g = yByh q (yM h) a.toNat))) := by
  refine zwC_of (D := 6) 5 (by decide +kernel) rfl (ls := [(2, 37), (0, a), (9, 0), (9, 0), (9, 0)]) rfl ?_
  have R : zMR ms195 h h := zMR.rf _ _
  have u1 : yM h 37 1 = fld h 37 1 := rfl
  have u2 : yM h 37 2 = fld h 37 2 := rfl
  have KH := ok.ho (k := a.toNat) (by show _ < fld h 37 2; omega)
  have L0 : yLikA q (yM h) a = yCho (yM h) (yM h 79 a.toNat).toNat (yM h 84 a.toNat) (yDut q (yM h) (yM h 79 a.toNat).toNat) := if_pos ⟨by omega, by show _ < fld h 37 2; omega⟩
  refine zwW_p [(1, 0, 2)] (q := 1) (ls' := [(2, 37), (0, a), (9, 0), (9, 0), (9, 0)]) (st' := [(2, 37)]) (by decide +kernel) rfl ?_
  refine zwW_gc I (kd := 13) (bn := 20) (n := 97) (c := 79) (nx := 4) (by decide +kernel) ?_
  refine zwW_p [(1, 1, 0)] (q := 5) (ls' := [(2, 37), (0, a), (9, 0), (9, 0), (9, 0)]) (st' := [(0, a), (2, 79)]) (by decide +kernel) rfl ?_
  refine zwW_al I (a1 := 79) (a2 := 79) (kd := 20) (n := 20) (t := 0) (lo := 0) (hi := 7) (nx := 6) (by decide +kernel) ⟨by decide, by decide⟩ ⟨by omega, by omega⟩ ?_
  intro v1 ev1 lv1 uv1
  have sv1 : v1 = (yM h) 79 a.toNat := Eq.trans ev1 (Eq.trans (Eq.symm (yM_p (h := h) (a := 79) (n := 20) (i := a.toNat) rfl (by omega))) (Eq.trans (congrFun (congrFun (rfl : yM h = yM h) 79) a.toNat) rfl))
  refine zwW_p [(2, 2, 0), (1, 0, 2), (1, 1, 0)] (q := 9) (ls' := [(2, 37), (0, a), (0, v1), (9, 0), (9, 0)]) (st' := [(0, a), (2, 37)]) (by decide +kernel) rfl ?_
  refine zwW_cm I (op := 60) (k' := 62) (n := 1) (kd := 13) (m := 97) (nx := 12) (r := 37) (tl := [(0, a)]) (st' := []) (by decide +kernel) rfl (by decide +kernel) rfl (m62_z h I a q V (by rw [(rfl : yM h = yM h)]; exact ok)) ?_
  rintro v2 h6 ⟨Ih6, Qh6, f3, f4, f5⟩
  have Rh6 : zMR ms195 h h6 := R.tr Qh6 (by decide +kernel)
  have Vh6 : mRq q h6 := V.fr Qh6 (by decide +kernel)
  have th6_37_1 : fld h6 37 1 = fld h 37 1 := Qh6.f (a1 := 37) (a2 := 37) (j1 := 1) (j2 := 2) (by decide +kernel) ⟨by decide, by decide⟩ ⟨by decide, by decide⟩
  have th6_37_2 : fld h6 37 2 = fld h 37 2 := Qh6.f (a1 := 37) (a2 := 37) (j1 := 2) (j2 := 3) (by decide +kernel) ⟨by decide, by decide⟩ ⟨by decide, by decide⟩
  have sv2 : v2 = yLikA q (yM h) a := by rw [f5]
  have Zh6 : yM h6 = (yM h) := (yM_fr Qh6 (by decide +kernel) (I.b (a1 := 37) (a2 := 37) (j1 := 86) (j2 := 87) (lo := 0) (hi := 6) (by decide +kernel) (r := 37) (j := 86) (by decide) (by decide) (by decide) (by decide)).2).trans (rfl : yM h = yM h)
  refine zwW_p [(2, 3, 0), (1, 3, 0), (0, -1, 0)] (q := 15) (ls' := [(2, 37), (0, a), (0, v1), (0, v2), (9, 0)]) (st' := [(0, -1), (0, v2)]) (by decide +kernel) rfl ?_
  refine zwic_ne (q := 31) (nx := 18) (by decide +kernel) (fun c7 => ?_) (fun c7 => ?_)
  · refine zwW_p [(1, 3, 0)] (q := 32) (ls' := [(2, 37), (0, a), (0, v1), (0, v2), (9, 0)]) (st' := [(0, v2)]) (by decide +kernel) rfl ?_
    refine zwif_ne (q := 120) (nx := 35) (by decide +kernel) (fun c8 => ?_) (fun c8 => ?_)
    · refine zwW_p [(1, 0, 2), (1, 2, 0)] (q := 122) (ls' := [(2, 37), (0, a), (0, v1), (0, v2), (9, 0)]) (st' := [(0, v1), (2, 37)]) (by decide +kernel) rfl ?_
      refine zwW_cm Ih6 (op := 60) (k' := 155) (n := 1) (kd := 13) (m := 97) (nx := 125) (r := 37) (tl := [(0, v1)]) (st' := []) (by decide +kernel) rfl (by decide +kernel) rfl (m155_z h6 Ih6 v1 q (by omega) (by omega) (by omega) Vh6 (by rw [Zh6]; exact ok)) ?_
      rintro v9 h13 ⟨Ih13, Qh13, f10, f11, f12⟩
      have Rh13 : zMR ms195 h h13 := Rh6.tr Qh13 (by decide +kernel)
      have Vh13 : mRq q h13 := Vh6.fr Qh13 (by decide +kernel)
      have th13_37_1 : fld h13 37 1 = fld h6 37 1 := Qh13.f (a1 := 37) (a2 := 37) (j1 := 1) (j2 := 2) (by decide +kernel) ⟨by decide, by decide⟩ ⟨by decide, by decide⟩
      have th13_37_2 : fld h13 37 2 = fld h6 37 2 := Qh13.f (a1 := 37) (a2 := 37) (j1 := 2) (j2 := 3) (by decide +kernel) ⟨by decide, by decide⟩ ⟨by decide, by decide⟩
      have sv9 : v9 = yDut q (yM h) (((yM h) 79 a.toNat).toNat) := by rw [f12, Zh6, sv1]
      have Zh13 : yM h13 = (yM h) := (yM_fr Qh13 (by decide +kernel) (Ih6.b (a1 := 37) (a2 := 37) (j1 := 86) (j2 := 87) (lo := 0) (hi := 6) (by decide +kernel) (r := 37) (j := 86) (by decide) (by decide) (by decide) (by decide)).2).trans Zh6
      refine zwW_p [(2, 4, 0), (1, 0, 2)] (q := 128) (ls' := [(2, 37), (0, a), (0, v1), (0, v2), (0, v9)]) (st' := [(2, 37)]) (by decide +kernel) rfl ?_
      refine zwW_gc Ih13 (kd := 13) (bn := 25) (n := 97) (c := 84) (nx := 131) (by decide +kernel) ?_
      refine zwW_p [(1, 1, 0), (14, 0, 0)] (q := 133) (ls' := [(2, 37), (0, a), (0, v1), (0, v2), (0, v9)]) (st' := [(0, a), (2, 84), (0, a), (2, 84)]) (by decide +kernel) rfl ?_
      refine zwW_al Ih13 (a1 := 84) (a2 := 84) (kd := 20) (n := 20) (t := 0) (lo := -2147483648) (hi := 2147483647) (nx := 134) (by decide +kernel) ⟨by decide, by decide⟩ ⟨by omega, by omega⟩ ?_
      intro v14 ev14 lv14 uv14
      have sv14 : v14 = (yM h) 84 a.toNat := Eq.trans ev14 (Eq.trans (Eq.symm (yM_p (h := h13) (a := 84) (n := 20) (i := a.toNat) rfl (by omega))) (Eq.trans (congrFun (congrFun Zh13 84) a.toNat) rfl))
      refine zwW_p [(1, 0, 2)] (q := 135) (ls' := [(2, 37), (0, a), (0, v1), (0, v2), (0, v9)]) (st' := [(2, 37), (0, v14), (0, a), (2, 84)]) (by decide +kernel) rfl ?_
      refine zwW_gc Ih13 (kd := 13) (bn := 12) (n := 97) (c := 71) (nx := 138) (by decide +kernel) ?_
      refine zwW_p [(1, 2, 0)] (q := 139) (ls' := [(2, 37), (0, a), (0, v1), (0, v2), (0, v9)]) (st' := [(0, v1), (2, 71), (0, v14), (0, a), (2, 84)]) (by decide +kernel) rfl ?_
      refine zwW_al Ih13 (a1 := 71) (a2 := 71) (kd := 20) (n := 8) (t := 0) (lo := -2147483648) (hi := 2147483647) (nx := 140) (by decide +kernel) ⟨by decide, by decide⟩ ⟨by omega, by omega⟩ ?_
      intro v15 ev15 lv15 uv15
      have sv15 : v15 = (yM h) 71 (((yM h) 79 a.toNat).toNat) := Eq.trans ev15 (Eq.trans (Eq.symm (yM_p (h := h13) (a := 71) (n := 8) (i := v1.toNat) rfl (by omega))) (Eq.trans (congrArg (yM h13 71) (show v1.toNat = ((yM h) 79 a.toNat).toNat by rw [sv1])) (Eq.trans (congrFun (congrFun Zh13 71) (((yM h) 79 a.toNat).toNat)) rfl)))
      refine zwW_p [(1, 4, 0)] (q := 142) (ls' := [(2, 37), (0, a), (0, v1), (0, v2), (0, v9)]) (st' := [(0, v9), (0, v15), (0, v14), (0, a), (2, 84)]) (by decide +kernel) rfl ?_
      refine zwW_adw (nx := 143) (by decide +kernel) ?_
      intro v16 ev16 lv16 uv16
      have Ev16 : v16 = w32 (((yM h) 71 (((yM h) 79 a.toNat).toNat)) + (yDut q (yM h) (((yM h) 79 a.toNat).toNat))) := by rw [ev16, sv15, sv9]
      refine zwW_sbw (nx := 144) (by decide +kernel) ?_
      intro v17 ev17 lv17 uv17
      have Ev17 : v17 = w32 (((yM h) 84 a.toNat) - (w32 (((yM h) 71 (((yM h) 79 a.toNat).toNat)) + (yDut q (yM h) (((yM h) 79 a.toNat).toNat))))) := by rw [ev17, sv14, Ev16]
      refine zwW_as Ih13 (a1 := 84) (a2 := 84) (n := 20) (lo := -2147483648) (hi := 2147483647) (nx := 145) (by decide +kernel) ⟨by decide, by decide⟩ ⟨by omega, by omega⟩ ⟨by omega, by omega⟩ ?_
      intro h18 eh18 Ih18
      have th18_37_1 : fld h18 37 1 = fld h13 37 1 := by rw [eh18]; exact fld_wr (by omega)
      have th18_37_2 : fld h18 37 2 = fld h13 37 2 := by rw [eh18]; exact fld_wr (by omega)
      have Vh18 : mRq q h18 := Vh13.fr (zMR.one (a1 := 84) (a2 := 84) (j1 := 0) (j2 := 20) ⟨by decide, by decide⟩ ⟨by omega, by omega⟩ eh18) (by decide +kernel)
      have Zh18 : yM h18 = (zs (yM h) 84 a.toNat (w32 (((yM h) 84 a.toNat) - (w32 (((yM h) 71 (((yM h) 79 a.toNat).toNat)) + (yDut q (yM h) (((yM h) 79 a.toNat).toNat))))))) := by rw [yM_w (a := 84) (n := 20) (i := a.toNat) (kd := 20) rfl (Ih13.s (a1 := 84) (a2 := 84) (by decide +kernel) (by decide) (by decide)) (by omega) eh18, Zh13, Ev17]
      have Rh18 : zMR ms195 h h18 := Rh13.w (a1 := 84) (a2 := 84) (j1 := 0) (j2 := 20) (by decide +kernel) ⟨by decide, by decide⟩ ⟨by omega, by omega⟩ eh18
      refine zwW_p [(1, 0, 2)] (q := 146) (ls' := [(2, 37), (0, a), (0, v1), (0, v2), (0, v9)]) (st' := [(2, 37)]) (by decide +kernel) rfl ?_
      refine zwW_gc Ih18 (kd := 13) (bn := 14) (n := 97) (c := 73) (nx := 149) (by decide +kernel) ?_
      refine zwW_p [(1, 2, 0), (14, 0, 0)] (q := 151) (ls' := [(2, 37), (0, a), (0, v1), (0, v2), (0, v9)]) (st' := [(0, v1), (2, 73), (0, v1), (2, 73)]) (by decide +kernel) rfl ?_
      refine zwW_al Ih18 (a1 := 73) (a2 := 73) (kd := 20) (n := 8) (t := 0) (lo := -2147483648) (hi := 2147483647) (nx := 152) (by decide +kernel) ⟨by decide, by decide⟩ ⟨by omega, by omega⟩ ?_
      intro v19 ev19 lv19 uv19
      have sv19 : v19 = (yM h) 73 (((yM h) 79 a.toNat).toNat) := Eq.trans ev19 (Eq.trans (Eq.symm (yM_p (h := h18) (a := 73) (n := 8) (i := v1.toNat) rfl (by omega))) (Eq.trans (congrArg (yM h18 73) (show v1.toNat = ((yM h) 79 a.toNat).toNat by rw [sv1])) (Eq.trans (congrFun (congrFun Zh18 73) (((yM h) 79 a.toNat).toNat)) (Eq.trans (zs_na (by decide) : (zs (yM h) 84 a.toNat (w32 (((yM h) 84 a.toNat) - (w32 (((yM h) 71 (((yM h) 79 a.toNat).toNat)) + (yDut q (yM h) (((yM h) 79 a.toNat).toNat))))))) 73 (((yM h) 79 a.toNat).toNat) = (yM h) 73 (((yM h) 79 a.toNat).toNat)) rfl))))
      refine zwW_p [(1, 0, 2)] (q := 153) (ls' := [(2, 37), (0, a), (0, v1), (0, v2), (0, v9)]) (st' := [(2, 37), (0, v19), (0, v1), (2, 73)]) (by decide +kernel) rfl ?_
      refine zwW_gc Ih18 (kd := 13) (bn := 12) (n := 97) (c := 71) (nx := 156) (by decide +kernel) ?_
      refine zwW_p [(1, 2, 0)] (q := 157) (ls' := [(2, 37), (0, a), (0, v1), (0, v2), (0, v9)]) (st' := [(0, v1), (2, 71), (0, v19), (0, v1), (2, 73)]) (by decide +kernel) rfl ?_
      refine zwW_al Ih18 (a1 := 71) (a2 := 71) (kd := 20) (n := 8) (t := 0) (lo := -2147483648) (hi := 2147483647) (nx := 158) (by decide +kernel) ⟨by decide, by decide⟩ ⟨by omega, by omega⟩ ?_
      intro v20 ev20 lv20 uv20
      have sv20 : v20 = (yM h) 71 (((yM h) 79 a.toNat).toNat) := Eq.trans ev20 (Eq.trans (Eq.symm (yM_p (h := h18) (a := 71) (n := 8) (i := v1.toNat) rfl (by omega))) (Eq.trans (congrArg (yM h18 71) (show v1.toNat = ((yM h) 79 a.toNat).toNat by rw [sv1])) (Eq.trans (congrFun (congrFun Zh18 71) (((yM h) 79 a.toNat).toNat)) (Eq.trans (zs_na (by decide) : (zs (yM h) 84 a.toNat (w32 (((yM h) 84 a.toNat) - (w32 (((yM h) 71 (((yM h) 79 a.toNat).toNat)) + (yDut q (yM h) (((yM h) 79 a.toNat).toNat))))))) 71 (((yM h) 79 a.toNat).toNat) = (yM h) 71 (((yM h) 79 a.toNat).toNat)) rfl))))
      refine zwW_adw (nx := 159) (by decide +kernel) ?_
      intro v21 ev21 lv21 uv21
      have Ev21 : v21 = w32 (((yM h) 73 (((yM h) 79 a.toNat).toNat)) + ((yM h) 71 (((yM h) 79 a.toNat).toNat))) := by rw [ev21, sv19, sv20]
      refine zwW_as Ih18 (a1 := 73) (a2 := 73) (n := 8) (lo := -2147483648) (hi := 2147483647) (nx := 160) (by decide +kernel) ⟨by decide, by decide⟩ ⟨by omega, by omega⟩ ⟨by omega, by omega⟩ ?_
      intro h22 eh22 Ih22
      have th22_37_1 : fld h22 37 1 = fld h18 37 1 := by rw [eh22]; exact fld_wr (by omega)
      have th22_37_2 : fld h22 37 2 = fld h18 37 2 := by rw [eh22]; exact fld_wr (by omega)
      have Vh22 : mRq q h22 := Vh18.fr (zMR.one (a1 := 73) (a2 := 73) (j1 := 0) (j2 := 8) ⟨by decide, by decide⟩ ⟨by omega, by omega⟩ eh22) (by decide +kernel)
      have Uh22 : yM h22 = (zs (zs (yM h) 84 a.toNat (w32 (((yM h) 84 a.toNat) - (w32 (((yM h) 71 (((yM h) 79 a.toNat).toNat)) + (yDut q (yM h) (((yM h) 79 a.toNat).toNat))))))) 73 (((yM h) 79 a.toNat).toNat) (w32 (((yM h) 73 (((yM h) 79 a.toNat).toNat)) + ((yM h) 71 (((yM h) 79 a.toNat).toNat))))) := by rw [yM_w (a := 73) (n := 8) (i := v1.toNat) (kd := 20) rfl (Ih18.s (a1 := 73) (a2 := 73) (by decide +kernel) (by decide) (by decide)) (by omega) eh22, Zh18, Ev21, sv1]
      have Zh22 : yM h22 = (zs (zs (yM h) 73 (((yM h) 79 a.toNat).toNat) (w32 (((yM h) 73 (((yM h) 79 a.toNat).toNat)) + ((yM h) 71 (((yM h) 79 a.toNat).toNat))))) 84 a.toNat (w32 (((yM h) 84 a.toNat) - (w32 (((yM h) 71 (((yM h) 79 a.toNat).toNat)) + (yDut q (yM h) (((yM h) 79 a.toNat).toNat))))))) := by rw [Uh22, zs_sw (a := 84) (b := 73) (by decide)]
      have Rh22 : zMR ms195 h h22 := Rh18.w (a1 := 73) (a2 := 73) (j1 := 0) (j2 := 8) (by decide +kernel) ⟨by decide, by decide⟩ ⟨by omega, by omega⟩ eh22
      refine zwW_p [(1, 0, 2), (12, 0, 0)] (q := 162) (ls' := [(2, 37), (0, a), (0, v1), (0, v2), (0, v9)]) (st' := [(2, 37), (2, 37)]) (by decide +kernel) rfl ?_
      refine zwW_gs Ih22 (kd := 13) (bn := 38) (n := 97) (t := 0) (lo := -2147483648) (hi := 2147483647) (nx := 165) (by decide +kernel) ?_
      intro v23 ev23 lv23 uv23
      have sv23 : v23 = (yM h) 37 38 := Eq.trans ev23 (Eq.trans (Eq.symm (yM_s (h := h22) (i := 38) rfl)) (Eq.trans (congrFun (congrFun Zh22 37) 38) (Eq.trans (zs_na (by decide) : (zs (zs (yM h) 73 (((yM h) 79 a.toNat).toNat) (w32 (((yM h) 73 (((yM h) 79 a.toNat).toNat)) + ((yM h) 71 (((yM h) 79 a.toNat).toNat))))) 84 a.toNat (w32 (((yM h) 84 a.toNat) - (w32 (((yM h) 71 (((yM h) 79 a.toNat).toNat)) + (yDut q (yM h) (((yM h) 79 a.toNat).toNat))))))) 37 38 = (zs (yM h) 73 (((yM h) 79 a.toNat).toNat) (w32 (((yM h) 73 (((yM h) 79 a.toNat).toNat)) + ((yM h) 71 (((yM h) 79 a.toNat).toNat))))) 37 38) (Eq.trans (zs_na (by decide) : (zs (yM h) 73 (((yM h) 79 a.toNat).toNat) (w32 (((yM h) 73 (((yM h) 79 a.toNat).toNat)) + ((yM h) 71 (((yM h) 79 a.toNat).toNat))))) 37 38 = (yM h) 37 38) rfl))))
      refine zwW_p [(1, 4, 0)] (q := 167) (ls' := [(2, 37), (0, a), (0, v1), (0, v2), (0, v9)]) (st' := [(0, v9), (0, v23), (2, 37)]) (by decide +kernel) rfl ?_
      refine zwW_adw (nx := 168) (by decide +kernel) ?_
      intro v24 ev24 lv24 uv24
      have Ev24 : v24 = w32 (((yM h) 37 38) + (yDut q (yM h) (((yM h) 79 a.toNat).toNat))) := by rw [ev24, sv23, sv9]
      refine zwW_ps Ih22 (kd := 13) (bn := 38) (n := 97) (lo := -2147483648) (hi := 2147483647) (nx := 171) (by decide +kernel) ⟨by omega, by omega⟩ ?_
      intro h25 eh25 Ih25
      have th25_37_1 : fld h25 37 1 = fld h22 37 1 := by rw [eh25]; exact fld_wr (by decide)
      have th25_37_2 : fld h25 37 2 = fld h22 37 2 := by rw [eh25]; exact fld_wr (by decide)
      have Vh25 : mRq q h25 := Vh22.fr (zMR.one (a1 := 37) (a2 := 37) (j1 := 38) (j2 := 39) ⟨by decide, by decide⟩ ⟨by decide, by decide⟩ eh25) (by decide +kernel)
      have Zh25 : yM h25 = (zs (zs (zs (yM h) 73 (((yM h) 79 a.toNat).toNat) (w32 (((yM h) 73 (((yM h) 79 a.toNat).toNat)) + ((yM h) 71 (((yM h) 79 a.toNat).toNat))))) 84 a.toNat (w32 (((yM h) 84 a.toNat) - (w32 (((yM h) 71 (((yM h) 79 a.toNat).toNat)) + (yDut q (yM h) (((yM h) 79 a.toNat).toNat))))))) 37 38 (w32 (((yM h) 37 38) + (yDut q (yM h) (((yM h) 79 a.toNat).toNat))))) := by rw [yM_ws (i := 38) (kd := 13) (n := 97) rfl (Ih22.s (a1 := 37) (a2 := 37) (by decide +kernel) (by decide) (by decide)) (by decide) eh25, Zh22, Ev24]
      have Rh25 : zMR ms195 h h25 := Rh22.w (a1 := 37) (a2 := 37) (j1 := 38) (j2 := 39) (by decide +kernel) ⟨by decide, by decide⟩ ⟨by decide, by decide⟩ eh25
      refine zwW_p [(1, 0, 2)] (q := 172) (ls' := [(2, 37), (0, a), (0, v1), (0, v2), (0, v9)]) (st' := [(2, 37)]) (by decide +kernel) rfl ?_
      refine zwW_gc Ih25 (kd := 13) (bn := 29) (n := 97) (c := 88) (nx := 175) (by decide +kernel) ?_
      refine zwW_p [(1, 1, 0), (14, 0, 0)] (q := 177) (ls' := [(2, 37), (0, a), (0, v1), (0, v2), (0, v9)]) (st' := [(0, a), (2, 88), (0, a), (2, 88)]) (by decide +kernel) rfl ?_
      refine zwW_al Ih25 (a1 := 88) (a2 := 88) (kd := 20) (n := 20) (t := 0) (lo := -2147483648) (hi := 2147483647) (nx := 178) (by decide +kernel) ⟨by decide, by decide⟩ ⟨by omega, by omega⟩ ?_
      intro v26 ev26 lv26 uv26
      have sv26 : v26 = (yM h) 88 a.toNat := Eq.trans ev26 (Eq.trans (Eq.symm (yM_p (h := h25) (a := 88) (n := 20) (i := a.toNat) rfl (by omega))) (Eq.trans (congrFun (congrFun Zh25 88) a.toNat) (Eq.trans (zs_na (by decide) : (zs (zs (zs (yM h) 73 (((yM h) 79 a.toNat).toNat) (w32 (((yM h) 73 (((yM h) 79 a.toNat).toNat)) + ((yM h) 71 (((yM h) 79 a.toNat).toNat))))) 84 a.toNat (w32 (((yM h) 84 a.toNat) - (w32 (((yM h) 71 (((yM h) 79 a.toNat).toNat)) + (yDut q (yM h) (((yM h) 79 a.toNat).toNat))))))) 37 38 (w32 (((yM h) 37 38) + (yDut q (yM h) (((yM h) 79 a.toNat).toNat))))) 88 a.toNat = (zs (zs (yM h) 73 (((yM h) 79 a.toNat).toNat) (w32 (((yM h) 73 (((yM h) 79 a.toNat).toNat)) + ((yM h) 71 (((yM h) 79 a.toNat).toNat))))) 84 a.toNat (w32 (((yM h) 84 a.toNat) - (w32 (((yM h) 71 (((yM h) 79 a.toNat).toNat)) + (yDut q (yM h) (((yM h) 79 a.toNat).toNat))))))) 88 a.toNat) (Eq.trans (zs_na (by decide) : (zs (zs (yM h) 73 (((yM h) 79 a.toNat).toNat) (w32 (((yM h) 73 (((yM h) 79 a.toNat).toNat)) + ((yM h) 71 (((yM h) 79 a.toNat).toNat))))) 84 a.toNat (w32 (((yM h) 84 a.toNat) - (w32 (((yM h) 71 (((yM h) 79 a.toNat).toNat)) + (yDut q (yM h) (((yM h) 79 a.toNat).toNat))))))) 88 a.toNat = (zs (yM h) 73 (((yM h) 79 a.toNat).toNat) (w32 (((yM h) 73 (((yM h) 79 a.toNat).toNat)) + ((yM h) 71 (((yM h) 79 a.toNat).toNat))))) 88 a.toNat) (Eq.trans (zs_na (by decide) : (zs (yM h) 73 (((yM h) 79 a.toNat).toNat) (w32 (((yM h) 73 (((yM h) 79 a.toNat).toNat)) + ((yM h) 71 (((yM h) 79 a.toNat).toNat))))) 88 a.toNat = (yM h) 88 a.toNat) rfl)))))
      refine zwW_p [(0, 1, 0)] (q := 179) (ls' := [(2, 37), (0, a), (0, v1), (0, v2), (0, v9)]) (st' := [(0, 1), (0, v26), (0, a), (2, 88)]) (by decide +kernel) rfl ?_
      refine zwW_adw (nx := 180) (by decide +kernel) ?_
      intro v27 ev27 lv27 uv27
      have Ev27 : v27 = w32 (((yM h) 88 a.toNat) + 1) := by rw [ev27, sv26]
      refine zwW_as Ih25 (a1 := 88) (a2 := 88) (n := 20) (lo := -2147483648) (hi := 2147483647) (nx := 181) (by decide +kernel) ⟨by decide, by decide⟩ ⟨by omega, by omega⟩ ⟨by omega, by omega⟩ ?_
      intro h28 eh28 Ih28
      have th28_37_1 : fld h28 37 1 = fld h25 37 1 := by rw [eh28]; exact fld_wr (by omega)
      have th28_37_2 : fld h28 37 2 = fld h25 37 2 := by rw [eh28]; exact fld_wr (by omega)
      have Vh28 : mRq q h28 := Vh25.fr (zMR.one (a1 := 88) (a2 := 88) (j1 := 0) (j2 := 20) ⟨by decide, by decide⟩ ⟨by omega, by omega⟩ eh28) (by decide +kernel)
      have Uh28 : yM h28 = (zs (zs (zs (zs (yM h) 73 (((yM h) 79 a.toNat).toNat) (w32 (((yM h) 73 (((yM h) 79 a.toNat).toNat)) + ((yM h) 71 (((yM h) 79 a.toNat).toNat))))) 84 a.toNat (w32 (((yM h) 84 a.toNat) - (w32 (((yM h) 71 (((yM h) 79 a.toNat).toNat)) + (yDut q (yM h) (((yM h) 79 a.toNat).toNat))))))) 37 38 (w32 (((yM h) 37 38) + (yDut q (yM h) (((yM h) 79 a.toNat).toNat))))) 88 a.toNat (w32 (((yM h) 88 a.toNat) + 1))) := by rw [yM_w (a := 88) (n := 20) (i := a.toNat) (kd := 20) rfl (Ih25.s (a1 := 88) (a2 := 88) (by decide +kernel) (by decide) (by decide)) (by omega) eh28, Zh25, Ev27]
      have Zh28 : yM h28 = (zs (zs (zs (zs (yM h) 73 (((yM h) 79 a.toNat).toNat) (w32 (((yM h) 73 (((yM h) 79 a.toNat).toNat)) + ((yM h) 71 (((yM h) 79 a.toNat).toNat))))) 84 a.toNat (w32 (((yM h) 84 a.toNat) - (w32 (((yM h) 71 (((yM h) 79 a.toNat).toNat)) + (yDut q (yM h) (((yM h) 79 a.toNat).toNat))))))) 88 a.toNat (w32 (((yM h) 88 a.toNat) + 1))) 37 38 (w32 (((yM h) 37 38) + (yDut q (yM h) (((yM h) 79 a.toNat).toNat))))) := by rw [Uh28, zs_sw (a := 37) (b := 88) (by decide)]
      have Rh28 : zMR ms195 h h28 := Rh25.w (a1 := 88) (a2 := 88) (j1 := 0) (j2 := 20) (by decide +kernel) ⟨by decide, by decide⟩ ⟨by omega, by omega⟩ eh28
      refine zwW_p [(1, 0, 2)] (q := 182) (ls' := [(2, 37), (0, a), (0, v1), (0, v2), (0, v9)]) (st' := [(2, 37)]) (by decide +kernel) rfl ?_
      refine zwW_gc Ih28 (kd := 13) (bn := 10) (n := 97) (c := 69) (nx := 185) (by decide +kernel) ?_
      refine zwW_p [(1, 2, 0), (14, 0, 0)] (q := 187) (ls' := [(2, 37), (0, a), (0, v1), (0, v2), (0, v9)]) (st' := [(0, v1), (2, 69), (0, v1), (2, 69)]) (by decide +kernel) rfl ?_
      refine zwW_al Ih28 (a1 := 69) (a2 := 69) (kd := 20) (n := 8) (t := 0) (lo := -2147483648) (hi := 2147483647) (nx := 188) (by decide +kernel) ⟨by decide, by decide⟩ ⟨by omega, by omega⟩ ?_
      intro v29 ev29 lv29 uv29
      have sv29 : v29 = (yM h) 69 (((yM h) 79 a.toNat).toNat) := Eq.trans ev29 (Eq.trans (Eq.symm (yM_p (h := h28) (a := 69) (n := 8) (i := v1.toNat) rfl (by omega))) (Eq.trans (congrArg (yM h28 69) (show v1.toNat = ((yM h) 79 a.toNat).toNat by rw [sv1])) (Eq.trans (congrFun (congrFun Zh28 69) (((yM h) 79 a.toNat).toNat)) (Eq.trans (zs_na (by decide) : (zs (zs (zs (zs (yM h) 73 (((yM h) 79 a.toNat).toNat) (w32 (((yM h) 73 (((yM h) 79 a.toNat).toNat)) + ((yM h) 71 (((yM h) 79 a.toNat).toNat))))) 84 a.toNat (w32 (((yM h) 84 a.toNat) - (w32 (((yM h) 71 (((yM h) 79 a.toNat).toNat)) + (yDut q (yM h) (((yM h) 79 a.toNat).toNat))))))) 88 a.toNat (w32 (((yM h) 88 a.toNat) + 1))) 37 38 (w32 (((yM h) 37 38) + (yDut q (yM h) (((yM h) 79 a.toNat).toNat))))) 69 (((yM h) 79 a.toNat).toNat) = (zs (zs (zs (yM h) 73 (((yM h) 79 a.toNat).toNat) (w32 (((yM h) 73 (((yM h) 79 a.toNat).toNat)) + ((yM h) 71 (((yM h) 79 a.toNat).toNat))))) 84 a.toNat (w32 (((yM h) 84 a.toNat) - (w32 (((yM h) 71 (((yM h) 79 a.toNat).toNat)) + (yDut q (yM h) (((yM h) 79 a.toNat).toNat))))))) 88 a.toNat (w32 (((yM h) 88 a.toNat) + 1))) 69 (((yM h) 79 a.toNat).toNat)) (Eq.trans (zs_na (by decide) : (zs (zs (zs (yM h) 73 (((yM h) 79 a.toNat).toNat) (w32 (((yM h) 73 (((yM h) 79 a.toNat).toNat)) + ((yM h) 71 (((yM h) 79 a.toNat).toNat))))) 84 a.toNat (w32 (((yM h) 84 a.toNat) - (w32 (((yM h) 71 (((yM h) 79 a.toNat).toNat)) + (yDut q (yM h) (((yM h) 79 a.toNat).toNat))))))) 88 a.toNat (w32 (((yM h) 88 a.toNat) + 1))) 69 (((yM h) 79 a.toNat).toNat) = (zs (zs (yM h) 73 (((yM h) 79 a.toNat).toNat) (w32 (((yM h) 73 (((yM h) 79 a.toNat).toNat)) + ((yM h) 71 (((yM h) 79 a.toNat).toNat))))) 84 a.toNat (w32 (((yM h) 84 a.toNat) - (w32 (((yM h) 71 (((yM h) 79 a.toNat).toNat)) + (yDut q (yM h) (((yM h) 79 a.toNat).toNat))))))) 69 (((yM h) 79 a.toNat).toNat)) (Eq.trans (zs_na (by decide) : (zs (zs (yM h) 73 (((yM h) 79 a.toNat).toNat) (w32 (((yM h) 73 (((yM h) 79 a.toNat).toNat)) + ((yM h) 71 (((yM h) 79 a.toNat).toNat))))) 84 a.toNat (w32 (((yM h) 84 a.toNat) - (w32 (((yM h) 71 (((yM h) 79 a.toNat).toNat)) + (yDut q (yM h) (((yM h) 79 a.toNat).toNat))))))) 69 (((yM h) 79 a.toNat).toNat) = (zs (yM h) 73 (((yM h) 79 a.toNat).toNat) (w32 (((yM h) 73 (((yM h) 79 a.toNat).toNat)) + ((yM h) 71 (((yM h) 79 a.toNat).toNat))))) 69 (((yM h) 79 a.toNat).toNat)) (Eq.trans (zs_na (by decide) : (zs (yM h) 73 (((yM h) 79 a.toNat).toNat) (w32 (((yM h) 73 (((yM h) 79 a.toNat).toNat)) + ((yM h) 71 (((yM h) 79 a.toNat).toNat))))) 69 (((yM h) 79 a.toNat).toNat) = (yM h) 69 (((yM h) 79 a.toNat).toNat)) rfl)))))))
      refine zwW_p [(0, 1, 0)] (q := 189) (ls' := [(2, 37), (0, a), (0, v1), (0, v2), (0, v9)]) (st' := [(0, 1), (0, v29), (0, v1), (2, 69)]) (by decide +kernel) rfl ?_
      refine zwW_sbw (nx := 190) (by decide +kernel) ?_
      intro v30 ev30 lv30 uv30
      have Ev30 : v30 = w32 (((yM h) 69 (((yM h) 79 a.toNat).toNat)) - 1) := by rw [ev30, sv29]
      refine zwW_as Ih28 (a1 := 69) (a2 := 69) (n := 8) (lo := -2147483648) (hi := 2147483647) (nx := 191) (by decide +kernel) ⟨by decide, by decide⟩ ⟨by omega, by omega⟩ ⟨by omega, by omega⟩ ?_
      intro h31 eh31 Ih31
      have th31_37_1 : fld h31 37 1 = fld h28 37 1 := by rw [eh31]; exact fld_wr (by omega)
      have th31_37_2 : fld h31 37 2 = fld h28 37 2 := by rw [eh31]; exact fld_wr (by omega)
      have Vh31 : mRq q h31 := Vh28.fr (zMR.one (a1 := 69) (a2 := 69) (j1 := 0) (j2 := 8) ⟨by decide, by decide⟩ ⟨by omega, by omega⟩ eh31) (by decide +kernel)
      have Uh31 : yM h31 = (zs (zs (zs (zs (zs (yM h) 73 (((yM h) 79 a.toNat).toNat) (w32 (((yM h) 73 (((yM h) 79 a.toNat).toNat)) + ((yM h) 71 (((yM h) 79 a.toNat).toNat))))) 84 a.toNat (w32 (((yM h) 84 a.toNat) - (w32 (((yM h) 71 (((yM h) 79 a.toNat).toNat)) + (yDut q (yM h) (((yM h) 79 a.toNat).toNat))))))) 88 a.toNat (w32 (((yM h) 88 a.toNat) + 1))) 37 38 (w32 (((yM h) 37 38) + (yDut q (yM h) (((yM h) 79 a.toNat).toNat))))) 69 (((yM h) 79 a.toNat).toNat) (w32 (((yM h) 69 (((yM h) 79 a.toNat).toNat)) - 1))) := by rw [yM_w (a := 69) (n := 8) (i := v1.toNat) (kd := 20) rfl (Ih28.s (a1 := 69) (a2 := 69) (by decide +kernel) (by decide) (by decide)) (by omega) eh31, Zh28, Ev30, sv1]
      have Zh31 : yM h31 = (zs (zs (zs (zs (zs (yM h) 69 (((yM h) 79 a.toNat).toNat) (w32 (((yM h) 69 (((yM h) 79 a.toNat).toNat)) - 1))) 73 (((yM h) 79 a.toNat).toNat) (w32 (((yM h) 73 (((yM h) 79 a.toNat).toNat)) + ((yM h) 71 (((yM h) 79 a.toNat).toNat))))) 84 a.toNat (w32 (((yM h) 84 a.toNat) - (w32 (((yM h) 71 (((yM h) 79 a.toNat).toNat)) + (yDut q (yM h) (((yM h) 79 a.toNat).toNat))))))) 88 a.toNat (w32 (((yM h) 88 a.toNat) + 1))) 37 38 (w32 (((yM h) 37 38) + (yDut q (yM h) (((yM h) 79 a.toNat).toNat))))) := by rw [Uh31, zs_sw (a := 37) (b := 69) (by decide), zs_sw (a := 88) (b := 69) (by decide), zs_sw (a := 84) (b := 69) (by decide), zs_sw (a := 73) (b := 69) (by decide)]
      have Rh31 : zMR ms195 h h31 := Rh28.w (a1 := 69) (a2 := 69) (j1 := 0) (j2 := 8) (by decide +kernel) ⟨by decide, by decide⟩ ⟨by omega, by omega⟩ eh31
      refine zwW_p [(1, 0, 2)] (q := 192) (ls' := [(2, 37), (0, a), (0, v1), (0, v2), (0, v9)]) (st' := [(2, 37)]) (by decide +kernel) rfl ?_
      refine zwW_gc Ih31 (kd := 13) (bn := 18) (n := 97) (c := 77) (nx := 195) (by decide +kernel) ?_
      refine zwW_p [(1, 2, 0), (14, 0, 0)] (q := 197) (ls' := [(2, 37), (0, a), (0, v1), (0, v2), (0, v9)]) (st' := [(0, v1), (2, 77), (0, v1), (2, 77)]) (by decide +kernel) rfl ?_
      refine zwW_al Ih31 (a1 := 77) (a2 := 77) (kd := 20) (n := 8) (t := 0) (lo := -2147483648) (hi := 2147483647) (nx := 198) (by decide +kernel) ⟨by decide, by decide⟩ ⟨by omega, by omega⟩ ?_
      intro v32 ev32 lv32 uv32
      have sv32 : v32 = (yM h) 77 (((yM h) 79 a.toNat).toNat) := Eq.trans ev32 (Eq.trans (Eq.symm (yM_p (h := h31) (a := 77) (n := 8) (i := v1.toNat) rfl (by omega))) (Eq.trans (congrArg (yM h31 77) (show v1.toNat = ((yM h) 79 a.toNat).toNat by rw [sv1])) (Eq.trans (congrFun (congrFun Zh31 77) (((yM h) 79 a.toNat).toNat)) (Eq.trans (zs_na (by decide) : (zs (zs (zs (zs (zs (yM h) 69 (((yM h) 79 a.toNat).toNat) (w32 (((yM h) 69 (((yM h) 79 a.toNat).toNat)) - 1))) 73 (((yM h) 79 a.toNat).toNat) (w32 (((yM h) 73 (((yM h) 79 a.toNat).toNat)) + ((yM h) 71 (((yM h) 79 a.toNat).toNat))))) 84 a.toNat (w32 (((yM h) 84 a.toNat) - (w32 (((yM h) 71 (((yM h) 79 a.toNat).toNat)) + (yDut q (yM h) (((yM h) 79 a.toNat).toNat))))))) 88 a.toNat (w32 (((yM h) 88 a.toNat) + 1))) 37 38 (w32 (((yM h) 37 38) + (yDut q (yM h) (((yM h) 79 a.toNat).toNat))))) 77 (((yM h) 79 a.toNat).toNat) = (zs (zs (zs (zs (yM h) 69 (((yM h) 79 a.toNat).toNat) (w32 (((yM h) 69 (((yM h) 79 a.toNat).toNat)) - 1))) 73 (((yM h) 79 a.toNat).toNat) (w32 (((yM h) 73 (((yM h) 79 a.toNat).toNat)) + ((yM h) 71 (((yM h) 79 a.toNat).toNat))))) 84 a.toNat (w32 (((yM h) 84 a.toNat) - (w32 (((yM h) 71 (((yM h) 79 a.toNat).toNat)) + (yDut q (yM h) (((yM h) 79 a.toNat).toNat))))))) 88 a.toNat (w32 (((yM h) 88 a.toNat) + 1))) 77 (((yM h) 79 a.toNat).toNat)) (Eq.trans (zs_na (by decide) : (zs (zs (zs (zs (yM h) 69 (((yM h) 79 a.toNat).toNat) (w32 (((yM h) 69 (((yM h) 79 a.toNat).toNat)) - 1))) 73 (((yM h) 79 a.toNat).toNat) (w32 (((yM h) 73 (((yM h) 79 a.toNat).toNat)) + ((yM h) 71 (((yM h) 79 a.toNat).toNat))))) 84 a.toNat (w32 (((yM h) 84 a.toNat) - (w32 (((yM h) 71 (((yM h) 79 a.toNat).toNat)) + (yDut q (yM h) (((yM h) 79 a.toNat).toNat))))))) 88 a.toNat (w32 (((yM h) 88 a.toNat) + 1))) 77 (((yM h) 79 a.toNat).toNat) = (zs (zs (zs (yM h) 69 (((yM h) 79 a.toNat).toNat) (w32 (((yM h) 69 (((yM h) 79 a.toNat).toNat)) - 1))) 73 (((yM h) 79 a.toNat).toNat) (w32 (((yM h) 73 (((yM h) 79 a.toNat).toNat)) + ((yM h) 71 (((yM h) 79 a.toNat).toNat))))) 84 a.toNat (w32 (((yM h) 84 a.toNat) - (w32 (((yM h) 71 (((yM h) 79 a.toNat).toNat)) + (yDut q (yM h) (((yM h) 79 a.toNat).toNat))))))) 77 (((yM h) 79 a.toNat).toNat)) (Eq.trans (zs_na (by decide) : (zs (zs (zs (yM h) 69 (((yM h) 79 a.toNat).toNat) (w32 (((yM h) 69 (((yM h) 79 a.toNat).toNat)) - 1))) 73 (((yM h) 79 a.toNat).toNat) (w32 (((yM h) 73 (((yM h) 79 a.toNat).toNat)) + ((yM h) 71 (((yM h) 79 a.toNat).toNat))))) 84 a.toNat (w32 (((yM h) 84 a.toNat) - (w32 (((yM h) 71 (((yM h) 79 a.toNat).toNat)) + (yDut q (yM h) (((yM h) 79 a.toNat).toNat))))))) 77 (((yM h) 79 a.toNat).toNat) = (zs (zs (yM h) 69 (((yM h) 79 a.toNat).toNat) (w32 (((yM h) 69 (((yM h) 79 a.toNat).toNat)) - 1))) 73 (((yM h) 79 a.toNat).toNat) (w32 (((yM h) 73 (((yM h) 79 a.toNat).toNat)) + ((yM h) 71 (((yM h) 79 a.toNat).toNat))))) 77 (((yM h) 79 a.toNat).toNat)) (Eq.trans (zs_na (by decide) : (zs (zs (yM h) 69 (((yM h) 79 a.toNat).toNat) (w32 (((yM h) 69 (((yM h) 79 a.toNat).toNat)) - 1))) 73 (((yM h) 79 a.toNat).toNat) (w32 (((yM h) 73 (((yM h) 79 a.toNat).toNat)) + ((yM h) 71 (((yM h) 79 a.toNat).toNat))))) 77 (((yM h) 79 a.toNat).toNat) = (zs (yM h) 69 (((yM h) 79 a.toNat).toNat) (w32 (((yM h) 69 (((yM h) 79 a.toNat).toNat)) - 1))) 77 (((yM h) 79 a.toNat).toNat)) (Eq.trans (zs_na (by decide) : (zs (yM h) 69 (((yM h) 79 a.toNat).toNat) (w32 (((yM h) 69 (((yM h) 79 a.toNat).toNat)) - 1))) 77 (((yM h) 79 a.toNat).toNat) = (yM h) 77 (((yM h) 79 a.toNat).toNat)) rfl))))))))
      refine zwW_p [(0, 1, 0)] (q := 199) (ls' := [(2, 37), (0, a), (0, v1), (0, v2), (0, v9)]) (st' := [(0, 1), (0, v32), (0, v1), (2, 77)]) (by decide +kernel) rfl ?_
      refine zwW_adw (nx := 200) (by decide +kernel) ?_
      intro v33 ev33 lv33 uv33
      have Ev33 : v33 = w32 (((yM h) 77 (((yM h) 79 a.toNat).toNat)) + 1) := by rw [ev33, sv32]
      refine zwW_as Ih31 (a1 := 77) (a2 := 77) (n := 8) (lo := -2147483648) (hi := 2147483647) (nx := 201) (by decide +kernel) ⟨by decide, by decide⟩ ⟨by omega, by omega⟩ ⟨by omega, by omega⟩ ?_
      intro h34 eh34 Ih34
      have th34_37_1 : fld h34 37 1 = fld h31 37 1 := by rw [eh34]; exact fld_wr (by omega)
      have th34_37_2 : fld h34 37 2 = fld h31 37 2 := by rw [eh34]; exact fld_wr (by omega)
      have Vh34 : mRq q h34 := Vh31.fr (zMR.one (a1 := 77) (a2 := 77) (j1 := 0) (j2 := 8) ⟨by decide, by decide⟩ ⟨by omega, by omega⟩ eh34) (by decide +kernel)
      have Uh34 : yM h34 = (zs (zs (zs (zs (zs (zs (yM h) 69 (((yM h) 79 a.toNat).toNat) (w32 (((yM h) 69 (((yM h) 79 a.toNat).toNat)) - 1))) 73 (((yM h) 79 a.toNat).toNat) (w32 (((yM h) 73 (((yM h) 79 a.toNat).toNat)) + ((yM h) 71 (((yM h) 79 a.toNat).toNat))))) 84 a.toNat (w32 (((yM h) 84 a.toNat) - (w32 (((yM h) 71 (((yM h) 79 a.toNat).toNat)) + (yDut q (yM h) (((yM h) 79 a.toNat).toNat))))))) 88 a.toNat (w32 (((yM h) 88 a.toNat) + 1))) 37 38 (w32 (((yM h) 37 38) + (yDut q (yM h) (((yM h) 79 a.toNat).toNat))))) 77 (((yM h) 79 a.toNat).toNat) (w32 (((yM h) 77 (((yM h) 79 a.toNat).toNat)) + 1))) := by rw [yM_w (a := 77) (n := 8) (i := v1.toNat) (kd := 20) rfl (Ih31.s (a1 := 77) (a2 := 77) (by decide +kernel) (by decide) (by decide)) (by omega) eh34, Zh31, Ev33, sv1]
      have Zh34 : yM h34 = (zs (zs (zs (zs (zs (zs (yM h) 69 (((yM h) 79 a.toNat).toNat) (w32 (((yM h) 69 (((yM h) 79 a.toNat).toNat)) - 1))) 73 (((yM h) 79 a.toNat).toNat) (w32 (((yM h) 73 (((yM h) 79 a.toNat).toNat)) + ((yM h) 71 (((yM h) 79 a.toNat).toNat))))) 77 (((yM h) 79 a.toNat).toNat) (w32 (((yM h) 77 (((yM h) 79 a.toNat).toNat)) + 1))) 84 a.toNat (w32 (((yM h) 84 a.toNat) - (w32 (((yM h) 71 (((yM h) 79 a.toNat).toNat)) + (yDut q (yM h) (((yM h) 79 a.toNat).toNat))))))) 88 a.toNat (w32 (((yM h) 88 a.toNat) + 1))) 37 38 (w32 (((yM h) 37 38) + (yDut q (yM h) (((yM h) 79 a.toNat).toNat))))) := by rw [Uh34, zs_sw (a := 37) (b := 77) (by decide), zs_sw (a := 88) (b := 77) (by decide), zs_sw (a := 84) (b := 77) (by decide)]
      have Rh34 : zMR ms195 h h34 := Rh31.w (a1 := 77) (a2 := 77) (j1 := 0) (j2 := 8) (by decide +kernel) ⟨by decide, by decide⟩ ⟨by omega, by omega⟩ eh34
      refine zwW_retv (nx := 202) (a := 0) (b := 0) (by decide +kernel) ?_
      exact ⟨Ih34, Rh34, by refine Eq.trans Zh34 ?_; unfold yByh yByd yBya ySlH ySlM; (repeat' (first | rw [if_pos (by omega)] | rw [if_neg (by omega)])); all_goals (repeat' (first | rfl | omega | apply zs_cg))⟩
    · refine zwW_p [(1, 0, 2)] (q := 36) (ls' := [(2, 37), (0, a), (0, v1), (0, v2), (9, 0)]) (st' := [(2, 37)]) (by decide +kernel) rfl ?_
      refine zwW_gc Ih6 (kd := 13) (bn := 25) (n := 97) (c := 84) (nx := 39) (by decide +kernel) ?_
      refine zwW_p [(1, 1, 0), (14, 0, 0)] (q := 41) (ls' := [(2, 37), (0, a), (0, v1), (0, v2), (9, 0)]) (st' := [(0, a), (2, 84), (0, a), (2, 84)]) (by decide +kernel) rfl ?_
      refine zwW_al Ih6 (a1 := 84) (a2 := 84) (kd := 20) (n := 20) (t := 0) (lo := -2147483648) (hi := 2147483647) (nx := 42) (by decide +kernel) ⟨by decide, by decide⟩ ⟨by omega, by omega⟩ ?_
      intro v35 ev35 lv35 uv35
      have sv35 : v35 = (yM h) 84 a.toNat := Eq.trans ev35 (Eq.trans (Eq.symm (yM_p (h := h6) (a := 84) (n := 20) (i := a.toNat) rfl (by omega))) (Eq.trans (congrFun (congrFun Zh6 84) a.toNat) rfl))
      refine zwW_p [(1, 0, 2)] (q := 43) (ls' := [(2, 37), (0, a), (0, v1), (0, v2), (9, 0)]) (st' := [(2, 37), (0, v35), (0, a), (2, 84)]) (by decide +kernel) rfl ?_
      refine zwW_gc Ih6 (kd := 13) (bn := 11) (n := 97) (c := 70) (nx := 46) (by decide +kernel) ?_
      refine zwW_p [(1, 2, 0)] (q := 47) (ls' := [(2, 37), (0, a), (0, v1), (0, v2), (9, 0)]) (st' := [(0, v1), (2, 70), (0, v35), (0, a), (2, 84)]) (by decide +kernel) rfl ?_
      refine zwW_al Ih6 (a1 := 70) (a2 := 70) (kd := 20) (n := 8) (t := 0) (lo := -2147483648) (hi := 2147483647) (nx := 48) (by decide +kernel) ⟨by decide, by decide⟩ ⟨by omega, by omega⟩ ?_
      intro v36 ev36 lv36 uv36
      have sv36 : v36 = (yM h) 70 (((yM h) 79 a.toNat).toNat) := Eq.trans ev36 (Eq.trans (Eq.symm (yM_p (h := h6) (a := 70) (n := 8) (i := v1.toNat) rfl (by omega))) (Eq.trans (congrArg (yM h6 70) (show v1.toNat = ((yM h) 79 a.toNat).toNat by rw [sv1])) (Eq.trans (congrFun (congrFun Zh6 70) (((yM h) 79 a.toNat).toNat)) rfl)))
      refine zwW_sbw (nx := 49) (by decide +kernel) ?_
      intro v37 ev37 lv37 uv37
      have Ev37 : v37 = w32 (((yM h) 84 a.toNat) - ((yM h) 70 (((yM h) 79 a.toNat).toNat))) := by rw [ev37, sv35, sv36]
      refine zwW_as Ih6 (a1 := 84) (a2 := 84) (n := 20) (lo := -2147483648) (hi := 2147483647) (nx := 50) (by decide +kernel) ⟨by decide, by decide⟩ ⟨by omega, by omega⟩ ⟨by omega, by omega⟩ ?_
      intro h38 eh38 Ih38
      have th38_37_1 : fld h38 37 1 = fld h6 37 1 := by rw [eh38]; exact fld_wr (by omega)
      have th38_37_2 : fld h38 37 2 = fld h6 37 2 := by rw [eh38]; exact fld_wr (by omega)
      have Vh38 : mRq q h38 := Vh6.fr (zMR.one (a1 := 84) (a2 := 84) (j1 := 0) (j2 := 20) ⟨by decide, by decide⟩ ⟨by omega, by omega⟩ eh38) (by decide +kernel)
      have Zh38 : yM h38 = (zs (yM h) 84 a.toNat (w32 (((yM h) 84 a.toNat) - ((yM h) 70 (((yM h) 79 a.toNat).toNat))))) := by rw [yM_w (a := 84) (n := 20) (i := a.toNat) (kd := 20) rfl (Ih6.s (a1 := 84) (a2 := 84) (by decide +kernel) (by decide) (by decide)) (by omega) eh38, Zh6, Ev37]
      have Rh38 : zMR ms195 h h38 := Rh6.w (a1 := 84) (a2 := 84) (j1 := 0) (j2 := 20) (by decide +kernel) ⟨by decide, by decide⟩ ⟨by omega, by omega⟩ eh38
      refine zwW_p [(1, 0, 2)] (q := 51) (ls' := [(2, 37), (0, a), (0, v1), (0, v2), (9, 0)]) (st' := [(2, 37)]) (by decide +kernel) rfl ?_
      refine zwW_gc Ih38 (kd := 13) (bn := 14) (n := 97) (c := 73) (nx := 54) (by decide +kernel) ?_
      refine zwW_p [(1, 2, 0), (14, 0, 0)] (q := 56) (ls' := [(2, 37), (0, a), (0, v1), (0, v2), (9, 0)]) (st' := [(0, v1), (2, 73), (0, v1), (2, 73)]) (by decide +kernel) rfl ?_
      refine zwW_al Ih38 (a1 := 73) (a2 := 73) (kd := 20) (n := 8) (t := 0) (lo := -2147483648) (hi := 2147483647) (nx := 57) (by decide +kernel) ⟨by decide, by decide⟩ ⟨by omega, by omega⟩ ?_
      intro v39 ev39 lv39 uv39
      have sv39 : v39 = (yM h) 73 (((yM h) 79 a.toNat).toNat) := Eq.trans ev39 (Eq.trans (Eq.symm (yM_p (h := h38) (a := 73) (n := 8) (i := v1.toNat) rfl (by omega))) (Eq.trans (congrArg (yM h38 73) (show v1.toNat = ((yM h) 79 a.toNat).toNat by rw [sv1])) (Eq.trans (congrFun (congrFun Zh38 73) (((yM h) 79 a.toNat).toNat)) (Eq.trans (zs_na (by decide) : (zs (yM h) 84 a.toNat (w32 (((yM h) 84 a.toNat) - ((yM h) 70 (((yM h) 79 a.toNat).toNat))))) 73 (((yM h) 79 a.toNat).toNat) = (yM h) 73 (((yM h) 79 a.toNat).toNat)) rfl))))
      refine zwW_p [(1, 0, 2)] (q := 58) (ls' := [(2, 37), (0, a), (0, v1), (0, v2), (9, 0)]) (st' := [(2, 37), (0, v39), (0, v1), (2, 73)]) (by decide +kernel) rfl ?_
      refine zwW_gc Ih38 (kd := 13) (bn := 11) (n := 97) (c := 70) (nx := 61) (by decide +kernel) ?_
      refine zwW_p [(1, 2, 0)] (q := 62) (ls' := [(2, 37), (0, a), (0, v1), (0, v2), (9, 0)]) (st' := [(0, v1), (2, 70), (0, v39), (0, v1), (2, 73)]) (by decide +kernel) rfl ?_
      refine zwW_al Ih38 (a1 := 70) (a2 := 70) (kd := 20) (n := 8) (t := 0) (lo := -2147483648) (hi := 2147483647) (nx := 63) (by decide +kernel) ⟨by decide, by decide⟩ ⟨by omega, by omega⟩ ?_
      intro v40 ev40 lv40 uv40
      have sv40 : v40 = (yM h) 70 (((yM h) 79 a.toNat).toNat) := Eq.trans ev40 (Eq.trans (Eq.symm (yM_p (h := h38) (a := 70) (n := 8) (i := v1.toNat) rfl (by omega))) (Eq.trans (congrArg (yM h38 70) (show v1.toNat = ((yM h) 79 a.toNat).toNat by rw [sv1])) (Eq.trans (congrFun (congrFun Zh38 70) (((yM h) 79 a.toNat).toNat)) (Eq.trans (zs_na (by decide) : (zs (yM h) 84 a.toNat (w32 (((yM h) 84 a.toNat) - ((yM h) 70 (((yM h) 79 a.toNat).toNat))))) 70 (((yM h) 79 a.toNat).toNat) = (yM h) 70 (((yM h) 79 a.toNat).toNat)) rfl))))
      refine zwW_adw (nx := 64) (by decide +kernel) ?_
      intro v41 ev41 lv41 uv41
      have Ev41 : v41 = w32 (((yM h) 73 (((yM h) 79 a.toNat).toNat)) + ((yM h) 70 (((yM h) 79 a.toNat).toNat))) := by rw [ev41, sv39, sv40]
      refine zwW_as Ih38 (a1 := 73) (a2 := 73) (n := 8) (lo := -2147483648) (hi := 2147483647) (nx := 65) (by decide +kernel) ⟨by decide, by decide⟩ ⟨by omega, by omega⟩ ⟨by omega, by omega⟩ ?_
      intro h42 eh42 Ih42
      have th42_37_1 : fld h42 37 1 = fld h38 37 1 := by rw [eh42]; exact fld_wr (by omega)
      have th42_37_2 : fld h42 37 2 = fld h38 37 2 := by rw [eh42]; exact fld_wr (by omega)
      have Vh42 : mRq q h42 := Vh38.fr (zMR.one (a1 := 73) (a2 := 73) (j1 := 0) (j2 := 8) ⟨by decide, by decide⟩ ⟨by omega, by omega⟩ eh42) (by decide +kernel)
      have Uh42 : yM h42 = (zs (zs (yM h) 84 a.toNat (w32 (((yM h) 84 a.toNat) - ((yM h) 70 (((yM h) 79 a.toNat).toNat))))) 73 (((yM h) 79 a.toNat).toNat) (w32 (((yM h) 73 (((yM h) 79 a.toNat).toNat)) + ((yM h) 70 (((yM h) 79 a.toNat).toNat))))) := by rw [yM_w (a := 73) (n := 8) (i := v1.toNat) (kd := 20) rfl (Ih38.s (a1 := 73) (a2 := 73) (by decide +kernel) (by decide) (by decide)) (by omega) eh42, Zh38, Ev41, sv1]
      have Zh42 : yM h42 = (zs (zs (yM h) 73 (((yM h) 79 a.toNat).toNat) (w32 (((yM h) 73 (((yM h) 79 a.toNat).toNat)) + ((yM h) 70 (((yM h) 79 a.toNat).toNat))))) 84 a.toNat (w32 (((yM h) 84 a.toNat) - ((yM h) 70 (((yM h) 79 a.toNat).toNat))))) := by rw [Uh42, zs_sw (a := 84) (b := 73) (by decide)]
      have Rh42 : zMR ms195 h h42 := Rh38.w (a1 := 73) (a2 := 73) (j1 := 0) (j2 := 8) (by decide +kernel) ⟨by decide, by decide⟩ ⟨by omega, by omega⟩ eh42
      refine zwW_p [(1, 0, 2)] (q := 66) (ls' := [(2, 37), (0, a), (0, v1), (0, v2), (9, 0)]) (st' := [(2, 37)]) (by decide +kernel) rfl ?_
      refine zwW_gc Ih42 (kd := 13) (bn := 28) (n := 97) (c := 87) (nx := 69) (by decide +kernel) ?_
      refine zwW_p [(1, 1, 0), (14, 0, 0)] (q := 71) (ls' := [(2, 37), (0, a), (0, v1), (0, v2), (9, 0)]) (st' := [(0, a), (2, 87), (0, a), (2, 87)]) (by decide +kernel) rfl ?_
      refine zwW_al Ih42 (a1 := 87) (a2 := 87) (kd := 20) (n := 20) (t := 0) (lo := -2147483648) (hi := 2147483647) (nx := 72) (by decide +kernel) ⟨by decide, by decide⟩ ⟨by omega, by omega⟩ ?_
      intro v43 ev43 lv43 uv43
      have sv43 : v43 = (yM h) 87 a.toNat := Eq.trans ev43 (Eq.trans (Eq.symm (yM_p (h := h42) (a := 87) (n := 20) (i := a.toNat) rfl (by omega))) (Eq.trans (congrFun (congrFun Zh42 87) a.toNat) (Eq.trans (zs_na (by decide) : (zs (zs (yM h) 73 (((yM h) 79 a.toNat).toNat) (w32 (((yM h) 73 (((yM h) 79 a.toNat).toNat)) + ((yM h) 70 (((yM h) 79 a.toNat).toNat))))) 84 a.toNat (w32 (((yM h) 84 a.toNat) - ((yM h) 70 (((yM h) 79 a.toNat).toNat))))) 87 a.toNat = (zs (yM h) 73 (((yM h) 79 a.toNat).toNat) (w32 (((yM h) 73 (((yM h) 79 a.toNat).toNat)) + ((yM h) 70 (((yM h) 79 a.toNat).toNat))))) 87 a.toNat) (Eq.trans (zs_na (by decide) : (zs (yM h) 73 (((yM h) 79 a.toNat).toNat) (w32 (((yM h) 73 (((yM h) 79 a.toNat).toNat)) + ((yM h) 70 (((yM h) 79 a.toNat).toNat))))) 87 a.toNat = (yM h) 87 a.toNat) rfl))))
      refine zwW_p [(0, 1, 0)] (q := 73) (ls' := [(2, 37), (0, a), (0, v1), (0, v2), (9, 0)]) (st' := [(0, 1), (0, v43), (0, a), (2, 87)]) (by decide +kernel) rfl ?_
      refine zwW_adw (nx := 74) (by decide +kernel) ?_
      intro v44 ev44 lv44 uv44
      have Ev44 : v44 = w32 (((yM h) 87 a.toNat) + 1) := by rw [ev44, sv43]
      refine zwW_as Ih42 (a1 := 87) (a2 := 87) (n := 20) (lo := -2147483648) (hi := 2147483647) (nx := 75) (by decide +kernel) ⟨by decide, by decide⟩ ⟨by omega, by omega⟩ ⟨by omega, by omega⟩ ?_
      intro h45 eh45 Ih45
      have th45_37_1 : fld h45 37 1 = fld h42 37 1 := by rw [eh45]; exact fld_wr (by omega)
      have th45_37_2 : fld h45 37 2 = fld h42 37 2 := by rw [eh45]; exact fld_wr (by omega)
      have Vh45 : mRq q h45 := Vh42.fr (zMR.one (a1 := 87) (a2 := 87) (j1 := 0) (j2 := 20) ⟨by decide, by decide⟩ ⟨by omega, by omega⟩ eh45) (by decide +kernel)
      have Zh45 : yM h45 = (zs (zs (zs (yM h) 73 (((yM h) 79 a.toNat).toNat) (w32 (((yM h) 73 (((yM h) 79 a.toNat).toNat)) + ((yM h) 70 (((yM h) 79 a.toNat).toNat))))) 84 a.toNat (w32 (((yM h) 84 a.toNat) - ((yM h) 70 (((yM h) 79 a.toNat).toNat))))) 87 a.toNat (w32 (((yM h) 87 a.toNat) + 1))) := by rw [yM_w (a := 87) (n := 20) (i := a.toNat) (kd := 20) rfl (Ih42.s (a1 := 87) (a2 := 87) (by decide +kernel) (by decide) (by decide)) (by omega) eh45, Zh42, Ev44]
      have Rh45 : zMR ms195 h h45 := Rh42.w (a1 := 87) (a2 := 87) (j1 := 0) (j2 := 20) (by decide +kernel) ⟨by decide, by decide⟩ ⟨by omega, by omega⟩ eh45
      refine zwW_p [(1, 0, 2)] (q := 76) (ls' := [(2, 37), (0, a), (0, v1), (0, v2), (9, 0)]) (st' := [(2, 37)]) (by decide +kernel) rfl ?_
      refine zwW_gc Ih45 (kd := 13) (bn := 8) (n := 97) (c := 67) (nx := 79) (by decide +kernel) ?_
      refine zwW_p [(1, 2, 0)] (q := 80) (ls' := [(2, 37), (0, a), (0, v1), (0, v2), (9, 0)]) (st' := [(0, v1), (2, 67)]) (by decide +kernel) rfl ?_
      refine zwW_al Ih45 (a1 := 67) (a2 := 67) (kd := 20) (n := 8) (t := 0) (lo := -2147483648) (hi := 2147483647) (nx := 81) (by decide +kernel) ⟨by decide, by decide⟩ ⟨by omega, by omega⟩ ?_
      intro v46 ev46 lv46 uv46
      have sv46 : v46 = (yM h) 67 (((yM h) 79 a.toNat).toNat) := Eq.trans ev46 (Eq.trans (Eq.symm (yM_p (h := h45) (a := 67) (n := 8) (i := v1.toNat) rfl (by omega))) (Eq.trans (congrArg (yM h45 67) (show v1.toNat = ((yM h) 79 a.toNat).toNat by rw [sv1])) (Eq.trans (congrFun (congrFun Zh45 67) (((yM h) 79 a.toNat).toNat)) (Eq.trans (zs_na (by decide) : (zs (zs (zs (yM h) 73 (((yM h) 79 a.toNat).toNat) (w32 (((yM h) 73 (((yM h) 79 a.toNat).toNat)) + ((yM h) 70 (((yM h) 79 a.toNat).toNat))))) 84 a.toNat (w32 (((yM h) 84 a.toNat) - ((yM h) 70 (((yM h) 79 a.toNat).toNat))))) 87 a.toNat (w32 (((yM h) 87 a.toNat) + 1))) 67 (((yM h) 79 a.toNat).toNat) = (zs (zs (yM h) 73 (((yM h) 79 a.toNat).toNat) (w32 (((yM h) 73 (((yM h) 79 a.toNat).toNat)) + ((yM h) 70 (((yM h) 79 a.toNat).toNat))))) 84 a.toNat (w32 (((yM h) 84 a.toNat) - ((yM h) 70 (((yM h) 79 a.toNat).toNat))))) 67 (((yM h) 79 a.toNat).toNat)) (Eq.trans (zs_na (by decide) : (zs (zs (yM h) 73 (((yM h) 79 a.toNat).toNat) (w32 (((yM h) 73 (((yM h) 79 a.toNat).toNat)) + ((yM h) 70 (((yM h) 79 a.toNat).toNat))))) 84 a.toNat (w32 (((yM h) 84 a.toNat) - ((yM h) 70 (((yM h) 79 a.toNat).toNat))))) 67 (((yM h) 79 a.toNat).toNat) = (zs (yM h) 73 (((yM h) 79 a.toNat).toNat) (w32 (((yM h) 73 (((yM h) 79 a.toNat).toNat)) + ((yM h) 70 (((yM h) 79 a.toNat).toNat))))) 67 (((yM h) 79 a.toNat).toNat)) (Eq.trans (zs_na (by decide) : (zs (yM h) 73 (((yM h) 79 a.toNat).toNat) (w32 (((yM h) 73 (((yM h) 79 a.toNat).toNat)) + ((yM h) 70 (((yM h) 79 a.toNat).toNat))))) 67 (((yM h) 79 a.toNat).toNat) = (yM h) 67 (((yM h) 79 a.toNat).toNat)) rfl))))))
      refine zwif_le (q := 107) (nx := 84) (by decide +kernel) (fun c47 => ?_) (fun c47 => ?_)
      · refine zwW_p [(1, 0, 2)] (q := 108) (ls' := [(2, 37), (0, a), (0, v1), (0, v2), (9, 0)]) (st' := [(2, 37)]) (by decide +kernel) rfl ?_
        refine zwW_gc Ih45 (kd := 13) (bn := 9) (n := 97) (c := 68) (nx := 111) (by decide +kernel) ?_
        refine zwW_p [(1, 2, 0), (14, 0, 0)] (q := 113) (ls' := [(2, 37), (0, a), (0, v1), (0, v2), (9, 0)]) (st' := [(0, v1), (2, 68), (0, v1), (2, 68)]) (by decide +kernel) rfl ?_
        refine zwW_al Ih45 (a1 := 68) (a2 := 68) (kd := 20) (n := 8) (t := 0) (lo := -2147483648) (hi := 2147483647) (nx := 114) (by decide +kernel) ⟨by decide, by decide⟩ ⟨by omega, by omega⟩ ?_
        intro v48 ev48 lv48 uv48
        have sv48 : v48 = (yM h) 68 (((yM h) 79 a.toNat).toNat) := Eq.trans ev48 (Eq.trans (Eq.symm (yM_p (h := h45) (a := 68) (n := 8) (i := v1.toNat) rfl (by omega))) (Eq.trans (congrArg (yM h45 68) (show v1.toNat = ((yM h) 79 a.toNat).toNat by rw [sv1])) (Eq.trans (congrFun (congrFun Zh45 68) (((yM h) 79 a.toNat).toNat)) (Eq.trans (zs_na (by decide) : (zs (zs (zs (yM h) 73 (((yM h) 79 a.toNat).toNat) (w32 (((yM h) 73 (((yM h) 79 a.toNat).toNat)) + ((yM h) 70 (((yM h) 79 a.toNat).toNat))))) 84 a.toNat (w32 (((yM h) 84 a.toNat) - ((yM h) 70 (((yM h) 79 a.toNat).toNat))))) 87 a.toNat (w32 (((yM h) 87 a.toNat) + 1))) 68 (((yM h) 79 a.toNat).toNat) = (zs (zs (yM h) 73 (((yM h) 79 a.toNat).toNat) (w32 (((yM h) 73 (((yM h) 79 a.toNat).toNat)) + ((yM h) 70 (((yM h) 79 a.toNat).toNat))))) 84 a.toNat (w32 (((yM h) 84 a.toNat) - ((yM h) 70 (((yM h) 79 a.toNat).toNat))))) 68 (((yM h) 79 a.toNat).toNat)) (Eq.trans (zs_na (by decide) : (zs (zs (yM h) 73 (((yM h) 79 a.toNat).toNat) (w32 (((yM h) 73 (((yM h) 79 a.toNat).toNat)) + ((yM h) 70 (((yM h) 79 a.toNat).toNat))))) 84 a.toNat (w32 (((yM h) 84 a.toNat) - ((yM h) 70 (((yM h) 79 a.toNat).toNat))))) 68 (((yM h) 79 a.toNat).toNat) = (zs (yM h) 73 (((yM h) 79 a.toNat).toNat) (w32 (((yM h) 73 (((yM h) 79 a.toNat).toNat)) + ((yM h) 70 (((yM h) 79 a.toNat).toNat))))) 68 (((yM h) 79 a.toNat).toNat)) (Eq.trans (zs_na (by decide) : (zs (yM h) 73 (((yM h) 79 a.toNat).toNat) (w32 (((yM h) 73 (((yM h) 79 a.toNat).toNat)) + ((yM h) 70 (((yM h) 79 a.toNat).toNat))))) 68 (((yM h) 79 a.toNat).toNat) = (yM h) 68 (((yM h) 79 a.toNat).toNat)) rfl))))))
        refine zwW_p [(0, 1, 0)] (q := 115) (ls' := [(2, 37), (0, a), (0, v1), (0, v2), (9, 0)]) (st' := [(0, 1), (0, v48), (0, v1), (2, 68)]) (by decide +kernel) rfl ?_
        refine zwW_sbw (nx := 116) (by decide +kernel) ?_
        intro v49 ev49 lv49 uv49
        have Ev49 : v49 = w32 (((yM h) 68 (((yM h) 79 a.toNat).toNat)) - 1) := by rw [ev49, sv48]
        refine zwW_as Ih45 (a1 := 68) (a2 := 68) (n := 8) (lo := -2147483648) (hi := 2147483647) (nx := 117) (by decide +kernel) ⟨by decide, by decide⟩ ⟨by omega, by omega⟩ ⟨by omega, by omega⟩ ?_
        intro h50 eh50 Ih50
        have th50_37_1 : fld h50 37 1 = fld h45 37 1 := by rw [eh50]; exact fld_wr (by omega)
        have th50_37_2 : fld h50 37 2 = fld h45 37 2 := by rw [eh50]; exact fld_wr (by omega)
        have Vh50 : mRq q h50 := Vh45.fr (zMR.one (a1 := 68) (a2 := 68) (j1 := 0) (j2 := 8) ⟨by decide, by decide⟩ ⟨by omega, by omega⟩ eh50) (by decide +kernel)
        have Uh50 : yM h50 = (zs (zs (zs (zs (yM h) 73 (((yM h) 79 a.toNat).toNat) (w32 (((yM h) 73 (((yM h) 79 a.toNat).toNat)) + ((yM h) 70 (((yM h) 79 a.toNat).toNat))))) 84 a.toNat (w32 (((yM h) 84 a.toNat) - ((yM h) 70 (((yM h) 79 a.toNat).toNat))))) 87 a.toNat (w32 (((yM h) 87 a.toNat) + 1))) 68 (((yM h) 79 a.toNat).toNat) (w32 (((yM h) 68 (((yM h) 79 a.toNat).toNat)) - 1))) := by rw [yM_w (a := 68) (n := 8) (i := v1.toNat) (kd := 20) rfl (Ih45.s (a1 := 68) (a2 := 68) (by decide +kernel) (by decide) (by decide)) (by omega) eh50, Zh45, Ev49, sv1]
        have Zh50 : yM h50 = (zs (zs (zs (zs (yM h) 68 (((yM h) 79 a.toNat).toNat) (w32 (((yM h) 68 (((yM h) 79 a.toNat).toNat)) - 1))) 73 (((yM h) 79 a.toNat).toNat) (w32 (((yM h) 73 (((yM h) 79 a.toNat).toNat)) + ((yM h) 70 (((yM h) 79 a.toNat).toNat))))) 84 a.toNat (w32 (((yM h) 84 a.toNat) - ((yM h) 70 (((yM h) 79 a.toNat).toNat))))) 87 a.toNat (w32 (((yM h) 87 a.toNat) + 1))) := by rw [Uh50, zs_sw (a := 87) (b := 68) (by decide), zs_sw (a := 84) (b := 68) (by decide), zs_sw (a := 73) (b := 68) (by decide)]
        have Rh50 : zMR ms195 h h50 := Rh45.w (a1 := 68) (a2 := 68) (j1 := 0) (j2 := 8) (by decide +kernel) ⟨by decide, by decide⟩ ⟨by omega, by omega⟩ eh50
        refine zwW_p [(24, 201, 0)] (q := 201) (ls' := [(2, 37), (0, a), (0, v1), (0, v2), (9, 0)]) (st' := []) (by decide +kernel) rfl ?_
        refine zwW_retv (nx := 202) (a := 0) (b := 0) (by decide +kernel) ?_
        exact ⟨Ih50, Rh50, by refine Eq.trans Zh50 ?_; unfold yByh yByd yBya ySlH ySlM; (repeat' (first | rw [if_pos (by omega)] | rw [if_neg (by omega)])); all_goals (repeat' (first | rfl | omega | apply zs_cg))⟩
      · refine zwW_p [(1, 0, 2)] (q := 85) (ls' := [(2, 37), (0, a), (0, v1), (0, v2), (9, 0)]) (st' := [(2, 37)]) (by decide +kernel) rfl ?_
        refine zwW_gc Ih45 (kd := 13) (bn := 8) (n := 97) (c := 67) (nx := 88) (by decide +kernel) ?_
        refine zwW_p [(1, 2, 0), (14, 0, 0)] (q := 90) (ls' := [(2, 37), (0, a), (0, v1), (0, v2), (9, 0)]) (st' := [(0, v1), (2, 67), (0, v1), (2, 67)]) (by decide +kernel) rfl ?_
        refine zwW_al Ih45 (a1 := 67) (a2 := 67) (kd := 20) (n := 8) (t := 0) (lo := -2147483648) (hi := 2147483647) (nx := 91) (by decide +kernel) ⟨by decide, by decide⟩ ⟨by omega, by omega⟩ ?_
        intro v51 ev51 lv51 uv51
        have sv51 : v51 = (yM h) 67 (((yM h) 79 a.toNat).toNat) := Eq.trans ev51 (Eq.trans (Eq.symm (yM_p (h := h45) (a := 67) (n := 8) (i := v1.toNat) rfl (by omega))) (Eq.trans (congrArg (yM h45 67) (show v1.toNat = ((yM h) 79 a.toNat).toNat by rw [sv1])) (Eq.trans (congrFun (congrFun Zh45 67) (((yM h) 79 a.toNat).toNat)) (Eq.trans (zs_na (by decide) : (zs (zs (zs (yM h) 73 (((yM h) 79 a.toNat).toNat) (w32 (((yM h) 73 (((yM h) 79 a.toNat).toNat)) + ((yM h) 70 (((yM h) 79 a.toNat).toNat))))) 84 a.toNat (w32 (((yM h) 84 a.toNat) - ((yM h) 70 (((yM h) 79 a.toNat).toNat))))) 87 a.toNat (w32 (((yM h) 87 a.toNat) + 1))) 67 (((yM h) 79 a.toNat).toNat) = (zs (zs (yM h) 73 (((yM h) 79 a.toNat).toNat) (w32 (((yM h) 73 (((yM h) 79 a.toNat).toNat)) + ((yM h) 70 (((yM h) 79 a.toNat).toNat))))) 84 a.toNat (w32 (((yM h) 84 a.toNat) - ((yM h) 70 (((yM h) 79 a.toNat).toNat))))) 67 (((yM h) 79 a.toNat).toNat)) (Eq.trans (zs_na (by decide) : (zs (zs (yM h) 73 (((yM h) 79 a.toNat).toNat) (w32 (((yM h) 73 (((yM h) 79 a.toNat).toNat)) + ((yM h) 70 (((yM h) 79 a.toNat).toNat))))) 84 a.toNat (w32 (((yM h) 84 a.toNat) - ((yM h) 70 (((yM h) 79 a.toNat).toNat))))) 67 (((yM h) 79 a.toNat).toNat) = (zs (yM h) 73 (((yM h) 79 a.toNat).toNat) (w32 (((yM h) 73 (((yM h) 79 a.toNat).toNat)) + ((yM h) 70 (((yM h) 79 a.toNat).toNat))))) 67 (((yM h) 79 a.toNat).toNat)) (Eq.trans (zs_na (by decide) : (zs (yM h) 73 (((yM h) 79 a.toNat).toNat) (w32 (((yM h) 73 (((yM h) 79 a.toNat).toNat)) + ((yM h) 70 (((yM h) 79 a.toNat).toNat))))) 67 (((yM h) 79 a.toNat).toNat) = (yM h) 67 (((yM h) 79 a.toNat).toNat)) rfl))))))
        refine zwW_p [(0, 1, 0)] (q := 92) (ls' := [(2, 37), (0, a), (0, v1), (0, v2), (9, 0)]) (st' := [(0, 1), (0, v51), (0, v1), (2, 67)]) (by decide +kernel) rfl ?_
        refine zwW_sbw (nx := 93) (by decide +kernel) ?_
        intro v52 ev52 lv52 uv52
        have Ev52 : v52 = w32 (((yM h) 67 (((yM h) 79 a.toNat).toNat)) - 1) := by rw [ev52, sv51]
        refine zwW_as Ih45 (a1 := 67) (a2 := 67) (n := 8) (lo := -2147483648) (hi := 2147483647) (nx := 94) (by decide +kernel) ⟨by decide, by decide⟩ ⟨by omega, by omega⟩ ⟨by omega, by omega⟩ ?_
        intro h53 eh53 Ih53
        have th53_37_1 : fld h53 37 1 = fld h45 37 1 := by rw [eh53]; exact fld_wr (by omega)
        have th53_37_2 : fld h53 37 2 = fld h45 37 2 := by rw [eh53]; exact fld_wr (by omega)
        have Vh53 : mRq q h53 := Vh45.fr (zMR.one (a1 := 67) (a2 := 67) (j1 := 0) (j2 := 8) ⟨by decide, by decide⟩ ⟨by omega, by omega⟩ eh53) (by decide +kernel)
        have Uh53 : yM h53 = (zs (zs (zs (zs (yM h) 73 (((yM h) 79 a.toNat).toNat) (w32 (((yM h) 73 (((yM h) 79 a.toNat).toNat)) + ((yM h) 70 (((yM h) 79 a.toNat).toNat))))) 84 a.toNat (w32 (((yM h) 84 a.toNat) - ((yM h) 70 (((yM h) 79 a.toNat).toNat))))) 87 a.toNat (w32 (((yM h) 87 a.toNat) + 1))) 67 (((yM h) 79 a.toNat).toNat) (w32 (((yM h) 67 (((yM h) 79 a.toNat).toNat)) - 1))) := by rw [yM_w (a := 67) (n := 8) (i := v1.toNat) (kd := 20) rfl (Ih45.s (a1 := 67) (a2 := 67) (by decide +kernel) (by decide) (by decide)) (by omega) eh53, Zh45, Ev52, sv1]
        have Zh53 : yM h53 = (zs (zs (zs (zs (yM h) 67 (((yM h) 79 a.toNat).toNat) (w32 (((yM h) 67 (((yM h) 79 a.toNat).toNat)) - 1))) 73 (((yM h) 79 a.toNat).toNat) (w32 (((yM h) 73 (((yM h) 79 a.toNat).toNat)) + ((yM h) 70 (((yM h) 79 a.toNat).toNat))))) 84 a.toNat (w32 (((yM h) 84 a.toNat) - ((yM h) 70 (((yM h) 79 a.toNat).toNat))))) 87 a.toNat (w32 (((yM h) 87 a.toNat) + 1))) := by rw [Uh53, zs_sw (a := 87) (b := 67) (by decide), zs_sw (a := 84) (b := 67) (by decide), zs_sw (a := 73) (b := 67) (by decide)]
        have Rh53 : zMR ms195 h h53 := Rh45.w (a1 := 67) (a2 := 67) (j1 := 0) (j2 := 8) (by decide +kernel) ⟨by decide, by decide⟩ ⟨by omega, by omega⟩ eh53
        refine zwW_p [(1, 0, 2)] (q := 95) (ls' := [(2, 37), (0, a), (0, v1), (0, v2), (9, 0)]) (st' := [(2, 37)]) (by decide +kernel) rfl ?_
        refine zwW_gc Ih53 (kd := 13) (bn := 17) (n := 97) (c := 76) (nx := 98) (by decide +kernel) ?_
        refine zwW_p [(1, 2, 0), (14, 0, 0)] (q := 100) (ls' := [(2, 37), (0, a), (0, v1), (0, v2), (9, 0)]) (st' := [(0, v1), (2, 76), (0, v1), (2, 76)]) (by decide +kernel) rfl ?_
        refine zwW_al Ih53 (a1 := 76) (a2 := 76) (kd := 20) (n := 8) (t := 0) (lo := -2147483648) (hi := 2147483647) (nx := 101) (by decide +kernel) ⟨by decide, by decide⟩ ⟨by omega, by omega⟩ ?_
        intro v54 ev54 lv54 uv54
        have sv54 : v54 = (yM h) 76 (((yM h) 79 a.toNat).toNat) := Eq.trans ev54 (Eq.trans (Eq.symm (yM_p (h := h53) (a := 76) (n := 8) (i := v1.toNat) rfl (by omega))) (Eq.trans (congrArg (yM h53 76) (show v1.toNat = ((yM h) 79 a.toNat).toNat by rw [sv1])) (Eq.trans (congrFun (congrFun Zh53 76) (((yM h) 79 a.toNat).toNat)) (Eq.trans (zs_na (by decide) : (zs (zs (zs (zs (yM h) 67 (((yM h) 79 a.toNat).toNat) (w32 (((yM h) 67 (((yM h) 79 a.toNat).toNat)) - 1))) 73 (((yM h) 79 a.toNat).toNat) (w32 (((yM h) 73 (((yM h) 79 a.toNat).toNat)) + ((yM h) 70 (((yM h) 79 a.toNat).toNat))))) 84 a.toNat (w32 (((yM h) 84 a.toNat) - ((yM h) 70 (((yM h) 79 a.toNat).toNat))))) 87 a.toNat (w32 (((yM h) 87 a.toNat) + 1))) 76 (((yM h) 79 a.toNat).toNat) = (zs (zs (zs (yM h) 67 (((yM h) 79 a.toNat).toNat) (w32 (((yM h) 67 (((yM h) 79 a.toNat).toNat)) - 1))) 73 (((yM h) 79 a.toNat).toNat) (w32 (((yM h) 73 (((yM h) 79 a.toNat).toNat)) + ((yM h) 70 (((yM h) 79 a.toNat).toNat))))) 84 a.toNat (w32 (((yM h) 84 a.toNat) - ((yM h) 70 (((yM h) 79 a.toNat).toNat))))) 76 (((yM h) 79 a.toNat).toNat)) (Eq.trans (zs_na (by decide) : (zs (zs (zs (yM h) 67 (((yM h) 79 a.toNat).toNat) (w32 (((yM h) 67 (((yM h) 79 a.toNat).toNat)) - 1))) 73 (((yM h) 79 a.toNat).toNat) (w32 (((yM h) 73 (((yM h) 79 a.toNat).toNat)) + ((yM h) 70 (((yM h) 79 a.toNat).toNat))))) 84 a.toNat (w32 (((yM h) 84 a.toNat) - ((yM h) 70 (((yM h) 79 a.toNat).toNat))))) 76 (((yM h) 79 a.toNat).toNat) = (zs (zs (yM h) 67 (((yM h) 79 a.toNat).toNat) (w32 (((yM h) 67 (((yM h) 79 a.toNat).toNat)) - 1))) 73 (((yM h) 79 a.toNat).toNat) (w32 (((yM h) 73 (((yM h) 79 a.toNat).toNat)) + ((yM h) 70 (((yM h) 79 a.toNat).toNat))))) 76 (((yM h) 79 a.toNat).toNat)) (Eq.trans (zs_na (by decide) : (zs (zs (yM h) 67 (((yM h) 79 a.toNat).toNat) (w32 (((yM h) 67 (((yM h) 79 a.toNat).toNat)) - 1))) 73 (((yM h) 79 a.toNat).toNat) (w32 (((yM h) 73 (((yM h) 79 a.toNat).toNat)) + ((yM h) 70 (((yM h) 79 a.toNat).toNat))))) 76 (((yM h) 79 a.toNat).toNat) = (zs (yM h) 67 (((yM h) 79 a.toNat).toNat) (w32 (((yM h) 67 (((yM h) 79 a.toNat).toNat)) - 1))) 76 (((yM h) 79 a.toNat).toNat)) (Eq.trans (zs_na (by decide) : (zs (yM h) 67 (((yM h) 79 a.toNat).toNat) (w32 (((yM h) 67 (((yM h) 79 a.toNat).toNat)) - 1))) 76 (((yM h) 79 a.toNat).toNat) = (yM h) 76 (((yM h) 79 a.toNat).toNat)) rfl)))))))
        refine zwW_p [(0, 1, 0)] (q := 102) (ls' := [(2, 37), (0, a), (0, v1), (0, v2), (9, 0)]) (st' := [(0, 1), (0, v54), (0, v1), (2, 76)]) (by decide +kernel) rfl ?_
        refine zwW_adw (nx := 103) (by decide +kernel) ?_
        intro v55 ev55 lv55 uv55
        have Ev55 : v55 = w32 (((yM h) 76 (((yM h) 79 a.toNat).toNat)) + 1) := by rw [ev55, sv54]
        refine zwW_as Ih53 (a1 := 76) (a2 := 76) (n := 8) (lo := -2147483648) (hi := 2147483647) (nx := 104) (by decide +kernel) ⟨by decide, by decide⟩ ⟨by omega, by omega⟩ ⟨by omega, by omega⟩ ?_
        intro h56 eh56 Ih56
        have th56_37_1 : fld h56 37 1 = fld h53 37 1 := by rw [eh56]; exact fld_wr (by omega)
        have th56_37_2 : fld h56 37 2 = fld h53 37 2 := by rw [eh56]; exact fld_wr (by omega)
        have Vh56 : mRq q h56 := Vh53.fr (zMR.one (a1 := 76) (a2 := 76) (j1 := 0) (j2 := 8) ⟨by decide, by decide⟩ ⟨by omega, by omega⟩ eh56) (by decide +kernel)
        have Uh56 : yM h56 = (zs (zs (zs (zs (zs (yM h) 67 (((yM h) 79 a.toNat).toNat) (w32 (((yM h) 67 (((yM h) 79 a.toNat).toNat)) - 1))) 73 (((yM h) 79 a.toNat).toNat) (w32 (((yM h) 73 (((yM h) 79 a.toNat).toNat)) + ((yM h) 70 (((yM h) 79 a.toNat).toNat))))) 84 a.toNat (w32 (((yM h) 84 a.toNat) - ((yM h) 70 (((yM h) 79 a.toNat).toNat))))) 87 a.toNat (w32 (((yM h) 87 a.toNat) + 1))) 76 (((yM h) 79 a.toNat).toNat) (w32 (((yM h) 76 (((yM h) 79 a.toNat).toNat)) + 1))) := by rw [yM_w (a := 76) (n := 8) (i := v1.toNat) (kd := 20) rfl (Ih53.s (a1 := 76) (a2 := 76) (by decide +kernel) (by decide) (by decide)) (by omega) eh56, Zh53, Ev55, sv1]
        have Zh56 : yM h56 = (zs (zs (zs (zs (zs (yM h) 67 (((yM h) 79 a.toNat).toNat) (w32 (((yM h) 67 (((yM h) 79 a.toNat).toNat)) - 1))) 73 (((yM h) 79 a.toNat).toNat) (w32 (((yM h) 73 (((yM h) 79 a.toNat).toNat)) + ((yM h) 70 (((yM h) 79 a.toNat).toNat))))) 76 (((yM h) 79 a.toNat).toNat) (w32 (((yM h) 76 (((yM h) 79 a.toNat).toNat)) + 1))) 84 a.toNat (w32 (((yM h) 84 a.toNat) - ((yM h) 70 (((yM h) 79 a.toNat).toNat))))) 87 a.toNat (w32 (((yM h) 87 a.toNat) + 1))) := by rw [Uh56, zs_sw (a := 87) (b := 76) (by decide), zs_sw (a := 84) (b := 76) (by decide)]
        have Rh56 : zMR ms195 h h56 := Rh53.w (a1 := 76) (a2 := 76) (j1 := 0) (j2 := 8) (by decide +kernel) ⟨by decide, by decide⟩ ⟨by omega, by omega⟩ eh56
        refine zwW_p [(24, 201, 0)] (q := 201) (ls' := [(2, 37), (0, a), (0, v1), (0, v2), (9, 0)]) (st' := []) (by decide +kernel) rfl ?_
        refine zwW_retv (nx := 202) (a := 0) (b := 0) (by decide +kernel) ?_
        exact ⟨Ih56, Rh56, by refine Eq.trans Zh56 ?_; unfold yByh yByd yBya ySlH ySlM; (repeat' (first | rw [if_pos (by omega)] | rw [if_neg (by omega)])); all_goals (repeat' (first | rfl | omega | apply zs_cg))⟩
  · refine zwW_p [(1, 0, 2)] (q := 19) (ls' := [(2, 37), (0, a), (0, v1), (0, v2), (9, 0)]) (st' := [(2, 37)]) (by decide +kernel) rfl ?_
    refine zwW_gc Ih6 (kd := 13) (bn := 27) (n := 97) (c := 86) (nx := 22) (by decide +kernel) ?_
    refine zwW_p [(1, 1, 0), (14, 0, 0)] (q := 24) (ls' := [(2, 37), (0, a), (0, v1), (0, v2), (9, 0)]) (st' := [(0, a), (2, 86), (0, a), (2, 86)]) (by decide +kernel) rfl ?_
    refine zwW_al Ih6 (a1 := 86) (a2 := 86) (kd := 20) (n := 20) (t := 0) (lo := -2147483648) (hi := 2147483647) (nx := 25) (by decide +kernel) ⟨by decide, by decide⟩ ⟨by omega, by omega⟩ ?_
    intro v57 ev57 lv57 uv57
    have sv57 : v57 = (yM h) 86 a.toNat := Eq.trans ev57 (Eq.trans (Eq.symm (yM_p (h := h6) (a := 86) (n := 20) (i := a.toNat) rfl (by omega))) (Eq.trans (congrFun (congrFun Zh6 86) a.toNat) rfl))
    refine zwW_p [(0, 1, 0)] (q := 26) (ls' := [(2, 37), (0, a), (0, v1), (0, v2), (9, 0)]) (st' := [(0, 1), (0, v57), (0, a), (2, 86)]) (by decide +kernel) rfl ?_
    refine zwW_adw (nx := 27) (by decide +kernel) ?_
    intro v58 ev58 lv58 uv58
    have Ev58 : v58 = w32 (((yM h) 86 a.toNat) + 1) := by rw [ev58, sv57]
    refine zwW_as Ih6 (a1 := 86) (a2 := 86) (n := 20) (lo := -2147483648) (hi := 2147483647) (nx := 28) (by decide +kernel) ⟨by decide, by decide⟩ ⟨by omega, by omega⟩ ⟨by omega, by omega⟩ ?_
    intro h59 eh59 Ih59
    have th59_37_1 : fld h59 37 1 = fld h6 37 1 := by rw [eh59]; exact fld_wr (by omega)
    have th59_37_2 : fld h59 37 2 = fld h6 37 2 := by rw [eh59]; exact fld_wr (by omega)
    have Vh59 : mRq q h59 := Vh6.fr (zMR.one (a1 := 86) (a2 := 86) (j1 := 0) (j2 := 20) ⟨by decide, by decide⟩ ⟨by omega, by omega⟩ eh59) (by decide +kernel)
    have Zh59 : yM h59 = (zs (yM h) 86 a.toNat (w32 (((yM h) 86 a.toNat) + 1))) := by rw [yM_w (a := 86) (n := 20) (i := a.toNat) (kd := 20) rfl (Ih6.s (a1 := 86) (a2 := 86) (by decide +kernel) (by decide) (by decide)) (by omega) eh59, Zh6, Ev58]
    have Rh59 : zMR ms195 h h59 := Rh6.w (a1 := 86) (a2 := 86) (j1 := 0) (j2 := 20) (by decide +kernel) ⟨by decide, by decide⟩ ⟨by omega, by omega⟩ eh59
    refine zwW_p [(24, 201, 0)] (q := 201) (ls' := [(2, 37), (0, a), (0, v1), (0, v2), (9, 0)]) (st' := []) (by decide +kernel) rfl ?_
    refine zwW_retv (nx := 202) (a := 0) (b := 0) (by decide +kernel) ?_
    exact ⟨Ih59, Rh59, by refine Eq.trans Zh59 ?_; unfold yByh yByd yBya ySlH ySlM; (repeat' (first | rw [if_pos (by omega)] | rw [if_neg (by omega)])); all_goals (repeat' (first | rfl | omega | apply zs_cg))⟩
-- WheelLandModel.seasons()V
theorem m196_z {sc : List Int} (h : Hp) (I : zI h) (q : qT) (V : mRq q h) (ok : yOK (yM h)) : zwC sc 4 196 [(2, 37)] h (zwRv (fun g => zI g ∧ zMR ms196 h g ∧ (yM g = ySea q (yM h)))) := by
  refine zwC_of (D := 3) 2 (by decide +kernel) rfl (ls := [(2, 37), (9, 0)]) rfl ?_
  have R : zMR ms196 h h := zMR.rf _ _
  have u0 : yM h 37 0 = fld h 37 0 := rfl
  have u1 : yM h 37 1 = fld h 37 1 := rfl
  have u2 : yM h 37 2 = fld h 37 2 := rfl
  have N1 := I.b (a1 := 37) (a2 := 37) (j1 := 1) (j2 := 2) (lo := 0) (hi := 8) (by decide +kernel) (r := 37) (j := 1) (by decide) (by decide) (by decide) (by decide)
  have N2 := I.b (a1 := 37) (a2 := 37) (j1 := 2) (j2 := 3) (lo := 0) (hi := 20) (by decide +kernel) (r := 37) (j := 2) (by decide) (by decide) (by decide) (by decide)
  refine zwW_p [(0, 0, 0), (2, 1, 0)] (q := 2) (ls' := [(2, 37), (0, 0)]) (st' := []) (by decide +kernel) rfl ?_
  have L1 : ∀ (n0 : Nat) (kL1 : Int) (hL1 : Hp), n0 = ((100 - kL1)).toNat → (mRq q hL1) → ((0 ≤ kL1 ∧ kL1 ≤ fld h 37 2) ∧ fld hL1 37 0 = fld h 37 0 ∧ fld hL1 37 1 = fld h 37 1 ∧ fld hL1 37 2 = fld h 37 2) → (yM hL1 = (yDus q (yM h) (kL1).toNat)) → zI hL1 → zMR ms196 h hL1 → zwW sc (3) 196 2 [(2, 37), (0, kL1)] [] hL1 (zwRv (fun g => zI g ∧ zMR ms196 h g ∧ (yM g = ySea q (yM h)))) := by
    intro n0
    induction n0 using Nat.strongRecOn with
    | ind n0 IHL1 =>
      intro kL1 hL1 hnL1 iL1_0 iL1_1 iL1_2 IhL1 RhL1
      refine zwW_p [(1, 1, 0), (1, 0, 2)] (q := 4) (ls' := [(2, 37), (0, kL1)]) (st' := [(2, 37), (0, kL1)]) (by decide +kernel) rfl ?_
      refine zwW_gs IhL1 (kd := 13) (bn := 2) (n := 97) (t := 0) (lo := 0) (hi := 20) (nx := 7) (by decide +kernel) ?_
      intro v2 ev2 lv2 uv2
      have sv2 : v2 = (yDus q (yM h) (kL1).toNat) 37 2 := Eq.trans ev2 (Eq.trans (Eq.symm (yM_s (h := hL1) (i := 2) rfl)) (Eq.trans (congrFun (congrFun iL1_2 37) 2) rfl))
      refine zwic_ge (q := 51) (nx := 10) (by decide +kernel) (fun c3 => ?_) (fun c3 => ?_)
      · refine zwW_p [(0, 0, 0), (2, 1, 0)] (q := 53) (ls' := [(2, 37), (0, 0)]) (st' := []) (by decide +kernel) rfl ?_
        have L4 : ∀ (n0 : Nat) (vL4 : Int) (hL4 : Hp), n0 = ((100 - vL4)).toNat → (mRq q hL4) → ((0 ≤ vL4 ∧ vL4 ≤ fld h 37 1) ∧ fld hL4 37 0 = fld h 37 0 ∧ fld hL4 37 1 = fld h 37 1 ∧ fld hL4 37 2 = fld h 37 2) → (yM hL4 = (yMls (yDuA q (yM h)) (vL4).toNat)) → zI hL4 → zMR ms196 h hL4 → zwW sc (3) 196 53 [(2, 37), (0, vL4)] [] hL4 (zwRv (fun g => zI g ∧ zMR ms196 h g ∧ (yM g = ySea q (yM h)))) := by
          intro n0
          induction n0 using Nat.strongRecOn with
          | ind n0 IHL4 =>
            intro vL4 hL4 hnL4 iL4_0 iL4_1 iL4_2 IhL4 RhL4
            refine zwW_p [(1, 1, 0), (1, 0, 2)] (q := 55) (ls' := [(2, 37), (0, vL4)]) (st' := [(2, 37), (0, vL4)]) (by decide +kernel) rfl ?_
            refine zwW_gs IhL4 (kd := 13) (bn := 1) (n := 97) (t := 0) (lo := 0) (hi := 8) (nx := 58) (by decide +kernel) ?_
            intro v5 ev5 lv5 uv5
            have sv5 : v5 = (yMls (yDuA q (yM h)) (vL4).toNat) 37 1 := Eq.trans ev5 (Eq.trans (Eq.symm (yM_s (h := hL4) (i := 1) rfl)) (Eq.trans (congrFun (congrFun iL4_2 37) 1) rfl))
            refine zwic_ge (q := 162) (nx := 61) (by decide +kernel) (fun c6 => ?_) (fun c6 => ?_)
            · refine zwW_retv (nx := 163) (a := 0) (b := 0) (by decide +kernel) ?_
              exact ⟨IhL4, RhL4, by refine Eq.trans iL4_2 ?_; unfold ySea yMlA; rw [show yDuA q (yM h) 37 1 = fld h 37 1 from yDus_n (by decide) _, show (fld h 37 1).toNat = (vL4).toNat by omega]⟩
            · have M61 : (yMls (yDuA q (yM h)) (vL4).toNat) 37 1 = fld h 37 1 := (yMls_n (by decide) _).trans (yDus_n (by decide) _)
              have OKM : yOK (yMls (yDuA q (yM h)) (vL4).toNat) := (ok.dus _).mls _ (by rw [yDus_n (by decide)]; show _ ≤ fld h 37 1; omega)
              have B61 := (OKM.vi (v := (vL4).toNat) (by omega)).1
              refine zwW_p [(1, 0, 2)] (q := 62) (ls' := [(2, 37), (0, vL4)]) (st' := [(2, 37)]) (by decide +kernel) rfl ?_
              refine zwW_gc IhL4 (kd := 13) (bn := 18) (n := 97) (c := 77) (nx := 65) (by decide +kernel) ?_
              refine zwW_p [(1, 1, 0)] (q := 66) (ls' := [(2, 37), (0, vL4)]) (st' := [(0, vL4), (2, 77)]) (by decide +kernel) rfl ?_
              refine zwW_al IhL4 (a1 := 77) (a2 := 77) (kd := 20) (n := 8) (t := 0) (lo := -2147483648) (hi := 2147483647) (nx := 67) (by decide +kernel) ⟨by decide, by decide⟩ ⟨by omega, by omega⟩ ?_
              intro v7 ev7 lv7 uv7
              have sv7 : v7 = (yMls (yDuA q (yM h)) (vL4).toNat) 77 vL4.toNat := Eq.trans ev7 (Eq.trans (Eq.symm (yM_p (h := hL4) (a := 77) (n := 8) (i := vL4.toNat) rfl (by omega))) (Eq.trans (congrFun (congrFun iL4_2 77) vL4.toNat) rfl))
              refine zwW_p [(1, 0, 2)] (q := 68) (ls' := [(2, 37), (0, vL4)]) (st' := [(2, 37), (0, v7)]) (by decide +kernel) rfl ?_
              refine zwW_gc IhL4 (kd := 13) (bn := 19) (n := 97) (c := 78) (nx := 71) (by decide +kernel) ?_
              refine zwW_p [(1, 1, 0)] (q := 72) (ls' := [(2, 37), (0, vL4)]) (st' := [(0, vL4), (2, 78), (0, v7)]) (by decide +kernel) rfl ?_
              refine zwW_al IhL4 (a1 := 78) (a2 := 78) (kd := 20) (n := 8) (t := 0) (lo := -2147483648) (hi := 2147483647) (nx := 73) (by decide +kernel) ⟨by decide, by decide⟩ ⟨by omega, by omega⟩ ?_
              intro v8 ev8 lv8 uv8
              have sv8 : v8 = (yMls (yDuA q (yM h)) (vL4).toNat) 78 vL4.toNat := Eq.trans ev8 (Eq.trans (Eq.symm (yM_p (h := hL4) (a := 78) (n := 8) (i := vL4.toNat) rfl (by omega))) (Eq.trans (congrFun (congrFun iL4_2 78) vL4.toNat) rfl))
              refine zwic_ge (q := 107) (nx := 76) (by decide +kernel) (fun c9 => ?_) (fun c9 => ?_)
              · refine zwW_p [(1, 0, 2)] (q := 108) (ls' := [(2, 37), (0, vL4)]) (st' := [(2, 37)]) (by decide +kernel) rfl ?_
                refine zwW_gc IhL4 (kd := 13) (bn := 12) (n := 97) (c := 71) (nx := 111) (by decide +kernel) ?_
                refine zwW_p [(1, 1, 0), (1, 0, 2)] (q := 113) (ls' := [(2, 37), (0, vL4)]) (st' := [(2, 37), (0, vL4), (2, 71)]) (by decide +kernel) rfl ?_
                refine zwW_gc IhL4 (kd := 13) (bn := 12) (n := 97) (c := 71) (nx := 116) (by decide +kernel) ?_
                refine zwW_p [(1, 1, 0)] (q := 117) (ls' := [(2, 37), (0, vL4)]) (st' := [(0, vL4), (2, 71), (0, vL4), (2, 71)]) (by decide +kernel) rfl ?_
                refine zwW_al IhL4 (a1 := 71) (a2 := 71) (kd := 20) (n := 8) (t := 0) (lo := -2147483648) (hi := 2147483647) (nx := 118) (by decide +kernel) ⟨by decide, by decide⟩ ⟨by omega, by omega⟩ ?_
                intro v10 ev10 lv10 uv10
                have sv10 : v10 = (yMls (yDuA q (yM h)) (vL4).toNat) 71 vL4.toNat := Eq.trans ev10 (Eq.trans (Eq.symm (yM_p (h := hL4) (a := 71) (n := 8) (i := vL4.toNat) rfl (by omega))) (Eq.trans (congrFun (congrFun iL4_2 71) vL4.toNat) rfl))
                refine zwW_p [(0, 99, 0)] (q := 120) (ls' := [(2, 37), (0, vL4)]) (st' := [(0, 99), (0, v10), (0, vL4), (2, 71)]) (by decide +kernel) rfl ?_
                refine zwic_ge (q := 134) (nx := 123) (by decide +kernel) (fun c11 => ?_) (fun c11 => ?_)
                · refine zwW_p [(0, 99, 0)] (q := 136) (ls' := [(2, 37), (0, vL4)]) (st' := [(0, 99), (0, vL4), (2, 71)]) (by decide +kernel) rfl ?_
                  refine zwW_as IhL4 (a1 := 71) (a2 := 71) (n := 8) (lo := -2147483648) (hi := 2147483647) (nx := 137) (by decide +kernel) ⟨by decide, by decide⟩ ⟨by omega, by omega⟩ ⟨by decide, by decide⟩ ?_
                  intro h12 eh12 Ih12
                  have th12_37_0 : fld h12 37 0 = fld hL4 37 0 := by rw [eh12]; exact fld_wr (by omega)
                  have th12_37_1 : fld h12 37 1 = fld hL4 37 1 := by rw [eh12]; exact fld_wr (by omega)
                  have th12_37_2 : fld h12 37 2 = fld hL4 37 2 := by rw [eh12]; exact fld_wr (by omega)
                  have Vh12 : mRq q h12 := iL4_0.fr (zMR.one (a1 := 71) (a2 := 71) (j1 := 0) (j2 := 8) ⟨by decide, by decide⟩ ⟨by omega, by omega⟩ eh12) (by decide +kernel)
                  have Zh12 : yM h12 = (zs (yMls (yDuA q (yM h)) (vL4).toNat) 71 vL4.toNat 99) := by rw [yM_w (a := 71) (n := 8) (i := vL4.toNat) (kd := 20) rfl (IhL4.s (a1 := 71) (a2 := 71) (by decide +kernel) (by decide) (by decide)) (by omega) eh12, iL4_2]
                  have Rh12 : zMR ms196 h h12 := RhL4.w (a1 := 71) (a2 := 71) (j1 := 0) (j2 := 8) (by decide +kernel) ⟨by decide, by decide⟩ ⟨by omega, by omega⟩ eh12
                  refine zwW_p [(1, 0, 2)] (q := 138) (ls' := [(2, 37), (0, vL4)]) (st' := [(2, 37)]) (by decide +kernel) rfl ?_
                  refine zwW_gc Ih12 (kd := 13) (bn := 19) (n := 97) (c := 78) (nx := 141) (by decide +kernel) ?_
                  refine zwW_p [(1, 1, 0), (1, 0, 2)] (q := 143) (ls' := [(2, 37), (0, vL4)]) (st' := [(2, 37), (0, vL4), (2, 78)]) (by decide +kernel) rfl ?_
                  refine zwW_gc Ih12 (kd := 13) (bn := 18) (n := 97) (c := 77) (nx := 146) (by decide +kernel) ?_
                  refine zwW_p [(1, 1, 0)] (q := 147) (ls' := [(2, 37), (0, vL4)]) (st' := [(0, vL4), (2, 77), (0, vL4), (2, 78)]) (by decide +kernel) rfl ?_
                  refine zwW_al Ih12 (a1 := 77) (a2 := 77) (kd := 20) (n := 8) (t := 0) (lo := -2147483648) (hi := 2147483647) (nx := 148) (by decide +kernel) ⟨by decide, by decide⟩ ⟨by omega, by omega⟩ ?_
                  intro v13 ev13 lv13 uv13
                  have sv13 : v13 = (yMls (yDuA q (yM h)) (vL4).toNat) 77 vL4.toNat := Eq.trans ev13 (Eq.trans (Eq.symm (yM_p (h := h12) (a := 77) (n := 8) (i := vL4.toNat) rfl (by omega))) (Eq.trans (congrFun (congrFun Zh12 77) vL4.toNat) (Eq.trans (zs_na (by decide) : (zs (yMls (yDuA q (yM h)) (vL4).toNat) 71 vL4.toNat 99) 77 vL4.toNat = (yMls (yDuA q (yM h)) (vL4).toNat) 77 vL4.toNat) rfl)))
                  refine zwW_as Ih12 (a1 := 78) (a2 := 78) (n := 8) (lo := -2147483648) (hi := 2147483647) (nx := 149) (by decide +kernel) ⟨by decide, by decide⟩ ⟨by omega, by omega⟩ ⟨by omega, by omega⟩ ?_
                  intro h14 eh14 Ih14
                  have th14_37_0 : fld h14 37 0 = fld h12 37 0 := by rw [eh14]; exact fld_wr (by omega)
                  have th14_37_1 : fld h14 37 1 = fld h12 37 1 := by rw [eh14]; exact fld_wr (by omega)
                  have th14_37_2 : fld h14 37 2 = fld h12 37 2 := by rw [eh14]; exact fld_wr (by omega)
                  have Vh14 : mRq q h14 := Vh12.fr (zMR.one (a1 := 78) (a2 := 78) (j1 := 0) (j2 := 8) ⟨by decide, by decide⟩ ⟨by omega, by omega⟩ eh14) (by decide +kernel)
                  have Zh14 : yM h14 = (zs (zs (yMls (yDuA q (yM h)) (vL4).toNat) 71 vL4.toNat 99) 78 vL4.toNat ((yMls (yDuA q (yM h)) (vL4).toNat) 77 vL4.toNat)) := by rw [yM_w (a := 78) (n := 8) (i := vL4.toNat) (kd := 20) rfl (Ih12.s (a1 := 78) (a2 := 78) (by decide +kernel) (by decide) (by decide)) (by omega) eh14, Zh12, sv13]
                  have Rh14 : zMR ms196 h h14 := Rh12.w (a1 := 78) (a2 := 78) (j1 := 0) (j2 := 8) (by decide +kernel) ⟨by decide, by decide⟩ ⟨by omega, by omega⟩ eh14
                  refine zwW_p [(1, 0, 2)] (q := 150) (ls' := [(2, 37), (0, vL4)]) (st' := [(2, 37)]) (by decide +kernel) rfl ?_
                  refine zwW_gc Ih14 (kd := 13) (bn := 18) (n := 97) (c := 77) (nx := 153) (by decide +kernel) ?_
                  refine zwW_p [(1, 1, 0), (0, 0, 0)] (q := 155) (ls' := [(2, 37), (0, vL4)]) (st' := [(0, 0), (0, vL4), (2, 77)]) (by decide +kernel) rfl ?_
                  refine zwW_as Ih14 (a1 := 77) (a2 := 77) (n := 8) (lo := -2147483648) (hi := 2147483647) (nx := 156) (by decide +kernel) ⟨by decide, by decide⟩ ⟨by omega, by omega⟩ ⟨by decide, by decide⟩ ?_
                  intro h15 eh15 Ih15
                  have th15_37_0 : fld h15 37 0 = fld h14 37 0 := by rw [eh15]; exact fld_wr (by omega)
                  have th15_37_1 : fld h15 37 1 = fld h14 37 1 := by rw [eh15]; exact fld_wr (by omega)
                  have th15_37_2 : fld h15 37 2 = fld h14 37 2 := by rw [eh15]; exact fld_wr (by omega)
                  have Vh15 : mRq q h15 := Vh14.fr (zMR.one (a1 := 77) (a2 := 77) (j1 := 0) (j2 := 8) ⟨by decide, by decide⟩ ⟨by omega, by omega⟩ eh15) (by decide +kernel)
                  have Uh15 : yM h15 = (zs (zs (zs (yMls (yDuA q (yM h)) (vL4).toNat) 71 vL4.toNat 99) 78 vL4.toNat ((yMls (yDuA q (yM h)) (vL4).toNat) 77 vL4.toNat)) 77 vL4.toNat 0) := by rw [yM_w (a := 77) (n := 8) (i := vL4.toNat) (kd := 20) rfl (Ih14.s (a1 := 77) (a2 := 77) (by decide +kernel) (by decide) (by decide)) (by omega) eh15, Zh14]
                  have Zh15 : yM h15 = (zs (zs (zs (yMls (yDuA q (yM h)) (vL4).toNat) 71 vL4.toNat 99) 77 vL4.toNat 0) 78 vL4.toNat ((yMls (yDuA q (yM h)) (vL4).toNat) 77 vL4.toNat)) := by rw [Uh15, zs_sw (a := 78) (b := 77) (by decide)]
                  have Rh15 : zMR ms196 h h15 := Rh14.w (a1 := 77) (a2 := 77) (j1 := 0) (j2 := 8) (by decide +kernel) ⟨by decide, by decide⟩ ⟨by omega, by omega⟩ eh15
                  refine zwW_inc (i := 1) (c := 1) (x := vL4) (nx := 159) (by decide +kernel) rfl ⟨by omega, by omega⟩ (ls' := [(2, 37), (0, (vL4 + 1))]) rfl ?_
                  refine zwW_p [(24, 53, 0)] (q := 53) (ls' := [(2, 37), (0, (vL4 + 1))]) (st' := []) (by decide +kernel) rfl ?_
                  exact IHL4 ((100 - (vL4 + 1))).toNat (by omega) (vL4 + 1) h15 rfl (Vh15) (by omega) (by rw [show (vL4 + 1).toNat = (vL4).toNat + 1 by omega]; show _ = yMl1 _ _; unfold yMl1; refine Zh15.trans ?_; (repeat' (first | rw [if_pos (by omega)] | rw [if_neg (by omega)])); all_goals (repeat' (first | rfl | omega | (unfold w32; omega) | apply zs_cg))) Ih15 Rh15
                · refine zwW_p [(1, 0, 2)] (q := 124) (ls' := [(2, 37), (0, vL4)]) (st' := [(2, 37), (0, vL4), (2, 71)]) (by decide +kernel) rfl ?_
                  refine zwW_gc IhL4 (kd := 13) (bn := 12) (n := 97) (c := 71) (nx := 127) (by decide +kernel) ?_
                  refine zwW_p [(1, 1, 0)] (q := 128) (ls' := [(2, 37), (0, vL4)]) (st' := [(0, vL4), (2, 71), (0, vL4), (2, 71)]) (by decide +kernel) rfl ?_
                  refine zwW_al IhL4 (a1 := 71) (a2 := 71) (kd := 20) (n := 8) (t := 0) (lo := -2147483648) (hi := 2147483647) (nx := 129) (by decide +kernel) ⟨by decide, by decide⟩ ⟨by omega, by omega⟩ ?_
                  intro v16 ev16 lv16 uv16
                  have sv16 : v16 = (yMls (yDuA q (yM h)) (vL4).toNat) 71 vL4.toNat := Eq.trans ev16 (Eq.trans (Eq.symm (yM_p (h := hL4) (a := 71) (n := 8) (i := vL4.toNat) rfl (by omega))) (Eq.trans (congrFun (congrFun iL4_2 71) vL4.toNat) rfl))
                  refine zwW_p [(0, 1, 0)] (q := 130) (ls' := [(2, 37), (0, vL4)]) (st' := [(0, 1), (0, v16), (0, vL4), (2, 71)]) (by decide +kernel) rfl ?_
                  refine zwW_adw (nx := 131) (by decide +kernel) ?_
                  intro v17 ev17 lv17 uv17
                  have Ev17 : v17 = w32 (((yMls (yDuA q (yM h)) (vL4).toNat) 71 vL4.toNat) + 1) := by rw [ev17, sv16]
                  refine zwW_p [(24, 136, 0)] (q := 136) (ls' := [(2, 37), (0, vL4)]) (st' := [(0, v17), (0, vL4), (2, 71)]) (by decide +kernel) rfl ?_
                  refine zwW_as IhL4 (a1 := 71) (a2 := 71) (n := 8) (lo := -2147483648) (hi := 2147483647) (nx := 137) (by decide +kernel) ⟨by decide, by decide⟩ ⟨by omega, by omega⟩ ⟨by omega, by omega⟩ ?_
                  intro h18 eh18 Ih18
                  have th18_37_0 : fld h18 37 0 = fld hL4 37 0 := by rw [eh18]; exact fld_wr (by omega)
                  have th18_37_1 : fld h18 37 1 = fld hL4 37 1 := by rw [eh18]; exact fld_wr (by omega)
                  have th18_37_2 : fld h18 37 2 = fld hL4 37 2 := by rw [eh18]; exact fld_wr (by omega)
                  have Vh18 : mRq q h18 := iL4_0.fr (zMR.one (a1 := 71) (a2 := 71) (j1 := 0) (j2 := 8) ⟨by decide, by decide⟩ ⟨by omega, by omega⟩ eh18) (by decide +kernel)
                  have Zh18 : yM h18 = (zs (yMls (yDuA q (yM h)) (vL4).toNat) 71 vL4.toNat (w32 (((yMls (yDuA q (yM h)) (vL4).toNat) 71 vL4.toNat) + 1))) := by rw [yM_w (a := 71) (n := 8) (i := vL4.toNat) (kd := 20) rfl (IhL4.s (a1 := 71) (a2 := 71) (by decide +kernel) (by decide) (by decide)) (by omega) eh18, iL4_2, Ev17]
                  have Rh18 : zMR ms196 h h18 := RhL4.w (a1 := 71) (a2 := 71) (j1 := 0) (j2 := 8) (by decide +kernel) ⟨by decide, by decide⟩ ⟨by omega, by omega⟩ eh18
                  refine zwW_p [(1, 0, 2)] (q := 138) (ls' := [(2, 37), (0, vL4)]) (st' := [(2, 37)]) (by decide +kernel) rfl ?_
                  refine zwW_gc Ih18 (kd := 13) (bn := 19) (n := 97) (c := 78) (nx := 141) (by decide +kernel) ?_
                  refine zwW_p [(1, 1, 0), (1, 0, 2)] (q := 143) (ls' := [(2, 37), (0, vL4)]) (st' := [(2, 37), (0, vL4), (2, 78)]) (by decide +kernel) rfl ?_
                  refine zwW_gc Ih18 (kd := 13) (bn := 18) (n := 97) (c := 77) (nx := 146) (by decide +kernel) ?_
                  refine zwW_p [(1, 1, 0)] (q := 147) (ls' := [(2, 37), (0, vL4)]) (st' := [(0, vL4), (2, 77), (0, vL4), (2, 78)]) (by decide +kernel) rfl ?_
                  refine zwW_al Ih18 (a1 := 77) (a2 := 77) (kd := 20) (n := 8) (t := 0) (lo := -2147483648) (hi := 2147483647) (nx := 148) (by decide +kernel) ⟨by decide, by decide⟩ ⟨by omega, by omega⟩ ?_
                  intro v19 ev19 lv19 uv19
                  have sv19 : v19 = (yMls (yDuA q (yM h)) (vL4).toNat) 77 vL4.toNat := Eq.trans ev19 (Eq.trans (Eq.symm (yM_p (h := h18) (a := 77) (n := 8) (i := vL4.toNat) rfl (by omega))) (Eq.trans (congrFun (congrFun Zh18 77) vL4.toNat) (Eq.trans (zs_na (by decide) : (zs (yMls (yDuA q (yM h)) (vL4).toNat) 71 vL4.toNat (w32 (((yMls (yDuA q (yM h)) (vL4).toNat) 71 vL4.toNat) + 1))) 77 vL4.toNat = (yMls (yDuA q (yM h)) (vL4).toNat) 77 vL4.toNat) rfl)))
                  refine zwW_as Ih18 (a1 := 78) (a2 := 78) (n := 8) (lo := -2147483648) (hi := 2147483647) (nx := 149) (by decide +kernel) ⟨by decide, by decide⟩ ⟨by omega, by omega⟩ ⟨by omega, by omega⟩ ?_
                  intro h20 eh20 Ih20
                  have th20_37_0 : fld h20 37 0 = fld h18 37 0 := by rw [eh20]; exact fld_wr (by omega)
                  have th20_37_1 : fld h20 37 1 = fld h18 37 1 := by rw [eh20]; exact fld_wr (by omega)
                  have th20_37_2 : fld h20 37 2 = fld h18 37 2 := by rw [eh20]; exact fld_wr (by omega)
                  have Vh20 : mRq q h20 := Vh18.fr (zMR.one (a1 := 78) (a2 := 78) (j1 := 0) (j2 := 8) ⟨by decide, by decide⟩ ⟨by omega, by omega⟩ eh20) (by decide +kernel)
                  have Zh20 : yM h20 = (zs (zs (yMls (yDuA q (yM h)) (vL4).toNat) 71 vL4.toNat (w32 (((yMls (yDuA q (yM h)) (vL4).toNat) 71 vL4.toNat) + 1))) 78 vL4.toNat ((yMls (yDuA q (yM h)) (vL4).toNat) 77 vL4.toNat)) := by rw [yM_w (a := 78) (n := 8) (i := vL4.toNat) (kd := 20) rfl (Ih18.s (a1 := 78) (a2 := 78) (by decide +kernel) (by decide) (by decide)) (by omega) eh20, Zh18, sv19]
                  have Rh20 : zMR ms196 h h20 := Rh18.w (a1 := 78) (a2 := 78) (j1 := 0) (j2 := 8) (by decide +kernel) ⟨by decide, by decide⟩ ⟨by omega, by omega⟩ eh20
                  refine zwW_p [(1, 0, 2)] (q := 150) (ls' := [(2, 37), (0, vL4)]) (st' := [(2, 37)]) (by decide +kernel) rfl ?_
                  refine zwW_gc Ih20 (kd := 13) (bn := 18) (n := 97) (c := 77) (nx := 153) (by decide +kernel) ?_
                  refine zwW_p [(1, 1, 0), (0, 0, 0)] (q := 155) (ls' := [(2, 37), (0, vL4)]) (st' := [(0, 0), (0, vL4), (2, 77)]) (by decide +kernel) rfl ?_
                  refine zwW_as Ih20 (a1 := 77) (a2 := 77) (n := 8) (lo := -2147483648) (hi := 2147483647) (nx := 156) (by decide +kernel) ⟨by decide, by decide⟩ ⟨by omega, by omega⟩ ⟨by decide, by decide⟩ ?_
                  intro h21 eh21 Ih21
                  have th21_37_0 : fld h21 37 0 = fld h20 37 0 := by rw [eh21]; exact fld_wr (by omega)
                  have th21_37_1 : fld h21 37 1 = fld h20 37 1 := by rw [eh21]; exact fld_wr (by omega)
                  have th21_37_2 : fld h21 37 2 = fld h20 37 2 := by rw [eh21]; exact fld_wr (by omega)
                  have Vh21 : mRq q h21 := Vh20.fr (zMR.one (a1 := 77) (a2 := 77) (j1 := 0) (j2 := 8) ⟨by decide, by decide⟩ ⟨by omega, by omega⟩ eh21) (by decide +kernel)
                  have Uh21 : yM h21 = (zs (zs (zs (yMls (yDuA q (yM h)) (vL4).toNat) 71 vL4.toNat (w32 (((yMls (yDuA q (yM h)) (vL4).toNat) 71 vL4.toNat) + 1))) 78 vL4.toNat ((yMls (yDuA q (yM h)) (vL4).toNat) 77 vL4.toNat)) 77 vL4.toNat 0) := by rw [yM_w (a := 77) (n := 8) (i := vL4.toNat) (kd := 20) rfl (Ih20.s (a1 := 77) (a2 := 77) (by decide +kernel) (by decide) (by decide)) (by omega) eh21, Zh20]
                  have Zh21 : yM h21 = (zs (zs (zs (yMls (yDuA q (yM h)) (vL4).toNat) 71 vL4.toNat (w32 (((yMls (yDuA q (yM h)) (vL4).toNat) 71 vL4.toNat) + 1))) 77 vL4.toNat 0) 78 vL4.toNat ((yMls (yDuA q (yM h)) (vL4).toNat) 77 vL4.toNat)) := by rw [Uh21, zs_sw (a := 78) (b := 77) (by decide)]
                  have Rh21 : zMR ms196 h h21 := Rh20.w (a1 := 77) (a2 := 77) (j1 := 0) (j2 := 8) (by decide +kernel) ⟨by decide, by decide⟩ ⟨by omega, by omega⟩ eh21
                  refine zwW_inc (i := 1) (c := 1) (x := vL4) (nx := 159) (by decide +kernel) rfl ⟨by omega, by omega⟩ (ls' := [(2, 37), (0, (vL4 + 1))]) rfl ?_
                  refine zwW_p [(24, 53, 0)] (q := 53) (ls' := [(2, 37), (0, (vL4 + 1))]) (st' := []) (by decide +kernel) rfl ?_
                  exact IHL4 ((100 - (vL4 + 1))).toNat (by omega) (vL4 + 1) h21 rfl (Vh21) (by omega) (by rw [show (vL4 + 1).toNat = (vL4).toNat + 1 by omega]; show _ = yMl1 _ _; unfold yMl1; refine Zh21.trans ?_; (repeat' (first | rw [if_pos (by omega)] | rw [if_neg (by omega)])); all_goals (repeat' (first | rfl | omega | (unfold w32; omega) | apply zs_cg))) Ih21 Rh21
              · refine zwW_p [(1, 0, 2)] (q := 77) (ls' := [(2, 37), (0, vL4)]) (st' := [(2, 37)]) (by decide +kernel) rfl ?_
                refine zwW_gc IhL4 (kd := 13) (bn := 12) (n := 97) (c := 71) (nx := 80) (by decide +kernel) ?_
                refine zwW_p [(1, 1, 0), (1, 0, 2)] (q := 82) (ls' := [(2, 37), (0, vL4)]) (st' := [(2, 37), (0, vL4), (2, 71)]) (by decide +kernel) rfl ?_
                refine zwW_gc IhL4 (kd := 13) (bn := 12) (n := 97) (c := 71) (nx := 85) (by decide +kernel) ?_
                refine zwW_p [(1, 1, 0)] (q := 86) (ls' := [(2, 37), (0, vL4)]) (st' := [(0, vL4), (2, 71), (0, vL4), (2, 71)]) (by decide +kernel) rfl ?_
                refine zwW_al IhL4 (a1 := 71) (a2 := 71) (kd := 20) (n := 8) (t := 0) (lo := -2147483648) (hi := 2147483647) (nx := 87) (by decide +kernel) ⟨by decide, by decide⟩ ⟨by omega, by omega⟩ ?_
                intro v22 ev22 lv22 uv22
                have sv22 : v22 = (yMls (yDuA q (yM h)) (vL4).toNat) 71 vL4.toNat := Eq.trans ev22 (Eq.trans (Eq.symm (yM_p (h := hL4) (a := 71) (n := 8) (i := vL4.toNat) rfl (by omega))) (Eq.trans (congrFun (congrFun iL4_2 71) vL4.toNat) rfl))
                refine zwW_p [(0, 1, 0)] (q := 88) (ls' := [(2, 37), (0, vL4)]) (st' := [(0, 1), (0, v22), (0, vL4), (2, 71)]) (by decide +kernel) rfl ?_
                refine zwic_le (q := 102) (nx := 91) (by decide +kernel) (fun c23 => ?_) (fun c23 => ?_)
                · refine zwW_p [(0, 1, 0)] (q := 103) (ls' := [(2, 37), (0, vL4)]) (st' := [(0, 1), (0, vL4), (2, 71)]) (by decide +kernel) rfl ?_
                  refine zwW_as IhL4 (a1 := 71) (a2 := 71) (n := 8) (lo := -2147483648) (hi := 2147483647) (nx := 104) (by decide +kernel) ⟨by decide, by decide⟩ ⟨by omega, by omega⟩ ⟨by decide, by decide⟩ ?_
                  intro h24 eh24 Ih24
                  have th24_37_0 : fld h24 37 0 = fld hL4 37 0 := by rw [eh24]; exact fld_wr (by omega)
                  have th24_37_1 : fld h24 37 1 = fld hL4 37 1 := by rw [eh24]; exact fld_wr (by omega)
                  have th24_37_2 : fld h24 37 2 = fld hL4 37 2 := by rw [eh24]; exact fld_wr (by omega)
                  have Vh24 : mRq q h24 := iL4_0.fr (zMR.one (a1 := 71) (a2 := 71) (j1 := 0) (j2 := 8) ⟨by decide, by decide⟩ ⟨by omega, by omega⟩ eh24) (by decide +kernel)
                  have Zh24 : yM h24 = (zs (yMls (yDuA q (yM h)) (vL4).toNat) 71 vL4.toNat 1) := by rw [yM_w (a := 71) (n := 8) (i := vL4.toNat) (kd := 20) rfl (IhL4.s (a1 := 71) (a2 := 71) (by decide +kernel) (by decide) (by decide)) (by omega) eh24, iL4_2]
                  have Rh24 : zMR ms196 h h24 := RhL4.w (a1 := 71) (a2 := 71) (j1 := 0) (j2 := 8) (by decide +kernel) ⟨by decide, by decide⟩ ⟨by omega, by omega⟩ eh24
                  refine zwW_p [(24, 137, 0), (1, 0, 2)] (q := 138) (ls' := [(2, 37), (0, vL4)]) (st' := [(2, 37)]) (by decide +kernel) rfl ?_
                  refine zwW_gc Ih24 (kd := 13) (bn := 19) (n := 97) (c := 78) (nx := 141) (by decide +kernel) ?_
                  refine zwW_p [(1, 1, 0), (1, 0, 2)] (q := 143) (ls' := [(2, 37), (0, vL4)]) (st' := [(2, 37), (0, vL4), (2, 78)]) (by decide +kernel) rfl ?_
                  refine zwW_gc Ih24 (kd := 13) (bn := 18) (n := 97) (c := 77) (nx := 146) (by decide +kernel) ?_
                  refine zwW_p [(1, 1, 0)] (q := 147) (ls' := [(2, 37), (0, vL4)]) (st' := [(0, vL4), (2, 77), (0, vL4), (2, 78)]) (by decide +kernel) rfl ?_
                  refine zwW_al Ih24 (a1 := 77) (a2 := 77) (kd := 20) (n := 8) (t := 0) (lo := -2147483648) (hi := 2147483647) (nx := 148) (by decide +kernel) ⟨by decide, by decide⟩ ⟨by omega, by omega⟩ ?_
                  intro v25 ev25 lv25 uv25
                  have sv25 : v25 = (yMls (yDuA q (yM h)) (vL4).toNat) 77 vL4.toNat := Eq.trans ev25 (Eq.trans (Eq.symm (yM_p (h := h24) (a := 77) (n := 8) (i := vL4.toNat) rfl (by omega))) (Eq.trans (congrFun (congrFun Zh24 77) vL4.toNat) (Eq.trans (zs_na (by decide) : (zs (yMls (yDuA q (yM h)) (vL4).toNat) 71 vL4.toNat 1) 77 vL4.toNat = (yMls (yDuA q (yM h)) (vL4).toNat) 77 vL4.toNat) rfl)))
                  refine zwW_as Ih24 (a1 := 78) (a2 := 78) (n := 8) (lo := -2147483648) (hi := 2147483647) (nx := 149) (by decide +kernel) ⟨by decide, by decide⟩ ⟨by omega, by omega⟩ ⟨by omega, by omega⟩ ?_
                  intro h26 eh26 Ih26
                  have th26_37_0 : fld h26 37 0 = fld h24 37 0 := by rw [eh26]; exact fld_wr (by omega)
                  have th26_37_1 : fld h26 37 1 = fld h24 37 1 := by rw [eh26]; exact fld_wr (by omega)
                  have th26_37_2 : fld h26 37 2 = fld h24 37 2 := by rw [eh26]; exact fld_wr (by omega)
                  have Vh26 : mRq q h26 := Vh24.fr (zMR.one (a1 := 78) (a2 := 78) (j1 := 0) (j2 := 8) ⟨by decide, by decide⟩ ⟨by omega, by omega⟩ eh26) (by decide +kernel)
                  have Zh26 : yM h26 = (zs (zs (yMls (yDuA q (yM h)) (vL4).toNat) 71 vL4.toNat 1) 78 vL4.toNat ((yMls (yDuA q (yM h)) (vL4).toNat) 77 vL4.toNat)) := by rw [yM_w (a := 78) (n := 8) (i := vL4.toNat) (kd := 20) rfl (Ih24.s (a1 := 78) (a2 := 78) (by decide +kernel) (by decide) (by decide)) (by omega) eh26, Zh24, sv25]
                  have Rh26 : zMR ms196 h h26 := Rh24.w (a1 := 78) (a2 := 78) (j1 := 0) (j2 := 8) (by decide +kernel) ⟨by decide, by decide⟩ ⟨by omega, by omega⟩ eh26
                  refine zwW_p [(1, 0, 2)] (q := 150) (ls' := [(2, 37), (0, vL4)]) (st' := [(2, 37)]) (by decide +kernel) rfl ?_
                  refine zwW_gc Ih26 (kd := 13) (bn := 18) (n := 97) (c := 77) (nx := 153) (by decide +kernel) ?_
                  refine zwW_p [(1, 1, 0), (0, 0, 0)] (q := 155) (ls' := [(2, 37), (0, vL4)]) (st' := [(0, 0), (0, vL4), (2, 77)]) (by decide +kernel) rfl ?_
                  refine zwW_as Ih26 (a1 := 77) (a2 := 77) (n := 8) (lo := -2147483648) (hi := 2147483647) (nx := 156) (by decide +kernel) ⟨by decide, by decide⟩ ⟨by omega, by omega⟩ ⟨by decide, by decide⟩ ?_
                  intro h27 eh27 Ih27
                  have th27_37_0 : fld h27 37 0 = fld h26 37 0 := by rw [eh27]; exact fld_wr (by omega)
                  have th27_37_1 : fld h27 37 1 = fld h26 37 1 := by rw [eh27]; exact fld_wr (by omega)
                  have th27_37_2 : fld h27 37 2 = fld h26 37 2 := by rw [eh27]; exact fld_wr (by omega)
                  have Vh27 : mRq q h27 := Vh26.fr (zMR.one (a1 := 77) (a2 := 77) (j1 := 0) (j2 := 8) ⟨by decide, by decide⟩ ⟨by omega, by omega⟩ eh27) (by decide +kernel)
                  have Uh27 : yM h27 = (zs (zs (zs (yMls (yDuA q (yM h)) (vL4).toNat) 71 vL4.toNat 1) 78 vL4.toNat ((yMls (yDuA q (yM h)) (vL4).toNat) 77 vL4.toNat)) 77 vL4.toNat 0) := by rw [yM_w (a := 77) (n := 8) (i := vL4.toNat) (kd := 20) rfl (Ih26.s (a1 := 77) (a2 := 77) (by decide +kernel) (by decide) (by decide)) (by omega) eh27, Zh26]
                  have Zh27 : yM h27 = (zs (zs (zs (yMls (yDuA q (yM h)) (vL4).toNat) 71 vL4.toNat 1) 77 vL4.toNat 0) 78 vL4.toNat ((yMls (yDuA q (yM h)) (vL4).toNat) 77 vL4.toNat)) := by rw [Uh27, zs_sw (a := 78) (b := 77) (by decide)]
                  have Rh27 : zMR ms196 h h27 := Rh26.w (a1 := 77) (a2 := 77) (j1 := 0) (j2 := 8) (by decide +kernel) ⟨by decide, by decide⟩ ⟨by omega, by omega⟩ eh27
                  refine zwW_inc (i := 1) (c := 1) (x := vL4) (nx := 159) (by decide +kernel) rfl ⟨by omega, by omega⟩ (ls' := [(2, 37), (0, (vL4 + 1))]) rfl ?_
                  refine zwW_p [(24, 53, 0)] (q := 53) (ls' := [(2, 37), (0, (vL4 + 1))]) (st' := []) (by decide +kernel) rfl ?_
                  exact IHL4 ((100 - (vL4 + 1))).toNat (by omega) (vL4 + 1) h27 rfl (Vh27) (by omega) (by rw [show (vL4 + 1).toNat = (vL4).toNat + 1 by omega]; show _ = yMl1 _ _; unfold yMl1; refine Zh27.trans ?_; (repeat' (first | rw [if_pos (by omega)] | rw [if_neg (by omega)])); all_goals (repeat' (first | rfl | omega | (unfold w32; omega) | apply zs_cg))) Ih27 Rh27
                · refine zwW_p [(1, 0, 2)] (q := 92) (ls' := [(2, 37), (0, vL4)]) (st' := [(2, 37), (0, vL4), (2, 71)]) (by decide +kernel) rfl ?_
                  refine zwW_gc IhL4 (kd := 13) (bn := 12) (n := 97) (c := 71) (nx := 95) (by decide +kernel) ?_
                  refine zwW_p [(1, 1, 0)] (q := 96) (ls' := [(2, 37), (0, vL4)]) (st' := [(0, vL4), (2, 71), (0, vL4), (2, 71)]) (by decide +kernel) rfl ?_
                  refine zwW_al IhL4 (a1 := 71) (a2 := 71) (kd := 20) (n := 8) (t := 0) (lo := -2147483648) (hi := 2147483647) (nx := 97) (by decide +kernel) ⟨by decide, by decide⟩ ⟨by omega, by omega⟩ ?_
                  intro v28 ev28 lv28 uv28
                  have sv28 : v28 = (yMls (yDuA q (yM h)) (vL4).toNat) 71 vL4.toNat := Eq.trans ev28 (Eq.trans (Eq.symm (yM_p (h := hL4) (a := 71) (n := 8) (i := vL4.toNat) rfl (by omega))) (Eq.trans (congrFun (congrFun iL4_2 71) vL4.toNat) rfl))
                  refine zwW_p [(0, 1, 0)] (q := 98) (ls' := [(2, 37), (0, vL4)]) (st' := [(0, 1), (0, v28), (0, vL4), (2, 71)]) (by decide +kernel) rfl ?_
                  refine zwW_sbw (nx := 99) (by decide +kernel) ?_
                  intro v29 ev29 lv29 uv29
                  have Ev29 : v29 = w32 (((yMls (yDuA q (yM h)) (vL4).toNat) 71 vL4.toNat) - 1) := by rw [ev29, sv28]
                  refine zwW_p [(24, 103, 0)] (q := 103) (ls' := [(2, 37), (0, vL4)]) (st' := [(0, v29), (0, vL4), (2, 71)]) (by decide +kernel) rfl ?_
                  refine zwW_as IhL4 (a1 := 71) (a2 := 71) (n := 8) (lo := -2147483648) (hi := 2147483647) (nx := 104) (by decide +kernel) ⟨by decide, by decide⟩ ⟨by omega, by omega⟩ ⟨by omega, by omega⟩ ?_
                  intro h30 eh30 Ih30
                  have th30_37_0 : fld h30 37 0 = fld hL4 37 0 := by rw [eh30]; exact fld_wr (by omega)
                  have th30_37_1 : fld h30 37 1 = fld hL4 37 1 := by rw [eh30]; exact fld_wr (by omega)
                  have th30_37_2 : fld h30 37 2 = fld hL4 37 2 := by rw [eh30]; exact fld_wr (by omega)
                  have Vh30 : mRq q h30 := iL4_0.fr (zMR.one (a1 := 71) (a2 := 71) (j1 := 0) (j2 := 8) ⟨by decide, by decide⟩ ⟨by omega, by omega⟩ eh30) (by decide +kernel)
                  have Zh30 : yM h30 = (zs (yMls (yDuA q (yM h)) (vL4).toNat) 71 vL4.toNat (w32 (((yMls (yDuA q (yM h)) (vL4).toNat) 71 vL4.toNat) - 1))) := by rw [yM_w (a := 71) (n := 8) (i := vL4.toNat) (kd := 20) rfl (IhL4.s (a1 := 71) (a2 := 71) (by decide +kernel) (by decide) (by decide)) (by omega) eh30, iL4_2, Ev29]
                  have Rh30 : zMR ms196 h h30 := RhL4.w (a1 := 71) (a2 := 71) (j1 := 0) (j2 := 8) (by decide +kernel) ⟨by decide, by decide⟩ ⟨by omega, by omega⟩ eh30
                  refine zwW_p [(24, 137, 0), (1, 0, 2)] (q := 138) (ls' := [(2, 37), (0, vL4)]) (st' := [(2, 37)]) (by decide +kernel) rfl ?_
                  refine zwW_gc Ih30 (kd := 13) (bn := 19) (n := 97) (c := 78) (nx := 141) (by decide +kernel) ?_
                  refine zwW_p [(1, 1, 0), (1, 0, 2)] (q := 143) (ls' := [(2, 37), (0, vL4)]) (st' := [(2, 37), (0, vL4), (2, 78)]) (by decide +kernel) rfl ?_
                  refine zwW_gc Ih30 (kd := 13) (bn := 18) (n := 97) (c := 77) (nx := 146) (by decide +kernel) ?_
                  refine zwW_p [(1, 1, 0)] (q := 147) (ls' := [(2, 37), (0, vL4)]) (st' := [(0, vL4), (2, 77), (0, vL4), (2, 78)]) (by decide +kernel) rfl ?_
                  refine zwW_al Ih30 (a1 := 77) (a2 := 77) (kd := 20) (n := 8) (t := 0) (lo := -2147483648) (hi := 2147483647) (nx := 148) (by decide +kernel) ⟨by decide, by decide⟩ ⟨by omega, by omega⟩ ?_
                  intro v31 ev31 lv31 uv31
                  have sv31 : v31 = (yMls (yDuA q (yM h)) (vL4).toNat) 77 vL4.toNat := Eq.trans ev31 (Eq.trans (Eq.symm (yM_p (h := h30) (a := 77) (n := 8) (i := vL4.toNat) rfl (by omega))) (Eq.trans (congrFun (congrFun Zh30 77) vL4.toNat) (Eq.trans (zs_na (by decide) : (zs (yMls (yDuA q (yM h)) (vL4).toNat) 71 vL4.toNat (w32 (((yMls (yDuA q (yM h)) (vL4).toNat) 71 vL4.toNat) - 1))) 77 vL4.toNat = (yMls (yDuA q (yM h)) (vL4).toNat) 77 vL4.toNat) rfl)))
                  refine zwW_as Ih30 (a1 := 78) (a2 := 78) (n := 8) (lo := -2147483648) (hi := 2147483647) (nx := 149) (by decide +kernel) ⟨by decide, by decide⟩ ⟨by omega, by omega⟩ ⟨by omega, by omega⟩ ?_
                  intro h32 eh32 Ih32
                  have th32_37_0 : fld h32 37 0 = fld h30 37 0 := by rw [eh32]; exact fld_wr (by omega)
                  have th32_37_1 : fld h32 37 1 = fld h30 37 1 := by rw [eh32]; exact fld_wr (by omega)
                  have th32_37_2 : fld h32 37 2 = fld h30 37 2 := by rw [eh32]; exact fld_wr (by omega)
                  have Vh32 : mRq q h32 := Vh30.fr (zMR.one (a1 := 78) (a2 := 78) (j1 := 0) (j2 := 8) ⟨by decide, by decide⟩ ⟨by omega, by omega⟩ eh32) (by decide +kernel)
                  have Zh32 : yM h32 = (zs (zs (yMls (yDuA q (yM h)) (vL4).toNat) 71 vL4.toNat (w32 (((yMls (yDuA q (yM h)) (vL4).toNat) 71 vL4.toNat) - 1))) 78 vL4.toNat ((yMls (yDuA q (yM h)) (vL4).toNat) 77 vL4.toNat)) := by rw [yM_w (a := 78) (n := 8) (i := vL4.toNat) (kd := 20) rfl (Ih30.s (a1 := 78) (a2 := 78) (by decide +kernel) (by decide) (by decide)) (by omega) eh32, Zh30, sv31]
                  have Rh32 : zMR ms196 h h32 := Rh30.w (a1 := 78) (a2 := 78) (j1 := 0) (j2 := 8) (by decide +kernel) ⟨by decide, by decide⟩ ⟨by omega, by omega⟩ eh32
                  refine zwW_p [(1, 0, 2)] (q := 150) (ls' := [(2, 37), (0, vL4)]) (st' := [(2, 37)]) (by decide +kernel) rfl ?_
                  refine zwW_gc Ih32 (kd := 13) (bn := 18) (n := 97) (c := 77) (nx := 153) (by decide +kernel) ?_
                  refine zwW_p [(1, 1, 0), (0, 0, 0)] (q := 155) (ls' := [(2, 37), (0, vL4)]) (st' := [(0, 0), (0, vL4), (2, 77)]) (by decide +kernel) rfl ?_
                  refine zwW_as Ih32 (a1 := 77) (a2 := 77) (n := 8) (lo := -2147483648) (hi := 2147483647) (nx := 156) (by decide +kernel) ⟨by decide, by decide⟩ ⟨by omega, by omega⟩ ⟨by decide, by decide⟩ ?_
                  intro h33 eh33 Ih33
                  have th33_37_0 : fld h33 37 0 = fld h32 37 0 := by rw [eh33]; exact fld_wr (by omega)
                  have th33_37_1 : fld h33 37 1 = fld h32 37 1 := by rw [eh33]; exact fld_wr (by omega)
                  have th33_37_2 : fld h33 37 2 = fld h32 37 2 := by rw [eh33]; exact fld_wr (by omega)
                  have Vh33 : mRq q h33 := Vh32.fr (zMR.one (a1 := 77) (a2 := 77) (j1 := 0) (j2 := 8) ⟨by decide, by decide⟩ ⟨by omega, by omega⟩ eh33) (by decide +kernel)
                  have Uh33 : yM h33 = (zs (zs (zs (yMls (yDuA q (yM h)) (vL4).toNat) 71 vL4.toNat (w32 (((yMls (yDuA q (yM h)) (vL4).toNat) 71 vL4.toNat) - 1))) 78 vL4.toNat ((yMls (yDuA q (yM h)) (vL4).toNat) 77 vL4.toNat)) 77 vL4.toNat 0) := by rw [yM_w (a := 77) (n := 8) (i := vL4.toNat) (kd := 20) rfl (Ih32.s (a1 := 77) (a2 := 77) (by decide +kernel) (by decide) (by decide)) (by omega) eh33, Zh32]
                  have Zh33 : yM h33 = (zs (zs (zs (yMls (yDuA q (yM h)) (vL4).toNat) 71 vL4.toNat (w32 (((yMls (yDuA q (yM h)) (vL4).toNat) 71 vL4.toNat) - 1))) 77 vL4.toNat 0) 78 vL4.toNat ((yMls (yDuA q (yM h)) (vL4).toNat) 77 vL4.toNat)) := by rw [Uh33, zs_sw (a := 78) (b := 77) (by decide)]
                  have Rh33 : zMR ms196 h h33 := Rh32.w (a1 := 77) (a2 := 77) (j1 := 0) (j2 := 8) (by decide +kernel) ⟨by decide, by decide⟩ ⟨by omega, by omega⟩ eh33
                  refine zwW_inc (i := 1) (c := 1) (x := vL4) (nx := 159) (by decide +kernel) rfl ⟨by omega, by omega⟩ (ls' := [(2, 37), (0, (vL4 + 1))]) rfl ?_
                  refine zwW_p [(24, 53, 0)] (q := 53) (ls' := [(2, 37), (0, (vL4 + 1))]) (st' := []) (by decide +kernel) rfl ?_
                  exact IHL4 ((100 - (vL4 + 1))).toNat (by omega) (vL4 + 1) h33 rfl (Vh33) (by omega) (by rw [show (vL4 + 1).toNat = (vL4).toNat + 1 by omega]; show _ = yMl1 _ _; unfold yMl1; refine Zh33.trans ?_; (repeat' (first | rw [if_pos (by omega)] | rw [if_neg (by omega)])); all_goals (repeat' (first | rfl | omega | (unfold w32; omega) | apply zs_cg))) Ih33 Rh33
        exact L4 _ 0 hL1 rfl (iL1_0) (by omega) (iL1_2.trans (by unfold yDuA; rw [show (yM h 37 2).toNat = (kL1).toNat by show (fld h 37 2).toNat = _; omega]; rfl)) IhL1 RhL1
      · refine zwW_p [(1, 0, 2)] (q := 11) (ls' := [(2, 37), (0, kL1)]) (st' := [(2, 37)]) (by decide +kernel) rfl ?_
        refine zwW_gc IhL1 (kd := 13) (bn := 21) (n := 97) (c := 80) (nx := 14) (by decide +kernel) ?_
        refine zwW_p [(1, 1, 0)] (q := 15) (ls' := [(2, 37), (0, kL1)]) (st' := [(0, kL1), (2, 80)]) (by decide +kernel) rfl ?_
        refine zwW_al IhL1 (a1 := 80) (a2 := 80) (kd := 20) (n := 20) (t := 0) (lo := 0) (hi := 5) (nx := 16) (by decide +kernel) ⟨by decide, by decide⟩ ⟨by omega, by omega⟩ ?_
        intro v34 ev34 lv34 uv34
        have sv34 : v34 = (yDus q (yM h) (kL1).toNat) 80 kL1.toNat := Eq.trans ev34 (Eq.trans (Eq.symm (yM_p (h := hL1) (a := 80) (n := 20) (i := kL1.toNat) rfl (by omega))) (Eq.trans (congrFun (congrFun iL1_2 80) kL1.toNat) rfl))
        refine zwif_ne (q := 22) (nx := 19) (by decide +kernel) (fun c35 => ?_) (fun c35 => ?_)
        · have OKT : yOK (yDus q (yM h) (kL1).toNat) := ok.dus _
          have Z22 := iL1_2
          have N22 : (yDus q (yM h) (kL1).toNat) 37 0 = fld h 37 0 := yDus_n (by decide) _
          have M22 : (yDus q (yM h) (kL1).toNat) 37 2 = fld h 37 2 := yDus_n (by decide) _
          refine zwW_p [(1, 0, 2), (1, 1, 0)] (q := 24) (ls' := [(2, 37), (0, kL1)]) (st' := [(0, kL1), (2, 37)]) (by decide +kernel) rfl ?_
          refine zwW_cmv IhL1 (op := 60) (k' := 225) (n := 1) (kd := 13) (m := 97) (nx := 27) (r := 37) (tl := [(0, kL1)]) (st' := []) (by decide +kernel) rfl (by decide +kernel) rfl (m225_z hL1 IhL1 kL1 (by omega) (by omega)) ?_
          rintro h37 ⟨Ih37, Qh37, f36⟩
          have Rh37 : zMR ms196 h h37 := RhL1.tr Qh37 (by decide +kernel)
          have Vh37 : mRq q h37 := iL1_0.fr Qh37 (by decide +kernel)
          have th37_37_0 : fld h37 37 0 = fld hL1 37 0 := Qh37.f (a1 := 37) (a2 := 37) (j1 := 0) (j2 := 1) (by decide +kernel) ⟨by decide, by decide⟩ ⟨by decide, by decide⟩
          have th37_37_1 : fld h37 37 1 = fld hL1 37 1 := Qh37.f (a1 := 37) (a2 := 37) (j1 := 1) (j2 := 2) (by decide +kernel) ⟨by decide, by decide⟩ ⟨by decide, by decide⟩
          have th37_37_2 : fld h37 37 2 = fld hL1 37 2 := Qh37.f (a1 := 37) (a2 := 37) (j1 := 2) (j2 := 3) (by decide +kernel) ⟨by decide, by decide⟩ ⟨by decide, by decide⟩
          have Zh37 : yM h37 = (yDus q (yM h) (kL1).toNat) := (yM_fr Qh37 (by decide +kernel) (IhL1.b (a1 := 37) (a2 := 37) (j1 := 86) (j2 := 87) (lo := 0) (hi := 6) (by decide +kernel) (r := 37) (j := 86) (by decide) (by decide) (by decide) (by decide)).2).trans iL1_2
          have G24 : n13 168 h37 (yNmH (yDus q (yM h) (kL1).toNat) (kL1).toNat (yNm0 ((yDus q (yM h) (kL1).toNat) 37 0))) := by
            have z := f36
            rw [Z22] at z
            exact z
          refine zwW_p [(1, 0, 2)] (q := 28) (ls' := [(2, 37), (0, kL1)]) (st' := [(2, 37)]) (by decide +kernel) rfl ?_
          refine zwW_gc Ih37 (kd := 13) (bn := 34) (n := 97) (c := 93) (nx := 31) (by decide +kernel) ?_
          refine zwW_p [(1, 1, 0), (14, 0, 0)] (q := 33) (ls' := [(2, 37), (0, kL1)]) (st' := [(0, kL1), (2, 93), (0, kL1), (2, 93)]) (by decide +kernel) rfl ?_
          refine zwW_al Ih37 (a1 := 93) (a2 := 93) (kd := 23) (n := 20) (t := 1) (lo := -9223372036854775808) (hi := 9223372036854775807) (nx := 34) (by decide +kernel) ⟨by decide, by decide⟩ ⟨by omega, by omega⟩ ?_
          intro v38 ev38 lv38 uv38
          have S34 : (yDus q (yM h) (kL1).toNat) 93 (kL1).toNat = w32 v38 := by rw [← Zh37, yM_93 (by omega), ev38]
          refine zwW_p [(1, 0, 2), (0, 0, 0)] (q := 36) (ls' := [(2, 37), (0, kL1)]) (st' := [(0, 0), (2, 37), (1, v38), (0, kL1), (2, 93)]) (by decide +kernel) rfl ?_
          refine zwW_cm Ih37 (op := 60) (k' := 137) (n := 1) (kd := 13) (m := 97) (nx := 39) (r := 37) (tl := [(0, 0)]) (st' := [(1, v38), (0, kL1), (2, 93)]) (by decide +kernel) rfl (by decide +kernel) rfl (m137_e h37 Ih37 0 (by decide) (by decide) Vh37.2.1 Vh37.1 (G24.ns (eNs_nmh OKT (eNs_nm0 OKT) (by omega)))) ?_
          rintro v39 h42 ⟨Ih42, Qh42, f40, f41⟩
          have Rh42 : zMR ms196 h h42 := Rh37.tr Qh42 (by decide +kernel)
          have Vh42 : mRq q h42 := Vh37.fr Qh42 (by decide +kernel)
          have th42_37_0 : fld h42 37 0 = fld h37 37 0 := Qh42.f (a1 := 37) (a2 := 37) (j1 := 0) (j2 := 1) (by decide +kernel) ⟨by decide, by decide⟩ ⟨by decide, by decide⟩
          have th42_37_1 : fld h42 37 1 = fld h37 37 1 := Qh42.f (a1 := 37) (a2 := 37) (j1 := 1) (j2 := 2) (by decide +kernel) ⟨by decide, by decide⟩ ⟨by decide, by decide⟩
          have th42_37_2 : fld h42 37 2 = fld h37 37 2 := Qh42.f (a1 := 37) (a2 := 37) (j1 := 2) (j2 := 3) (by decide +kernel) ⟨by decide, by decide⟩ ⟨by decide, by decide⟩
          have Zh42 : yM h42 = (yDus q (yM h) (kL1).toNat) := (yM_fr Qh42 (by decide +kernel) (Ih37.b (a1 := 37) (a2 := 37) (j1 := 86) (j2 := 87) (lo := 0) (hi := 6) (by decide +kernel) (r := 37) (j := 86) (by decide) (by decide) (by decide) (by decide)).2).trans Zh37
          have A36 : v39 = q 0 ((yDus q (yM h) (kL1).toNat) 37 0) (yNmH (yDus q (yM h) (kL1).toNat) (kL1).toNat (yNm0 ((yDus q (yM h) (kL1).toNat) 37 0))) := by
            have z := f41
            rw [z, G24.tl, Vh37.2.2.2 _ _ _ (by decide) (by decide), show fld h37 37 0 = (yDus q (yM h) (kL1).toNat) 37 0 by omega]
          refine zwW_cs (k' := 129) (n := 1) (nx := 42) (as := [(0, v39)]) (st' := [(1, v38), (0, kL1), (2, 93)]) (by decide +kernel) rfl (m129 h42 v39 (by omega)) rfl ?_
          rintro v43 _ ⟨rfl, f44, f45, f46⟩
          refine zwW_p [(7, 0, 0)] (q := 43) (ls' := [(2, 37), (0, kL1)]) (st' := [(1, v43), (1, v38), (0, kL1), (2, 93)]) (by decide +kernel) rfl ?_
          refine zwW_law (nx := 44) (by decide +kernel) ?_
          intro v47 ev47 lv47 uv47
          have X44 : w32 v47 = w32 ((yDus q (yM h) (kL1).toNat) 93 (kL1).toNat + max v39 0) := by
            rw [S34, ev47]
            unfold w32 w64
            omega
          refine zwW_asl Ih42 (a1 := 93) (a2 := 93) (n := 20) (lo := -9223372036854775808) (hi := 9223372036854775807) (nx := 45) (by decide +kernel) ⟨by decide, by decide⟩ ⟨by omega, by omega⟩ ⟨by omega, by omega⟩ ?_
          intro h48 eh48 Ih48
          have th48_37_0 : fld h48 37 0 = fld h42 37 0 := by rw [eh48]; exact fld_wr (by omega)
          have th48_37_1 : fld h48 37 1 = fld h42 37 1 := by rw [eh48]; exact fld_wr (by omega)
          have th48_37_2 : fld h48 37 2 = fld h42 37 2 := by rw [eh48]; exact fld_wr (by omega)
          have Vh48 : mRq q h48 := Vh42.fr (zMR.one (a1 := 93) (a2 := 93) (j1 := 0) (j2 := 20) ⟨by decide, by decide⟩ ⟨by omega, by omega⟩ eh48) (by decide +kernel)
          have Zh48 : yM h48 = (zs (yDus q (yM h) (kL1).toNat) 93 kL1.toNat (w32 v47)) := by rw [yM_w93 (i := kL1.toNat) (kd := 23) (Ih42.s (a1 := 93) (a2 := 93) (by decide +kernel) (by decide) (by decide)) (by omega) eh48, Zh42]
          have Rh48 : zMR ms196 h h48 := Rh42.w (a1 := 93) (a2 := 93) (j1 := 0) (j2 := 20) (by decide +kernel) ⟨by decide, by decide⟩ ⟨by omega, by omega⟩ eh48
          refine zwW_inc (i := 1) (c := 1) (x := kL1) (nx := 48) (by decide +kernel) rfl ⟨by omega, by omega⟩ (ls' := [(2, 37), (0, (kL1 + 1))]) rfl ?_
          refine zwW_p [(24, 2, 0)] (q := 2) (ls' := [(2, 37), (0, (kL1 + 1))]) (st' := []) (by decide +kernel) rfl ?_
          exact IHL1 ((100 - (kL1 + 1))).toNat (by omega) (kL1 + 1) h48 rfl (Vh48) (by omega) (by rw [show (kL1 + 1).toNat = (kL1).toNat + 1 by omega]; show _ = yDu1 q _ _; unfold yDu1; first | (rw [if_neg (by omega)]; exact Zh48) | (rw [if_pos (by omega)]; unfold yOwe; rw [← A36]; exact Zh48.trans (zs_cg rfl rfl X44))) Ih48 Rh48
        · refine zwW_p [(24, 45, 0)] (q := 45) (ls' := [(2, 37), (0, kL1)]) (st' := []) (by decide +kernel) rfl ?_
          refine zwW_inc (i := 1) (c := 1) (x := kL1) (nx := 48) (by decide +kernel) rfl ⟨by omega, by omega⟩ (ls' := [(2, 37), (0, (kL1 + 1))]) rfl ?_
          refine zwW_p [(24, 2, 0)] (q := 2) (ls' := [(2, 37), (0, (kL1 + 1))]) (st' := []) (by decide +kernel) rfl ?_
          exact IHL1 ((100 - (kL1 + 1))).toNat (by omega) (kL1 + 1) hL1 rfl (iL1_0) (by omega) (by rw [show (kL1 + 1).toNat = (kL1).toNat + 1 by omega]; show _ = yDu1 q _ _; unfold yDu1; first | (rw [if_neg (by omega)]; exact iL1_2) | (rw [if_pos (by omega)]; unfold yOwe; rw [← A36]; exact iL1_2.trans (zs_cg rfl rfl X44))) IhL1 RhL1
  exact L1 _ 0 h rfl (V) (by omega) (rfl) I R
-- WheelLandModel.goRound()V
theorem m197_z {sc : List Int} (h : Hp) (I : zI h) : zwC sc 2 197 [(2, 37)] h (zwRv (fun g => zI g ∧ zMR ms197 h g ∧ (yM g = yWrA (yM h)))) := by
  refine zwC_of (D := 1) 3 (by decide +kernel) rfl (ls := [(2, 37), (9, 0), (9, 0)]) rfl ?_
  have R : zMR ms197 h h := zMR.rf _ _
  have u1 : yM h 37 1 = fld h 37 1 := rfl
  have N1 := I.b (a1 := 37) (a2 := 37) (j1 := 1) (j2 := 2) (lo := 0) (hi := 8) (by decide +kernel) (r := 37) (j := 1) (by decide) (by decide) (by decide) (by decide)
  refine zwW_p [(0, 0, 0), (2, 1, 0)] (q := 2) (ls' := [(2, 37), (0, 0), (9, 0)]) (st' := []) (by decide +kernel) rfl ?_
  have L1 : ∀ (n0 : Nat) (vL1 : Int) (w2L1 : Vl) (hL1 : Hp), n0 = ((100 - vL1)).toNat → ((0 ≤ vL1 ∧ vL1 ≤ fld h 37 1) ∧ fld hL1 37 1 = fld h 37 1) → (∀ j : Nat, (j : Int) < vL1 → fld hL1 362 j = yWm (yM h) j (fld h 37 1).toNat) → (yM hL1 = (yM h)) → zI hL1 → zMR ms197 h hL1 → zwW sc (1) 197 2 [(2, 37), (0, vL1), w2L1] [] hL1 (zwRv (fun g => zI g ∧ zMR ms197 h g ∧ (yM g = yWrA (yM h)))) := by
    intro n0
    induction n0 using Nat.strongRecOn with
    | ind n0 IHL1 =>
      intro vL1 w2L1 hL1 hnL1 iL1_0 iL1_1 iL1_2 IhL1 RhL1
      refine zwW_p [(1, 1, 0), (1, 0, 2)] (q := 4) (ls' := [(2, 37), (0, vL1), w2L1]) (st' := [(2, 37), (0, vL1)]) (by decide +kernel) rfl ?_
      refine zwW_gs IhL1 (kd := 13) (bn := 1) (n := 97) (t := 0) (lo := 0) (hi := 8) (nx := 7) (by decide +kernel) ?_
      intro v2 ev2 lv2 uv2
      have sv2 : v2 = (yM h) 37 1 := Eq.trans ev2 (Eq.trans (Eq.symm (yM_s (h := hL1) (i := 1) rfl)) (Eq.trans (congrFun (congrFun iL1_2 37) 1) rfl))
      refine zwic_ge (q := 91) (nx := 10) (by decide +kernel) (fun c3 => ?_) (fun c3 => ?_)
      · refine zwW_p [(0, 0, 0), (2, 1, 0)] (q := 93) (ls' := [(2, 37), (0, 0), w2L1]) (st' := []) (by decide +kernel) rfl ?_
        have L4 : ∀ (n0 : Nat) (vL4 : Int) (hL4 : Hp), n0 = ((100 - vL4)).toNat → ((0 ≤ vL4 ∧ vL4 ≤ fld h 37 1) ∧ fld hL4 37 1 = fld h 37 1) → (∀ j : Nat, (j : Int) < fld h 37 1 → fld hL4 362 j = yWm (yM h) j (fld h 37 1).toNat) → (yM hL4 = (yWds (yM h) (fld h 37 1).toNat (vL4).toNat)) → zI hL4 → zMR ms197 h hL4 → zwW sc (1) 197 93 [(2, 37), (0, vL4), w2L1] [] hL4 (zwRv (fun g => zI g ∧ zMR ms197 h g ∧ (yM g = yWrA (yM h)))) := by
          intro n0
          induction n0 using Nat.strongRecOn with
          | ind n0 IHL4 =>
            intro vL4 hL4 hnL4 iL4_0 iL4_1 iL4_2 IhL4 RhL4
            refine zwW_p [(1, 1, 0), (1, 0, 2)] (q := 95) (ls' := [(2, 37), (0, vL4), w2L1]) (st' := [(2, 37), (0, vL4)]) (by decide +kernel) rfl ?_
            refine zwW_gs IhL4 (kd := 13) (bn := 1) (n := 97) (t := 0) (lo := 0) (hi := 8) (nx := 98) (by decide +kernel) ?_
            intro v5 ev5 lv5 uv5
            have sv5 : v5 = (yWds (yM h) (fld h 37 1).toNat (vL4).toNat) 37 1 := Eq.trans ev5 (Eq.trans (Eq.symm (yM_s (h := hL4) (i := 1) rfl)) (Eq.trans (congrFun (congrFun iL4_2 37) 1) rfl))
            refine zwic_ge (q := 119) (nx := 101) (by decide +kernel) (fun c6 => ?_) (fun c6 => ?_)
            · refine zwW_retv (nx := 120) (a := 0) (b := 0) (by decide +kernel) ?_
              exact ⟨IhL4, RhL4, by refine Eq.trans iL4_2 ?_; unfold yWrA; rw [show (yM h 37 1).toNat = (fld h 37 1).toNat from rfl, show (vL4).toNat = (fld h 37 1).toNat by omega]⟩
            · refine zwW_p [(1, 0, 2)] (q := 102) (ls' := [(2, 37), (0, vL4), w2L1]) (st' := [(2, 37)]) (by decide +kernel) rfl ?_
              refine zwW_gc IhL4 (kd := 13) (bn := 13) (n := 97) (c := 72) (nx := 105) (by decide +kernel) ?_
              refine zwW_p [(1, 1, 0), (1, 0, 2)] (q := 107) (ls' := [(2, 37), (0, vL4), w2L1]) (st' := [(2, 37), (0, vL4), (2, 72)]) (by decide +kernel) rfl ?_
              refine zwW_gc IhL4 (kd := 13) (bn := 92) (n := 97) (c := 362) (nx := 110) (by decide +kernel) ?_
              refine zwW_p [(1, 1, 0)] (q := 111) (ls' := [(2, 37), (0, vL4), w2L1]) (st' := [(0, vL4), (2, 362), (0, vL4), (2, 72)]) (by decide +kernel) rfl ?_
              refine zwW_al IhL4 (a1 := 362) (a2 := 362) (kd := 20) (n := 8) (t := 0) (lo := -2147483648) (hi := 2147483647) (nx := 112) (by decide +kernel) ⟨by decide, by decide⟩ ⟨by omega, by omega⟩ ?_
              intro v7 ev7 lv7 uv7
              have V112 : v7 = yWm (yM h) (vL4).toNat (fld h 37 1).toNat := ev7.trans (iL4_1 _ (by omega))
              refine zwW_as IhL4 (a1 := 72) (a2 := 72) (n := 8) (lo := -2147483648) (hi := 2147483647) (nx := 113) (by decide +kernel) ⟨by decide, by decide⟩ ⟨by omega, by omega⟩ ⟨by omega, by omega⟩ ?_
              intro h8 eh8 Ih8
              have th8_37_1 : fld h8 37 1 = fld hL4 37 1 := by rw [eh8]; exact fld_wr (by omega)
              have W112 : fld h8 362 = fld hL4 362 := fld_o eh8 (by decide)
              have Zh8 : yM h8 = (zs (yWds (yM h) (fld h 37 1).toNat (vL4).toNat) 72 vL4.toNat v7) := by rw [yM_w (a := 72) (n := 8) (i := vL4.toNat) (kd := 20) rfl (IhL4.s (a1 := 72) (a2 := 72) (by decide +kernel) (by decide) (by decide)) (by omega) eh8, iL4_2]
              have Rh8 : zMR ms197 h h8 := RhL4.w (a1 := 72) (a2 := 72) (j1 := 0) (j2 := 8) (by decide +kernel) ⟨by decide, by decide⟩ ⟨by omega, by omega⟩ eh8
              refine zwW_inc (i := 1) (c := 1) (x := vL4) (nx := 116) (by decide +kernel) rfl ⟨by omega, by omega⟩ (ls' := [(2, 37), (0, (vL4 + 1)), w2L1]) rfl ?_
              refine zwW_p [(24, 93, 0)] (q := 93) (ls' := [(2, 37), (0, (vL4 + 1)), w2L1]) (st' := []) (by decide +kernel) rfl ?_
              exact IHL4 ((100 - (vL4 + 1))).toNat (by omega) (vL4 + 1) h8 rfl (by omega) (fun j hj => by rw [congrFun W112 j]; exact iL4_1 j hj) (by rw [show (vL4 + 1).toNat = (vL4).toNat + 1 by omega, yWds_s]; exact Zh8.trans (zs_cg rfl rfl V112)) Ih8 Rh8
        exact L4 _ 0 hL1 rfl (by omega) (fun j hj => iL1_1 j (by omega)) (iL1_2) IhL1 RhL1
      · refine zwW_p [(1, 0, 2)] (q := 11) (ls' := [(2, 37), (0, vL1), w2L1]) (st' := [(2, 37)]) (by decide +kernel) rfl ?_
        refine zwW_gc IhL1 (kd := 13) (bn := 92) (n := 97) (c := 362) (nx := 14) (by decide +kernel) ?_
        refine zwW_p [(1, 1, 0), (1, 0, 2)] (q := 16) (ls' := [(2, 37), (0, vL1), w2L1]) (st' := [(2, 37), (0, vL1), (2, 362)]) (by decide +kernel) rfl ?_
        refine zwW_gc IhL1 (kd := 13) (bn := 13) (n := 97) (c := 72) (nx := 19) (by decide +kernel) ?_
        refine zwW_p [(1, 1, 0)] (q := 20) (ls' := [(2, 37), (0, vL1), w2L1]) (st' := [(0, vL1), (2, 72), (0, vL1), (2, 362)]) (by decide +kernel) rfl ?_
        refine zwW_al IhL1 (a1 := 72) (a2 := 72) (kd := 20) (n := 8) (t := 0) (lo := -2147483648) (hi := 2147483647) (nx := 21) (by decide +kernel) ⟨by decide, by decide⟩ ⟨by omega, by omega⟩ ?_
        intro v9 ev9 lv9 uv9
        have sv9 : v9 = (yM h) 72 vL1.toNat := Eq.trans ev9 (Eq.trans (Eq.symm (yM_p (h := hL1) (a := 72) (n := 8) (i := vL1.toNat) rfl (by omega))) (Eq.trans (congrFun (congrFun iL1_2 72) vL1.toNat) rfl))
        refine zwW_p [(0, 1, 0)] (q := 22) (ls' := [(2, 37), (0, vL1), w2L1]) (st' := [(0, 1), (0, v9), (0, vL1), (2, 362)]) (by decide +kernel) rfl ?_
        refine zwW_sbw (nx := 23) (by decide +kernel) ?_
        intro v10 ev10 lv10 uv10
        have Ev10 : v10 = w32 (((yM h) 72 vL1.toNat) - 1) := by rw [ev10, sv9]
        have I23 : v10 = w32 ((yM h) 72 (vL1).toNat - 1) := by first | rw [ev10, sv9] | (rw [← sv9]; unfold w32; omega)
        refine zwW_cs (k' := 129) (n := 1) (nx := 26) (as := [(0, v10)]) (st' := [(0, vL1), (2, 362)]) (by decide +kernel) rfl (m129 hL1 v10 (by omega)) rfl ?_
        rintro v11 _ ⟨rfl, f12, f13, f14⟩
        refine zwW_as IhL1 (a1 := 362) (a2 := 362) (n := 8) (lo := -2147483648) (hi := 2147483647) (nx := 27) (by decide +kernel) ⟨by decide, by decide⟩ ⟨by omega, by omega⟩ ⟨by omega, by omega⟩ ?_
        intro h15 eh15 Ih15
        have th15_37_1 : fld h15 37 1 = fld hL1 37 1 := by rw [eh15]; exact fld_wr (by omega)
        have A26 : fld h15 362 (vL1).toNat = yWm (yM h) (vL1).toNat 0 := by
          rw [eh15, fld_wr_eq (IhL1.s (a1 := 362) (a2 := 362) (k := 20) (n := 8) (by decide +kernel) (by decide) (by decide)) (by omega), yWm_0, ← I23]
          omega
        have B26 : ∀ j : Nat, (j : Int) < vL1 → fld h15 362 j = yWm (yM h) j (fld h 37 1).toNat := fun j hj => by rw [eh15, fld_wr (Or.inr (by omega))]; exact iL1_1 j hj
        have Zh15 : yM h15 = (yM h) := (yM_fr (ms := [(362, 362, 0, 8)]) (zMR.one (a1 := 362) (a2 := 362) (j1 := 0) (j2 := 8) ⟨by decide, by decide⟩ ⟨by omega, by omega⟩ eh15) (by decide +kernel) (IhL1.b (a1 := 37) (a2 := 37) (j1 := 86) (j2 := 87) (lo := 0) (hi := 6) (by decide +kernel) (r := 37) (j := 86) (by decide) (by decide) (by decide) (by decide)).2).trans iL1_2
        have Rh15 : zMR ms197 h h15 := RhL1.w (a1 := 362) (a2 := 362) (j1 := 0) (j2 := 8) (by decide +kernel) ⟨by decide, by decide⟩ ⟨by omega, by omega⟩ eh15
        refine zwW_p [(0, 0, 0), (2, 2, 0)] (q := 29) (ls' := [(2, 37), (0, vL1), (0, 0)]) (st' := []) (by decide +kernel) rfl ?_
        have L16 : ∀ (n0 : Nat) (uL16 : Int) (hL16 : Hp), n0 = ((100 - uL16)).toNat → ((0 ≤ uL16 ∧ uL16 ≤ fld h 37 1) ∧ fld hL16 37 1 = fld h 37 1) → (∀ j : Nat, (j : Int) < vL1 → fld hL16 362 j = yWm (yM h) j (fld h 37 1).toNat) → (fld hL16 362 (vL1).toNat = yWm (yM h) (vL1).toNat (uL16).toNat) → (yM hL16 = (yM h)) → zI hL16 → zMR ms197 h hL16 → zwW sc (1) 197 29 [(2, 37), (0, vL1), (0, uL16)] [] hL16 (zwRv (fun g => zI g ∧ zMR ms197 h g ∧ (yM g = yWrA (yM h)))) := by
          intro n0
          induction n0 using Nat.strongRecOn with
          | ind n0 IHL16 =>
            intro uL16 hL16 hnL16 iL16_0 iL16_1 iL16_2 iL16_3 IhL16 RhL16
            refine zwW_p [(1, 2, 0), (1, 0, 2)] (q := 31) (ls' := [(2, 37), (0, vL1), (0, uL16)]) (st' := [(2, 37), (0, uL16)]) (by decide +kernel) rfl ?_
            refine zwW_gs IhL16 (kd := 13) (bn := 1) (n := 97) (t := 0) (lo := 0) (hi := 8) (nx := 34) (by decide +kernel) ?_
            intro v17 ev17 lv17 uv17
            have sv17 : v17 = (yM h) 37 1 := Eq.trans ev17 (Eq.trans (Eq.symm (yM_s (h := hL16) (i := 1) rfl)) (Eq.trans (congrFun (congrFun iL16_3 37) 1) rfl))
            refine zwic_ge (q := 85) (nx := 37) (by decide +kernel) (fun c18 => ?_) (fun c18 => ?_)
            · refine zwW_inc (i := 1) (c := 1) (x := vL1) (nx := 88) (by decide +kernel) rfl ⟨by omega, by omega⟩ (ls' := [(2, 37), (0, (vL1 + 1)), (0, uL16)]) rfl ?_
              refine zwW_p [(24, 2, 0)] (q := 2) (ls' := [(2, 37), (0, (vL1 + 1)), (0, uL16)]) (st' := []) (by decide +kernel) rfl ?_
              exact IHL1 ((100 - (vL1 + 1))).toNat (by omega) (vL1 + 1) (0, uL16) hL16 rfl (by omega) (fun j hj => by by_cases z : (j : Int) < vL1; exact iL16_1 j z; (have e : j = (vL1).toNat := by omega); rw [e, iL16_2, show (uL16).toNat = (fld h 37 1).toNat by omega]) (iL16_3) IhL16 RhL16
            · refine zwW_p [(1, 0, 2)] (q := 38) (ls' := [(2, 37), (0, vL1), (0, uL16)]) (st' := [(2, 37)]) (by decide +kernel) rfl ?_
              refine zwW_gc IhL16 (kd := 13) (bn := 4) (n := 97) (c := 47) (nx := 41) (by decide +kernel) ?_
              refine zwW_p [(1, 1, 0)] (q := 42) (ls' := [(2, 37), (0, vL1), (0, uL16)]) (st' := [(0, vL1), (2, 47)]) (by decide +kernel) rfl ?_
              refine zwW_ro IhL16 (a := 47) (n := 8) (kd := 26) (base := 48) (step := 1) (nx := 43) (by decide +kernel) rfl ⟨by omega, by omega⟩ ?_
              rw [show ((48 : Nat) : Int) + ((1 : Nat) : Int) * vL1 = (48 + vL1) by omega]
              refine zwW_p [(1, 2, 0)] (q := 44) (ls' := [(2, 37), (0, vL1), (0, uL16)]) (st' := [(0, uL16), (2, (48 + vL1))]) (by decide +kernel) rfl ?_
              refine zwW_al IhL16 (a1 := 48) (a2 := 55) (kd := 20) (n := 8) (t := 0) (lo := 0) (hi := 9) (nx := 45) (by decide +kernel) ⟨by omega, by omega⟩ ⟨by omega, by omega⟩ ?_
              intro v19 ev19 lv19 uv19
              have sv19 : v19 = (yM h) 48 (8 * vL1.toNat + uL16.toNat) := Eq.trans (show v19 = yM hL16 48 (8 * vL1.toNat + uL16.toNat) by rw [yM_2 (a := 48) (w := 8) (v := vL1.toNat) (j := uL16.toNat) rfl (by omega) (by show _ < 64; omega), ev19]; congr 1; omega) (Eq.trans (congrFun (congrFun iL16_3 48) (8 * vL1.toNat + uL16.toNat)) rfl)
              refine zwif_le (q := 79) (nx := 48) (by decide +kernel) (fun c20 => ?_) (fun c20 => ?_)
              · refine zwW_inc (i := 2) (c := 1) (x := uL16) (nx := 82) (by decide +kernel) rfl ⟨by omega, by omega⟩ (ls' := [(2, 37), (0, vL1), (0, (uL16 + 1))]) rfl ?_
                refine zwW_p [(24, 29, 0)] (q := 29) (ls' := [(2, 37), (0, vL1), (0, (uL16 + 1))]) (st' := []) (by decide +kernel) rfl ?_
                exact IHL16 ((100 - (uL16 + 1))).toNat (by omega) (uL16 + 1) hL16 rfl (by omega) (by first | exact B78 | exact iL16_1) (by rw [show (uL16 + 1).toNat = (uL16).toNat + 1 by omega, yWm_s]; first | (rw [if_neg (by omega)]; exact iL16_2) | (rw [if_pos (by omega), ← iL16_2, ← I78, A78]; omega) | (rw [if_pos (by omega), ← iL16_2, ← I56]; omega)) (iL16_3) IhL16 RhL16
              · refine zwW_p [(1, 0, 2)] (q := 49) (ls' := [(2, 37), (0, vL1), (0, uL16)]) (st' := [(2, 37)]) (by decide +kernel) rfl ?_
                refine zwW_gc IhL16 (kd := 13) (bn := 13) (n := 97) (c := 72) (nx := 52) (by decide +kernel) ?_
                refine zwW_p [(1, 2, 0)] (q := 53) (ls' := [(2, 37), (0, vL1), (0, uL16)]) (st' := [(0, uL16), (2, 72)]) (by decide +kernel) rfl ?_
                refine zwW_al IhL16 (a1 := 72) (a2 := 72) (kd := 20) (n := 8) (t := 0) (lo := -2147483648) (hi := 2147483647) (nx := 54) (by decide +kernel) ⟨by decide, by decide⟩ ⟨by omega, by omega⟩ ?_
                intro v21 ev21 lv21 uv21
                have sv21 : v21 = (yM h) 72 uL16.toNat := Eq.trans ev21 (Eq.trans (Eq.symm (yM_p (h := hL16) (a := 72) (n := 8) (i := uL16.toNat) rfl (by omega))) (Eq.trans (congrFun (congrFun iL16_3 72) uL16.toNat) rfl))
                refine zwW_p [(0, 2, 0)] (q := 55) (ls' := [(2, 37), (0, vL1), (0, uL16)]) (st' := [(0, 2), (0, v21)]) (by decide +kernel) rfl ?_
                refine zwW_sbw (nx := 56) (by decide +kernel) ?_
                intro v22 ev22 lv22 uv22
                have Ev22 : v22 = w32 (((yM h) 72 uL16.toNat) - 2) := by rw [ev22, sv21]
                have I56 : v22 = w32 ((yM h) 72 (uL16).toNat - 2) := by first | rw [ev22, sv21] | (rw [← sv21]; unfold w32; omega)
                refine zwW_p [(1, 0, 2)] (q := 57) (ls' := [(2, 37), (0, vL1), (0, uL16)]) (st' := [(2, 37), (0, v22)]) (by decide +kernel) rfl ?_
                refine zwW_gc IhL16 (kd := 13) (bn := 92) (n := 97) (c := 362) (nx := 60) (by decide +kernel) ?_
                refine zwW_p [(1, 1, 0)] (q := 61) (ls' := [(2, 37), (0, vL1), (0, uL16)]) (st' := [(0, vL1), (2, 362), (0, v22)]) (by decide +kernel) rfl ?_
                refine zwW_al IhL16 (a1 := 362) (a2 := 362) (kd := 20) (n := 8) (t := 0) (lo := -2147483648) (hi := 2147483647) (nx := 62) (by decide +kernel) ⟨by decide, by decide⟩ ⟨by omega, by omega⟩ ?_
                intro v23 ev23 lv23 uv23
                refine zwic_le (q := 79) (nx := 65) (by decide +kernel) (fun c24 => ?_) (fun c24 => ?_)
                · refine zwW_inc (i := 2) (c := 1) (x := uL16) (nx := 82) (by decide +kernel) rfl ⟨by omega, by omega⟩ (ls' := [(2, 37), (0, vL1), (0, (uL16 + 1))]) rfl ?_
                  refine zwW_p [(24, 29, 0)] (q := 29) (ls' := [(2, 37), (0, vL1), (0, (uL16 + 1))]) (st' := []) (by decide +kernel) rfl ?_
                  exact IHL16 ((100 - (uL16 + 1))).toNat (by omega) (uL16 + 1) hL16 rfl (by omega) (by first | exact B78 | exact iL16_1) (by rw [show (uL16 + 1).toNat = (uL16).toNat + 1 by omega, yWm_s]; first | (rw [if_neg (by omega)]; exact iL16_2) | (rw [if_pos (by omega), ← iL16_2, ← I78, A78]; omega) | (rw [if_pos (by omega), ← iL16_2, ← I56]; omega)) (iL16_3) IhL16 RhL16
                · refine zwW_p [(1, 0, 2)] (q := 66) (ls' := [(2, 37), (0, vL1), (0, uL16)]) (st' := [(2, 37)]) (by decide +kernel) rfl ?_
                  refine zwW_gc IhL16 (kd := 13) (bn := 92) (n := 97) (c := 362) (nx := 69) (by decide +kernel) ?_
                  refine zwW_p [(1, 1, 0), (1, 0, 2)] (q := 71) (ls' := [(2, 37), (0, vL1), (0, uL16)]) (st' := [(2, 37), (0, vL1), (2, 362)]) (by decide +kernel) rfl ?_
                  refine zwW_gc IhL16 (kd := 13) (bn := 13) (n := 97) (c := 72) (nx := 74) (by decide +kernel) ?_
                  refine zwW_p [(1, 2, 0)] (q := 75) (ls' := [(2, 37), (0, vL1), (0, uL16)]) (st' := [(0, uL16), (2, 72), (0, vL1), (2, 362)]) (by decide +kernel) rfl ?_
                  refine zwW_al IhL16 (a1 := 72) (a2 := 72) (kd := 20) (n := 8) (t := 0) (lo := -2147483648) (hi := 2147483647) (nx := 76) (by decide +kernel) ⟨by decide, by decide⟩ ⟨by omega, by omega⟩ ?_
                  intro v25 ev25 lv25 uv25
                  have sv25 : v25 = (yM h) 72 uL16.toNat := Eq.trans ev25 (Eq.trans (Eq.symm (yM_p (h := hL16) (a := 72) (n := 8) (i := uL16.toNat) rfl (by omega))) (Eq.trans (congrFun (congrFun iL16_3 72) uL16.toNat) rfl))
                  refine zwW_p [(0, 2, 0)] (q := 77) (ls' := [(2, 37), (0, vL1), (0, uL16)]) (st' := [(0, 2), (0, v25), (0, vL1), (2, 362)]) (by decide +kernel) rfl ?_
                  refine zwW_sbw (nx := 78) (by decide +kernel) ?_
                  intro v26 ev26 lv26 uv26
                  have Ev26 : v26 = w32 (((yM h) 72 uL16.toNat) - 2) := by rw [ev26, sv25]
                  have I78 : v26 = w32 ((yM h) 72 (uL16).toNat - 2) := by first | rw [ev26, sv25] | (rw [← sv25]; unfold w32; omega)
                  refine zwW_as IhL16 (a1 := 362) (a2 := 362) (n := 8) (lo := -2147483648) (hi := 2147483647) (nx := 79) (by decide +kernel) ⟨by decide, by decide⟩ ⟨by omega, by omega⟩ ⟨by omega, by omega⟩ ?_
                  intro h27 eh27 Ih27
                  have th27_37_1 : fld h27 37 1 = fld hL16 37 1 := by rw [eh27]; exact fld_wr (by omega)
                  have A78 : fld h27 362 (vL1).toNat = v26 := by rw [eh27]; exact fld_wr_eq (IhL16.s (a1 := 362) (a2 := 362) (k := 20) (n := 8) (by decide +kernel) (by decide) (by decide)) (by omega)
                  have B78 : ∀ j : Nat, (j : Int) < vL1 → fld h27 362 j = yWm (yM h) j (fld h 37 1).toNat := fun j hj => by rw [eh27, fld_wr (Or.inr (by omega))]; exact iL16_1 j hj
                  have Zh27 : yM h27 = (yM h) := (yM_fr (ms := [(362, 362, 0, 8)]) (zMR.one (a1 := 362) (a2 := 362) (j1 := 0) (j2 := 8) ⟨by decide, by decide⟩ ⟨by omega, by omega⟩ eh27) (by decide +kernel) (IhL16.b (a1 := 37) (a2 := 37) (j1 := 86) (j2 := 87) (lo := 0) (hi := 6) (by decide +kernel) (r := 37) (j := 86) (by decide) (by decide) (by decide) (by decide)).2).trans iL16_3
                  have Rh27 : zMR ms197 h h27 := RhL16.w (a1 := 362) (a2 := 362) (j1 := 0) (j2 := 8) (by decide +kernel) ⟨by decide, by decide⟩ ⟨by omega, by omega⟩ eh27
                  refine zwW_inc (i := 2) (c := 1) (x := uL16) (nx := 82) (by decide +kernel) rfl ⟨by omega, by omega⟩ (ls' := [(2, 37), (0, vL1), (0, (uL16 + 1))]) rfl ?_
                  refine zwW_p [(24, 29, 0)] (q := 29) (ls' := [(2, 37), (0, vL1), (0, (uL16 + 1))]) (st' := []) (by decide +kernel) rfl ?_
                  exact IHL16 ((100 - (uL16 + 1))).toNat (by omega) (uL16 + 1) h27 rfl (by omega) (by first | exact B78 | exact iL16_1) (by rw [show (uL16 + 1).toNat = (uL16).toNat + 1 by omega, yWm_s]; first | (rw [if_neg (by omega)]; exact iL16_2) | (rw [if_pos (by omega), ← iL16_2, ← I78, A78]; omega) | (rw [if_pos (by omega), ← iL16_2, ← I56]; omega)) (Zh27) Ih27 Rh27
        exact L16 _ 0 h15 rfl (by omega) (B26) (A26) (Zh15) Ih15 Rh15
  exact L1 _ 0 (9, 0) h rfl (by omega) (fun j hj => by omega) ((rfl : yM h = yM h)) I R
