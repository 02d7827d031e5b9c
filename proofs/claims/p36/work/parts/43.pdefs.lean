/-! joined: 43.pdefs 44.p1 45.pcomp 46.p2 47.gram 48.p3 49.hand 50.h1 50.zh -/
section
/-! the model's parser: what a part of the grammar leaves in the codes -/
section ZP
variable {sc : List Int} {D y pc nx : Nat} {ls st : List Vl} {h h' g : Hp} {Q : Option Vl → Hp → Prop}
/-- from step k to step m the codes put one more on the stack, and never look below -/
def zsg (F : Nat → Int) (k m : Nat) : Prop := k < m ∧ zdp F m = zdp F k + 1 ∧ ∀ i : Nat, k ≤ i → i < m → (F (2 * i) = 118 → 0 ≤ F (2 * i + 1) ∧ F (2 * i + 1) ≤ 12) ∧ (F (2 * i) = 110 ∨ F (2 * i) = 118 ∨ (F (2 * i) = 33 ∧ zdp F k + 1 ≤ zdp F i) ∨ (F (2 * i) ≠ 33 ∧ zdp F k + 2 ≤ zdp F i))
theorem zsg_c {F G : Nat → Int} {k m : Nat} (H : zsg F k m) (hfg : ∀ j, j < 2 * m → F j = G j) : zsg G k m := by
  obtain ⟨h1, h2, h3⟩ := H
  refine ⟨h1, by rw [← zdp_c m hfg, ← zdp_c k (fun j hj => hfg j (by omega))]; exact h2, fun i hi1 hi2 => ?_⟩
  have := h3 i hi1 hi2
  rw [← hfg (2 * i) (by omega), ← hfg (2 * i + 1) (by omega), ← zdp_c k (fun j hj => hfg j (by omega)), ← zdp_c i (fun j hj => hfg j (by omega))]
  exact this
theorem zdp_s (F : Nat → Int) (k : Nat) : zdp F (k + 1) = if F (2 * k) = 110 ∨ F (2 * k) = 118 then zdp F k + 1 else if F (2 * k) = 33 then zdp F k else zdp F k - 1 := rfl
theorem zsg_push {F : Nat → Int} {k : Nat} (h1 : F (2 * k) = 110 ∨ F (2 * k) = 118) (h2 : F (2 * k) = 118 → 0 ≤ F (2 * k + 1) ∧ F (2 * k + 1) ≤ 12) : zsg F k (k + 1) := by
  refine ⟨by omega, by rw [zdp_s, if_pos h1], fun i hi1 hi2 => ?_⟩
  obtain rfl : i = k := by omega
  exact ⟨h2, by omega⟩
theorem zsg_bin {F : Nat → Int} {k m n : Nat} (H1 : zsg F k m) (H2 : zsg F m n) (h1 : F (2 * n) ≠ 110 ∧ F (2 * n) ≠ 118 ∧ F (2 * n) ≠ 33) : zsg F k (n + 1) := by
  obtain ⟨a1, a2, a3⟩ := H1
  obtain ⟨b1, b2, b3⟩ := H2
  refine ⟨by omega, ?_, fun i hi1 hi2 => ?_⟩
  · rw [zdp_s, if_neg (by omega), if_neg (by omega)]
    omega
  · by_cases c1 : i < m
    · exact a3 i hi1 c1
    · by_cases c2 : i < n
      · have := b3 i (by omega) c2
        refine ⟨this.1, ?_⟩
        have := this.2
        omega
      · obtain rfl : i = n := by omega
        exact ⟨fun z => absurd z h1.2.1, by omega⟩
theorem zsg_not {F : Nat → Int} {k m : Nat} (H1 : zsg F k m) (h1 : F (2 * m) = 33) : zsg F k (m + 1) := by
  obtain ⟨a1, a2, a3⟩ := H1
  refine ⟨by omega, ?_, fun i hi1 hi2 => ?_⟩
  · rw [zdp_s, if_neg (by omega), if_pos h1]
    omega
  · by_cases c1 : i < m
    · exact a3 i hi1 c1
    · obtain rfl : i = m := by omega
      exact ⟨fun z => by omega, by omega⟩
theorem zsg_ok {F : Nat → Int} {m : Nat} (H : zsg F 0 m) : zok F m := by
  obtain ⟨a1, a2, a3⟩ := H
  refine ⟨a2, fun k hk => ?_⟩
  have := a3 k (Nat.zero_le _) hk
  have z : zdp F 0 = 0 := rfl
  rw [z] at this
  exact ⟨this.1, by have := this.2; omega⟩
/-- at ≤ end0 ≤ textMany, and a token isn't empty -/
def zP0 (h : Hp) : Prop := fld h 37 42 ≤ fld h 37 43 ∧ fld h 37 43 ≤ fld h 37 41 ∧ (fld h 37 42 < fld h 37 41 → fld h 37 42 < fld h 37 43)
def msP : Zms := [(37, 37, 42, 47), (149, 153, 0, 840)]
/-- what stands behind a part of the grammar that stood -/
def zPS (h g : Hp) : Prop := fld h 37 42 < fld g 37 42 ∧ fld g 37 45 - fld h 37 45 ≤ fld g 37 42 - fld h 37 42 ∧ fld g 37 44 = fld h 37 44 ∧ zsg (fld g (149 + fld h 37 47)) (fld h 37 45).toNat (fld g 37 45).toNat ∧ (∀ j : Nat, j < 2 * (fld h 37 45).toNat → fld g (149 + fld h 37 47) j = fld h (149 + fld h 37 47) j) ∧ ∀ r : Int, 149 ≤ r → r ≤ 153 → r ≠ 149 + fld h 37 47 → fld g r = fld h r
def zPQ (h : Hp) (x : Int) (g : Hp) : Prop := zI g ∧ zMR msP h g ∧ zP0 g ∧ ((x = 1 ∧ zPS h g) ∨ (x = 0 ∧ 0 ≤ fld g 37 44))
def zPX (sc : List Int) (D y : Nat) (a : Int) : Prop := ∀ h : Hp, zI h → zP0 h → 0 ≤ fld h 37 47 → fld h 37 45 ≤ fld h 37 42 → zwC sc D y [(2, 37), (0, a)] h (zwRt 0 (zPQ h))
theorem zMR.f1 {ms : Zms} (R : zMR ms h g) (j : Nat) (e : zqN ms 37 37 j (j + 1) = true) : fld g 37 j = fld h 37 j := R.f e (by first | decide | exact ⟨by decide, by decide⟩) ⟨Nat.le_refl _, Nat.lt_succ_self _⟩
theorem zP0.mr {ms : Zms} (H : zP0 h) (R : zMR ms h g) (e : zqN ms 37 37 41 44 = true) : zP0 g := by
  unfold zP0 at H ⊢
  rw [R.f e (r := 37) (j := 41) (by first | decide | exact ⟨by decide, by decide⟩) (by first | decide | exact ⟨by decide, by decide⟩), R.f e (r := 37) (j := 42) (by first | decide | exact ⟨by decide, by decide⟩) (by first | decide | exact ⟨by decide, by decide⟩), R.f e (r := 37) (j := 43) (by first | decide | exact ⟨by decide, by decide⟩) (by first | decide | exact ⟨by decide, by decide⟩)]
  exact H
theorem puts_fact {h1 h2 h3 : Hp} {C a b z : Int} {k : Nat} (e1 : h1 = wr h C (2 * k) a) (e2 : h2 = wr h1 C (2 * k + 1) b) (e3 : h3 = wr h2 37 45 z) (hC : C ≠ 37) (s : sh h C = some (20, 840)) (hk : 2 * k + 1 < 840) (j : Nat) : fld h3 C j = if j = 2 * k + 1 then b else if j = 2 * k then a else fld h C j := by
  rw [e3, fld_wr (Or.inl hC), e2]
  by_cases q1 : j = 2 * k + 1
  · rw [if_pos q1, q1]
    exact fld_wr_eq (by rw [e1, sh_wr]; exact s) hk
  · rw [if_neg q1, fld_wr (Or.inr q1), e1]
    by_cases q2 : j = 2 * k
    · rw [if_pos q2, q2]
      exact fld_wr_eq s (by omega)
    · rw [if_neg q2, fld_wr (Or.inr q2)]
theorem puts_oth {h1 h2 h3 : Hp} {C a b z : Int} {i k : Nat} (e1 : h1 = wr h C i a) (e2 : h2 = wr h1 C k b) (e3 : h3 = wr h2 37 45 z) (r : Int) (k1 : 149 ≤ r) (hr : r ≠ C) : fld h3 r = fld h r := by
  funext j
  rw [e3, fld_wr (Or.inl (by omega)), e2, fld_wr (Or.inl hr), e1, fld_wr (Or.inl hr)]
end ZP
end
section
/-! contracts of methods -/
def ms200 : Zms := [(37, 37, 42, 43), (37, 37, 43, 44)]
-- WheelLandModel.skips()V
theorem m200 {sc : List Int} (h : Hp) (I : zI h) (p1 : fld h 37 42 ≤ fld h 37 41) : zwC sc 2 200 [(2, 37)] h (zwRv (fun g => zI g ∧ zMR ms200 h g ∧ (fld h 37 42 ≤ fld g 37 42) ∧ (zP0 g))) := by
  refine zwC_of (D := 1) 1 (by decide +kernel) rfl (ls := [(2, 37)]) rfl ?_
  have R : zMR ms200 h h := zMR.rf _ _
  have L1 : ∀ (n : Nat) (hL1 : Hp), n = (fld hL1 37 41 - fld hL1 37 42).toNat → (fld hL1 37 42 ≤ fld hL1 37 41) → (fld hL1 37 41 = fld h 37 41) → (fld h 37 42 ≤ fld hL1 37 42) → zI hL1 → zMR ms200 h hL1 → zwW sc (1) 200 0 [(2, 37)] [] hL1 (zwRv (fun g => zI g ∧ zMR ms200 h g ∧ (fld h 37 42 ≤ fld g 37 42) ∧ (zP0 g))) := by
    intro n
    induction n using Nat.strongRecOn with
    | ind n IHL1 =>
      intro hL1 hnL1 iL1_0 iL1_1 iL1_2 IhL1 RhL1
      refine zwW_p [(1, 0, 2)] (q := 1) (ls' := [(2, 37)]) (st' := [(2, 37)]) (by decide +kernel) rfl ?_
      refine zwW_gs IhL1 (kd := 13) (bn := 42) (n := 97) (t := 0) (lo := 0) (hi := 400) (nx := 4) (by decide +kernel) ?_
      intro v2 ev2 lv2 uv2
      refine zwW_p [(1, 0, 2)] (q := 5) (ls' := [(2, 37)]) (st' := [(2, 37), (0, v2)]) (by decide +kernel) rfl ?_
      refine zwW_gs IhL1 (kd := 13) (bn := 41) (n := 97) (t := 0) (lo := 0) (hi := 400) (nx := 8) (by decide +kernel) ?_
      intro v3 ev3 lv3 uv3
      refine zwic_ge (q := 52) (nx := 11) (by decide +kernel) (fun c4 => ?_) (fun c4 => ?_)
      · refine zwW_p [(1, 0, 2), (1, 0, 2)] (q := 54) (ls' := [(2, 37)]) (st' := [(2, 37), (2, 37)]) (by decide +kernel) rfl ?_
        refine zwW_gs IhL1 (kd := 13) (bn := 42) (n := 97) (t := 0) (lo := 0) (hi := 400) (nx := 57) (by decide +kernel) ?_
        intro v5 ev5 lv5 uv5
        refine zwW_ps IhL1 (kd := 13) (bn := 43) (n := 97) (lo := 0) (hi := 400) (nx := 60) (by decide +kernel) (by first | omega | exact ⟨by omega, by omega⟩) ?_
        intro h6 eh6 Ih6
        have th6_37_41 : fld h6 37 41 = fld hL1 37 41 := by rw [eh6]; exact fld_wr (by decide)
        have th6_37_42 : fld h6 37 42 = fld hL1 37 42 := by rw [eh6]; exact fld_wr (by decide)
        have th6_37_43 : fld h6 37 43 = v5 := by rw [eh6]; exact fld_wr_eq (IhL1.s (a1 := 37) (a2 := 37) (k := 13) (n := 97) (by decide +kernel) (by decide) (by decide)) (by decide)
        have Rh6 : zMR ms200 h h6 := RhL1.w (a1 := 37) (a2 := 37) (j1 := 43) (j2 := 44) (by decide +kernel) (by first | decide | exact ⟨by decide, by decide⟩) (by first | decide | exact ⟨by decide, by decide⟩) eh6
        refine zwW_p [(1, 0, 2)] (q := 61) (ls' := [(2, 37)]) (st' := [(2, 37)]) (by decide +kernel) rfl ?_
        refine zwW_gs Ih6 (kd := 13) (bn := 42) (n := 97) (t := 0) (lo := 0) (hi := 400) (nx := 64) (by decide +kernel) ?_
        intro v7 ev7 lv7 uv7
        refine zwW_p [(1, 0, 2)] (q := 65) (ls' := [(2, 37)]) (st' := [(2, 37), (0, v7)]) (by decide +kernel) rfl ?_
        refine zwW_gs Ih6 (kd := 13) (bn := 41) (n := 97) (t := 0) (lo := 0) (hi := 400) (nx := 68) (by decide +kernel) ?_
        intro v8 ev8 lv8 uv8
        refine zwic_ne (q := 72) (nx := 71) (by decide +kernel) (fun c9 => ?_) (fun c9 => ?_)
        · refine zwW_p [(1, 0, 2)] (q := 73) (ls' := [(2, 37)]) (st' := [(2, 37)]) (by decide +kernel) rfl ?_
          refine zwW_gc Ih6 (kd := 13) (bn := 40) (n := 97) (c := 98) (nx := 76) (by decide +kernel) ?_
          refine zwW_p [(1, 0, 2)] (q := 77) (ls' := [(2, 37)]) (st' := [(2, 37), (2, 98)]) (by decide +kernel) rfl ?_
          refine zwW_gs Ih6 (kd := 13) (bn := 42) (n := 97) (t := 0) (lo := 0) (hi := 400) (nx := 80) (by decide +kernel) ?_
          intro v10 ev10 lv10 uv10
          have X80 : v10 = fld h6 37 42 := by omega
          refine zwW_al Ih6 (a1 := 98) (a2 := 98) (kd := 21) (n := 400) (t := 0) (lo := -128) (hi := 127) (nx := 81) (by decide +kernel) (by first | decide | exact ⟨by decide, by decide⟩) (by first | omega | exact ⟨by omega, by omega⟩) ?_
          intro v11 ev11 lv11 uv11
          have G81 : v11 = fld h6 98 (fld h6 37 42).toNat := by rw [ev11, X80]
          refine zwW_cs (k' := 244) (n := 1) (nx := 84) (as := [(0, v11)]) (st' := []) (by decide +kernel) rfl (m244 h6 v11) rfl ?_
          rintro x _ ⟨rfl, ⟨rfl, c12⟩ | ⟨rfl, c12⟩⟩
          · refine zwif_eq (q := 126) (nx := 87) (by decide +kernel) (fun c13 => ?_) (fun c13 => ?_)
            · exfalso; omega
            · have L14 : ∀ (n : Nat) (hL14 : Hp), n = (fld hL14 37 41 - fld hL14 37 43).toNat → (fld hL14 37 42 < fld hL14 37 41) → (fld h 37 42 ≤ fld hL14 37 42) → (fld hL14 37 42 ≤ fld hL14 37 43 ∧ fld hL14 37 43 ≤ fld hL14 37 41) → (fld hL14 37 43 = fld hL14 37 42 → 97 ≤ fld hL14 98 (fld hL14 37 42).toNat ∧ fld hL14 98 (fld hL14 37 42).toNat ≤ 122) → zI hL14 → zMR ms200 h hL14 → zwW sc (1) 200 87 [(2, 37)] [] hL14 (zwRv (fun g => zI g ∧ zMR ms200 h g ∧ (fld h 37 42 ≤ fld g 37 42) ∧ (zP0 g))) := by
                intro n
                induction n using Nat.strongRecOn with
                | ind n IHL14 =>
                  intro hL14 hnL14 iL14_0 iL14_1 iL14_2 iL14_3 IhL14 RhL14
                  refine zwW_p [(1, 0, 2)] (q := 88) (ls' := [(2, 37)]) (st' := [(2, 37)]) (by decide +kernel) rfl ?_
                  refine zwW_gs IhL14 (kd := 13) (bn := 43) (n := 97) (t := 0) (lo := 0) (hi := 400) (nx := 91) (by decide +kernel) ?_
                  intro v15 ev15 lv15 uv15
                  refine zwW_p [(1, 0, 2)] (q := 92) (ls' := [(2, 37)]) (st' := [(2, 37), (0, v15)]) (by decide +kernel) rfl ?_
                  refine zwW_gs IhL14 (kd := 13) (bn := 41) (n := 97) (t := 0) (lo := 0) (hi := 400) (nx := 95) (by decide +kernel) ?_
                  intro v16 ev16 lv16 uv16
                  refine zwic_ge (q := 190) (nx := 98) (by decide +kernel) (fun c17 => ?_) (fun c17 => ?_)
                  · refine zwW_retv (nx := 191) (a := 0) (b := 0) (by decide +kernel) ?_
                    exact ⟨IhL14, RhL14, by omega, by (unfold zP0; omega)⟩
                  · refine zwW_p [(1, 0, 2)] (q := 99) (ls' := [(2, 37)]) (st' := [(2, 37)]) (by decide +kernel) rfl ?_
                    refine zwW_gc IhL14 (kd := 13) (bn := 40) (n := 97) (c := 98) (nx := 102) (by decide +kernel) ?_
                    refine zwW_p [(1, 0, 2)] (q := 103) (ls' := [(2, 37)]) (st' := [(2, 37), (2, 98)]) (by decide +kernel) rfl ?_
                    refine zwW_gs IhL14 (kd := 13) (bn := 43) (n := 97) (t := 0) (lo := 0) (hi := 400) (nx := 106) (by decide +kernel) ?_
                    intro v18 ev18 lv18 uv18
                    have X106 : fld hL14 37 43 = fld hL14 37 42 → v18 = fld hL14 37 42 := fun hq => by omega
                    refine zwW_al IhL14 (a1 := 98) (a2 := 98) (kd := 21) (n := 400) (t := 0) (lo := -128) (hi := 127) (nx := 107) (by decide +kernel) (by first | decide | exact ⟨by decide, by decide⟩) (by first | omega | exact ⟨by omega, by omega⟩) ?_
                    intro v19 ev19 lv19 uv19
                    have G107 : fld hL14 37 43 = fld hL14 37 42 → v19 = fld hL14 98 (fld hL14 37 42).toNat := fun hq => by rw [ev19, X106 hq]
                    refine zwW_cs (k' := 244) (n := 1) (nx := 110) (as := [(0, v19)]) (st' := []) (by decide +kernel) rfl (m244 hL14 v19) rfl ?_
                    rintro x _ ⟨rfl, ⟨rfl, c20⟩ | ⟨rfl, c20⟩⟩
                    · refine zwif_eq (q := 190) (nx := 113) (by decide +kernel) (fun c21 => ?_) (fun c21 => ?_)
                      · exfalso; omega
                      · refine zwW_p [(1, 0, 2), (12, 0, 0)] (q := 115) (ls' := [(2, 37)]) (st' := [(2, 37), (2, 37)]) (by decide +kernel) rfl ?_
                        refine zwW_gs IhL14 (kd := 13) (bn := 43) (n := 97) (t := 0) (lo := 0) (hi := 400) (nx := 118) (by decide +kernel) ?_
                        intro v22 ev22 lv22 uv22
                        refine zwW_p [(0, 1, 0)] (q := 119) (ls' := [(2, 37)]) (st' := [(0, 1), (0, v22), (2, 37)]) (by decide +kernel) rfl ?_
                        refine zwW_add (nx := 120) (by decide +kernel) (by first | omega | exact ⟨by omega, by omega⟩) ?_
                        refine zwW_ps IhL14 (kd := 13) (bn := 43) (n := 97) (lo := 0) (hi := 400) (nx := 123) (by decide +kernel) (by first | omega | exact ⟨by omega, by omega⟩) ?_
                        intro h23 eh23 Ih23
                        have th23_37_41 : fld h23 37 41 = fld hL14 37 41 := by rw [eh23]; exact fld_wr (by decide)
                        have th23_37_42 : fld h23 37 42 = fld hL14 37 42 := by rw [eh23]; exact fld_wr (by decide)
                        have th23_37_43 : fld h23 37 43 = (v22 + 1) := by rw [eh23]; exact fld_wr_eq (IhL14.s (a1 := 37) (a2 := 37) (k := 13) (n := 97) (by decide +kernel) (by decide) (by decide)) (by decide)
                        have Rh23 : zMR ms200 h h23 := RhL14.w (a1 := 37) (a2 := 37) (j1 := 43) (j2 := 44) (by decide +kernel) (by first | decide | exact ⟨by decide, by decide⟩) (by first | decide | exact ⟨by decide, by decide⟩) eh23
                        refine zwW_p [(24, 87, 0)] (q := 87) (ls' := [(2, 37)]) (st' := []) (by decide +kernel) rfl ?_
                        exact IHL14 (fld h23 37 41 - fld h23 37 43).toNat (by omega) h23 rfl (by omega) (by omega) (by omega) (by omega) Ih23 Rh23
                    · refine zwif_eq (q := 190) (nx := 113) (by decide +kernel) (fun c24 => ?_) (fun c24 => ?_)
                      · refine zwW_retv (nx := 191) (a := 0) (b := 0) (by decide +kernel) ?_
                        exact ⟨IhL14, RhL14, by omega, by (unfold zP0; omega)⟩
                      · exfalso; omega
              exact L14 _ h6 rfl (by omega) (by omega) (by omega) (by omega) Ih6 Rh6
          · refine zwif_eq (q := 126) (nx := 87) (by decide +kernel) (fun c25 => ?_) (fun c25 => ?_)
            · refine zwW_p [(1, 0, 2)] (q := 127) (ls' := [(2, 37)]) (st' := [(2, 37)]) (by decide +kernel) rfl ?_
              refine zwW_gc Ih6 (kd := 13) (bn := 40) (n := 97) (c := 98) (nx := 130) (by decide +kernel) ?_
              refine zwW_p [(1, 0, 2)] (q := 131) (ls' := [(2, 37)]) (st' := [(2, 37), (2, 98)]) (by decide +kernel) rfl ?_
              refine zwW_gs Ih6 (kd := 13) (bn := 42) (n := 97) (t := 0) (lo := 0) (hi := 400) (nx := 134) (by decide +kernel) ?_
              intro v26 ev26 lv26 uv26
              have X134 : v26 = fld h6 37 42 := by omega
              refine zwW_al Ih6 (a1 := 98) (a2 := 98) (kd := 21) (n := 400) (t := 0) (lo := -128) (hi := 127) (nx := 135) (by decide +kernel) (by first | decide | exact ⟨by decide, by decide⟩) (by first | omega | exact ⟨by omega, by omega⟩) ?_
              intro v27 ev27 lv27 uv27
              have G135 : v27 = fld h6 98 (fld h6 37 42).toNat := by rw [ev27, X134]
              refine zwW_cs (k' := 245) (n := 1) (nx := 138) (as := [(0, v27)]) (st' := []) (by decide +kernel) rfl (m245 h6 v27) rfl ?_
              rintro x _ ⟨rfl, ⟨rfl, c28⟩ | ⟨rfl, c28⟩⟩
              · refine zwif_eq (q := 180) (nx := 141) (by decide +kernel) (fun c29 => ?_) (fun c29 => ?_)
                · exfalso; omega
                · have L30 : ∀ (n : Nat) (hL30 : Hp), n = (fld hL30 37 41 - fld hL30 37 43).toNat → (fld hL30 37 42 < fld hL30 37 41) → (fld h 37 42 ≤ fld hL30 37 42) → (fld hL30 37 42 ≤ fld hL30 37 43 ∧ fld hL30 37 43 ≤ fld hL30 37 41) → (fld hL30 37 43 = fld hL30 37 42 → 48 ≤ fld hL30 98 (fld hL30 37 42).toNat ∧ fld hL30 98 (fld hL30 37 42).toNat ≤ 57) → zI hL30 → zMR ms200 h hL30 → zwW sc (1) 200 141 [(2, 37)] [] hL30 (zwRv (fun g => zI g ∧ zMR ms200 h g ∧ (fld h 37 42 ≤ fld g 37 42) ∧ (zP0 g))) := by
                    intro n
                    induction n using Nat.strongRecOn with
                    | ind n IHL30 =>
                      intro hL30 hnL30 iL30_0 iL30_1 iL30_2 iL30_3 IhL30 RhL30
                      refine zwW_p [(1, 0, 2)] (q := 142) (ls' := [(2, 37)]) (st' := [(2, 37)]) (by decide +kernel) rfl ?_
                      refine zwW_gs IhL30 (kd := 13) (bn := 43) (n := 97) (t := 0) (lo := 0) (hi := 400) (nx := 145) (by decide +kernel) ?_
                      intro v31 ev31 lv31 uv31
                      refine zwW_p [(1, 0, 2)] (q := 146) (ls' := [(2, 37)]) (st' := [(2, 37), (0, v31)]) (by decide +kernel) rfl ?_
                      refine zwW_gs IhL30 (kd := 13) (bn := 41) (n := 97) (t := 0) (lo := 0) (hi := 400) (nx := 149) (by decide +kernel) ?_
                      intro v32 ev32 lv32 uv32
                      refine zwic_ge (q := 190) (nx := 152) (by decide +kernel) (fun c33 => ?_) (fun c33 => ?_)
                      · refine zwW_retv (nx := 191) (a := 0) (b := 0) (by decide +kernel) ?_
                        exact ⟨IhL30, RhL30, by omega, by (unfold zP0; omega)⟩
                      · refine zwW_p [(1, 0, 2)] (q := 153) (ls' := [(2, 37)]) (st' := [(2, 37)]) (by decide +kernel) rfl ?_
                        refine zwW_gc IhL30 (kd := 13) (bn := 40) (n := 97) (c := 98) (nx := 156) (by decide +kernel) ?_
                        refine zwW_p [(1, 0, 2)] (q := 157) (ls' := [(2, 37)]) (st' := [(2, 37), (2, 98)]) (by decide +kernel) rfl ?_
                        refine zwW_gs IhL30 (kd := 13) (bn := 43) (n := 97) (t := 0) (lo := 0) (hi := 400) (nx := 160) (by decide +kernel) ?_
                        intro v34 ev34 lv34 uv34
                        have X160 : fld hL30 37 43 = fld hL30 37 42 → v34 = fld hL30 37 42 := fun hq => by omega
                        refine zwW_al IhL30 (a1 := 98) (a2 := 98) (kd := 21) (n := 400) (t := 0) (lo := -128) (hi := 127) (nx := 161) (by decide +kernel) (by first | decide | exact ⟨by decide, by decide⟩) (by first | omega | exact ⟨by omega, by omega⟩) ?_
                        intro v35 ev35 lv35 uv35
                        have G161 : fld hL30 37 43 = fld hL30 37 42 → v35 = fld hL30 98 (fld hL30 37 42).toNat := fun hq => by rw [ev35, X160 hq]
                        refine zwW_cs (k' := 245) (n := 1) (nx := 164) (as := [(0, v35)]) (st' := []) (by decide +kernel) rfl (m245 hL30 v35) rfl ?_
                        rintro x _ ⟨rfl, ⟨rfl, c36⟩ | ⟨rfl, c36⟩⟩
                        · refine zwif_eq (q := 190) (nx := 167) (by decide +kernel) (fun c37 => ?_) (fun c37 => ?_)
                          · exfalso; omega
                          · refine zwW_p [(1, 0, 2), (12, 0, 0)] (q := 169) (ls' := [(2, 37)]) (st' := [(2, 37), (2, 37)]) (by decide +kernel) rfl ?_
                            refine zwW_gs IhL30 (kd := 13) (bn := 43) (n := 97) (t := 0) (lo := 0) (hi := 400) (nx := 172) (by decide +kernel) ?_
                            intro v38 ev38 lv38 uv38
                            refine zwW_p [(0, 1, 0)] (q := 173) (ls' := [(2, 37)]) (st' := [(0, 1), (0, v38), (2, 37)]) (by decide +kernel) rfl ?_
                            refine zwW_add (nx := 174) (by decide +kernel) (by first | omega | exact ⟨by omega, by omega⟩) ?_
                            refine zwW_ps IhL30 (kd := 13) (bn := 43) (n := 97) (lo := 0) (hi := 400) (nx := 177) (by decide +kernel) (by first | omega | exact ⟨by omega, by omega⟩) ?_
                            intro h39 eh39 Ih39
                            have th39_37_41 : fld h39 37 41 = fld hL30 37 41 := by rw [eh39]; exact fld_wr (by decide)
                            have th39_37_42 : fld h39 37 42 = fld hL30 37 42 := by rw [eh39]; exact fld_wr (by decide)
                            have th39_37_43 : fld h39 37 43 = (v38 + 1) := by rw [eh39]; exact fld_wr_eq (IhL30.s (a1 := 37) (a2 := 37) (k := 13) (n := 97) (by decide +kernel) (by decide) (by decide)) (by decide)
                            have Rh39 : zMR ms200 h h39 := RhL30.w (a1 := 37) (a2 := 37) (j1 := 43) (j2 := 44) (by decide +kernel) (by first | decide | exact ⟨by decide, by decide⟩) (by first | decide | exact ⟨by decide, by decide⟩) eh39
                            refine zwW_p [(24, 141, 0)] (q := 141) (ls' := [(2, 37)]) (st' := []) (by decide +kernel) rfl ?_
                            exact IHL30 (fld h39 37 41 - fld h39 37 43).toNat (by omega) h39 rfl (by omega) (by omega) (by omega) (by omega) Ih39 Rh39
                        · refine zwif_eq (q := 190) (nx := 167) (by decide +kernel) (fun c40 => ?_) (fun c40 => ?_)
                          · refine zwW_retv (nx := 191) (a := 0) (b := 0) (by decide +kernel) ?_
                            exact ⟨IhL30, RhL30, by omega, by (unfold zP0; omega)⟩
                          · exfalso; omega
                  exact L30 _ h6 rfl (by omega) (by omega) (by omega) (by omega) Ih6 Rh6
              · refine zwif_eq (q := 180) (nx := 141) (by decide +kernel) (fun c41 => ?_) (fun c41 => ?_)
                · refine zwW_p [(1, 0, 2), (1, 0, 2)] (q := 182) (ls' := [(2, 37)]) (st' := [(2, 37), (2, 37)]) (by decide +kernel) rfl ?_
                  refine zwW_gs Ih6 (kd := 13) (bn := 42) (n := 97) (t := 0) (lo := 0) (hi := 400) (nx := 185) (by decide +kernel) ?_
                  intro v42 ev42 lv42 uv42
                  refine zwW_p [(0, 1, 0)] (q := 186) (ls' := [(2, 37)]) (st' := [(0, 1), (0, v42), (2, 37)]) (by decide +kernel) rfl ?_
                  refine zwW_add (nx := 187) (by decide +kernel) (by first | omega | exact ⟨by omega, by omega⟩) ?_
                  refine zwW_ps Ih6 (kd := 13) (bn := 43) (n := 97) (lo := 0) (hi := 400) (nx := 190) (by decide +kernel) (by first | omega | exact ⟨by omega, by omega⟩) ?_
                  intro h43 eh43 Ih43
                  have th43_37_41 : fld h43 37 41 = fld h6 37 41 := by rw [eh43]; exact fld_wr (by decide)
                  have th43_37_42 : fld h43 37 42 = fld h6 37 42 := by rw [eh43]; exact fld_wr (by decide)
                  have th43_37_43 : fld h43 37 43 = (v42 + 1) := by rw [eh43]; exact fld_wr_eq (Ih6.s (a1 := 37) (a2 := 37) (k := 13) (n := 97) (by decide +kernel) (by decide) (by decide)) (by decide)
                  have Rh43 : zMR ms200 h h43 := Rh6.w (a1 := 37) (a2 := 37) (j1 := 43) (j2 := 44) (by decide +kernel) (by first | decide | exact ⟨by decide, by decide⟩) (by first | decide | exact ⟨by decide, by decide⟩) eh43
                  refine zwW_retv (nx := 191) (a := 0) (b := 0) (by decide +kernel) ?_
                  exact ⟨Ih43, Rh43, by omega, by (unfold zP0; omega)⟩
                · exfalso; omega
            · exfalso; omega
        · refine zwW_retv (nx := 72) (a := 0) (b := 0) (by decide +kernel) ?_
          exact ⟨Ih6, Rh6, by omega, by (unfold zP0; omega)⟩
      · refine zwW_p [(1, 0, 2)] (q := 12) (ls' := [(2, 37)]) (st' := [(2, 37)]) (by decide +kernel) rfl ?_
        refine zwW_gc IhL1 (kd := 13) (bn := 40) (n := 97) (c := 98) (nx := 15) (by decide +kernel) ?_
        refine zwW_p [(1, 0, 2)] (q := 16) (ls' := [(2, 37)]) (st' := [(2, 37), (2, 98)]) (by decide +kernel) rfl ?_
        refine zwW_gs IhL1 (kd := 13) (bn := 42) (n := 97) (t := 0) (lo := 0) (hi := 400) (nx := 19) (by decide +kernel) ?_
        intro v44 ev44 lv44 uv44
        refine zwW_al IhL1 (a1 := 98) (a2 := 98) (kd := 21) (n := 400) (t := 0) (lo := -128) (hi := 127) (nx := 20) (by decide +kernel) (by first | decide | exact ⟨by decide, by decide⟩) (by first | omega | exact ⟨by omega, by omega⟩) ?_
        intro v45 ev45 lv45 uv45
        refine zwW_p [(0, 32, 0)] (q := 22) (ls' := [(2, 37)]) (st' := [(0, 32), (0, v45)]) (by decide +kernel) rfl ?_
        refine zwic_eq (q := 39) (nx := 25) (by decide +kernel) (fun c46 => ?_) (fun c46 => ?_)
        · refine zwW_p [(1, 0, 2), (12, 0, 0)] (q := 41) (ls' := [(2, 37)]) (st' := [(2, 37), (2, 37)]) (by decide +kernel) rfl ?_
          refine zwW_gs IhL1 (kd := 13) (bn := 42) (n := 97) (t := 0) (lo := 0) (hi := 400) (nx := 44) (by decide +kernel) ?_
          intro v47 ev47 lv47 uv47
          refine zwW_p [(0, 1, 0)] (q := 45) (ls' := [(2, 37)]) (st' := [(0, 1), (0, v47), (2, 37)]) (by decide +kernel) rfl ?_
          refine zwW_add (nx := 46) (by decide +kernel) (by first | omega | exact ⟨by omega, by omega⟩) ?_
          refine zwW_ps IhL1 (kd := 13) (bn := 42) (n := 97) (lo := 0) (hi := 400) (nx := 49) (by decide +kernel) (by first | omega | exact ⟨by omega, by omega⟩) ?_
          intro h48 eh48 Ih48
          have th48_37_41 : fld h48 37 41 = fld hL1 37 41 := by rw [eh48]; exact fld_wr (by decide)
          have th48_37_42 : fld h48 37 42 = (v47 + 1) := by rw [eh48]; exact fld_wr_eq (IhL1.s (a1 := 37) (a2 := 37) (k := 13) (n := 97) (by decide +kernel) (by decide) (by decide)) (by decide)
          have th48_37_43 : fld h48 37 43 = fld hL1 37 43 := by rw [eh48]; exact fld_wr (by decide)
          have Rh48 : zMR ms200 h h48 := RhL1.w (a1 := 37) (a2 := 37) (j1 := 42) (j2 := 43) (by decide +kernel) (by first | decide | exact ⟨by decide, by decide⟩) (by first | decide | exact ⟨by decide, by decide⟩) eh48
          refine zwW_p [(24, 0, 0)] (q := 0) (ls' := [(2, 37)]) (st' := []) (by decide +kernel) rfl ?_
          exact IHL1 (fld h48 37 41 - fld h48 37 42).toNat (by omega) h48 rfl (by omega) (by omega) (by omega) Ih48 Rh48
        · refine zwW_p [(1, 0, 2)] (q := 26) (ls' := [(2, 37)]) (st' := [(2, 37)]) (by decide +kernel) rfl ?_
          refine zwW_gc IhL1 (kd := 13) (bn := 40) (n := 97) (c := 98) (nx := 29) (by decide +kernel) ?_
          refine zwW_p [(1, 0, 2)] (q := 30) (ls' := [(2, 37)]) (st' := [(2, 37), (2, 98)]) (by decide +kernel) rfl ?_
          refine zwW_gs IhL1 (kd := 13) (bn := 42) (n := 97) (t := 0) (lo := 0) (hi := 400) (nx := 33) (by decide +kernel) ?_
          intro v49 ev49 lv49 uv49
          refine zwW_al IhL1 (a1 := 98) (a2 := 98) (kd := 21) (n := 400) (t := 0) (lo := -128) (hi := 127) (nx := 34) (by decide +kernel) (by first | decide | exact ⟨by decide, by decide⟩) (by first | omega | exact ⟨by omega, by omega⟩) ?_
          intro v50 ev50 lv50 uv50
          refine zwW_p [(0, 10, 0)] (q := 36) (ls' := [(2, 37)]) (st' := [(0, 10), (0, v50)]) (by decide +kernel) rfl ?_
          refine zwic_ne (q := 52) (nx := 39) (by decide +kernel) (fun c51 => ?_) (fun c51 => ?_)
          · refine zwW_p [(1, 0, 2), (1, 0, 2)] (q := 54) (ls' := [(2, 37)]) (st' := [(2, 37), (2, 37)]) (by decide +kernel) rfl ?_
            refine zwW_gs IhL1 (kd := 13) (bn := 42) (n := 97) (t := 0) (lo := 0) (hi := 400) (nx := 57) (by decide +kernel) ?_
            intro v52 ev52 lv52 uv52
            refine zwW_ps IhL1 (kd := 13) (bn := 43) (n := 97) (lo := 0) (hi := 400) (nx := 60) (by decide +kernel) (by first | omega | exact ⟨by omega, by omega⟩) ?_
            intro h53 eh53 Ih53
            have th53_37_41 : fld h53 37 41 = fld hL1 37 41 := by rw [eh53]; exact fld_wr (by decide)
            have th53_37_42 : fld h53 37 42 = fld hL1 37 42 := by rw [eh53]; exact fld_wr (by decide)
            have th53_37_43 : fld h53 37 43 = v52 := by rw [eh53]; exact fld_wr_eq (IhL1.s (a1 := 37) (a2 := 37) (k := 13) (n := 97) (by decide +kernel) (by decide) (by decide)) (by decide)
            have Rh53 : zMR ms200 h h53 := RhL1.w (a1 := 37) (a2 := 37) (j1 := 43) (j2 := 44) (by decide +kernel) (by first | decide | exact ⟨by decide, by decide⟩) (by first | decide | exact ⟨by decide, by decide⟩) eh53
            refine zwW_p [(1, 0, 2)] (q := 61) (ls' := [(2, 37)]) (st' := [(2, 37)]) (by decide +kernel) rfl ?_
            refine zwW_gs Ih53 (kd := 13) (bn := 42) (n := 97) (t := 0) (lo := 0) (hi := 400) (nx := 64) (by decide +kernel) ?_
            intro v54 ev54 lv54 uv54
            refine zwW_p [(1, 0, 2)] (q := 65) (ls' := [(2, 37)]) (st' := [(2, 37), (0, v54)]) (by decide +kernel) rfl ?_
            refine zwW_gs Ih53 (kd := 13) (bn := 41) (n := 97) (t := 0) (lo := 0) (hi := 400) (nx := 68) (by decide +kernel) ?_
            intro v55 ev55 lv55 uv55
            refine zwic_ne (q := 72) (nx := 71) (by decide +kernel) (fun c56 => ?_) (fun c56 => ?_)
            · refine zwW_p [(1, 0, 2)] (q := 73) (ls' := [(2, 37)]) (st' := [(2, 37)]) (by decide +kernel) rfl ?_
              refine zwW_gc Ih53 (kd := 13) (bn := 40) (n := 97) (c := 98) (nx := 76) (by decide +kernel) ?_
              refine zwW_p [(1, 0, 2)] (q := 77) (ls' := [(2, 37)]) (st' := [(2, 37), (2, 98)]) (by decide +kernel) rfl ?_
              refine zwW_gs Ih53 (kd := 13) (bn := 42) (n := 97) (t := 0) (lo := 0) (hi := 400) (nx := 80) (by decide +kernel) ?_
              intro v57 ev57 lv57 uv57
              have X80 : v57 = fld h53 37 42 := by omega
              refine zwW_al Ih53 (a1 := 98) (a2 := 98) (kd := 21) (n := 400) (t := 0) (lo := -128) (hi := 127) (nx := 81) (by decide +kernel) (by first | decide | exact ⟨by decide, by decide⟩) (by first | omega | exact ⟨by omega, by omega⟩) ?_
              intro v58 ev58 lv58 uv58
              have G81 : v58 = fld h53 98 (fld h53 37 42).toNat := by rw [ev58, X80]
              refine zwW_cs (k' := 244) (n := 1) (nx := 84) (as := [(0, v58)]) (st' := []) (by decide +kernel) rfl (m244 h53 v58) rfl ?_
              rintro x _ ⟨rfl, ⟨rfl, c59⟩ | ⟨rfl, c59⟩⟩
              · refine zwif_eq (q := 126) (nx := 87) (by decide +kernel) (fun c60 => ?_) (fun c60 => ?_)
                · exfalso; omega
                · have L61 : ∀ (n : Nat) (hL61 : Hp), n = (fld hL61 37 41 - fld hL61 37 43).toNat → (fld hL61 37 42 < fld hL61 37 41) → (fld h 37 42 ≤ fld hL61 37 42) → (fld hL61 37 42 ≤ fld hL61 37 43 ∧ fld hL61 37 43 ≤ fld hL61 37 41) → (fld hL61 37 43 = fld hL61 37 42 → 97 ≤ fld hL61 98 (fld hL61 37 42).toNat ∧ fld hL61 98 (fld hL61 37 42).toNat ≤ 122) → zI hL61 → zMR ms200 h hL61 → zwW sc (1) 200 87 [(2, 37)] [] hL61 (zwRv (fun g => zI g ∧ zMR ms200 h g ∧ (fld h 37 42 ≤ fld g 37 42) ∧ (zP0 g))) := by
                    intro n
                    induction n using Nat.strongRecOn with
                    | ind n IHL61 =>
                      intro hL61 hnL61 iL61_0 iL61_1 iL61_2 iL61_3 IhL61 RhL61
                      refine zwW_p [(1, 0, 2)] (q := 88) (ls' := [(2, 37)]) (st' := [(2, 37)]) (by decide +kernel) rfl ?_
                      refine zwW_gs IhL61 (kd := 13) (bn := 43) (n := 97) (t := 0) (lo := 0) (hi := 400) (nx := 91) (by decide +kernel) ?_
                      intro v62 ev62 lv62 uv62
                      refine zwW_p [(1, 0, 2)] (q := 92) (ls' := [(2, 37)]) (st' := [(2, 37), (0, v62)]) (by decide +kernel) rfl ?_
                      refine zwW_gs IhL61 (kd := 13) (bn := 41) (n := 97) (t := 0) (lo := 0) (hi := 400) (nx := 95) (by decide +kernel) ?_
                      intro v63 ev63 lv63 uv63
                      refine zwic_ge (q := 190) (nx := 98) (by decide +kernel) (fun c64 => ?_) (fun c64 => ?_)
                      · refine zwW_retv (nx := 191) (a := 0) (b := 0) (by decide +kernel) ?_
                        exact ⟨IhL61, RhL61, by omega, by (unfold zP0; omega)⟩
                      · refine zwW_p [(1, 0, 2)] (q := 99) (ls' := [(2, 37)]) (st' := [(2, 37)]) (by decide +kernel) rfl ?_
                        refine zwW_gc IhL61 (kd := 13) (bn := 40) (n := 97) (c := 98) (nx := 102) (by decide +kernel) ?_
                        refine zwW_p [(1, 0, 2)] (q := 103) (ls' := [(2, 37)]) (st' := [(2, 37), (2, 98)]) (by decide +kernel) rfl ?_
                        refine zwW_gs IhL61 (kd := 13) (bn := 43) (n := 97) (t := 0) (lo := 0) (hi := 400) (nx := 106) (by decide +kernel) ?_
                        intro v65 ev65 lv65 uv65
                        have X106 : fld hL61 37 43 = fld hL61 37 42 → v65 = fld hL61 37 42 := fun hq => by omega
                        refine zwW_al IhL61 (a1 := 98) (a2 := 98) (kd := 21) (n := 400) (t := 0) (lo := -128) (hi := 127) (nx := 107) (by decide +kernel) (by first | decide | exact ⟨by decide, by decide⟩) (by first | omega | exact ⟨by omega, by omega⟩) ?_
                        intro v66 ev66 lv66 uv66
                        have G107 : fld hL61 37 43 = fld hL61 37 42 → v66 = fld hL61 98 (fld hL61 37 42).toNat := fun hq => by rw [ev66, X106 hq]
                        refine zwW_cs (k' := 244) (n := 1) (nx := 110) (as := [(0, v66)]) (st' := []) (by decide +kernel) rfl (m244 hL61 v66) rfl ?_
                        rintro x _ ⟨rfl, ⟨rfl, c67⟩ | ⟨rfl, c67⟩⟩
                        · refine zwif_eq (q := 190) (nx := 113) (by decide +kernel) (fun c68 => ?_) (fun c68 => ?_)
                          · exfalso; omega
                          · refine zwW_p [(1, 0, 2), (12, 0, 0)] (q := 115) (ls' := [(2, 37)]) (st' := [(2, 37), (2, 37)]) (by decide +kernel) rfl ?_
                            refine zwW_gs IhL61 (kd := 13) (bn := 43) (n := 97) (t := 0) (lo := 0) (hi := 400) (nx := 118) (by decide +kernel) ?_
                            intro v69 ev69 lv69 uv69
                            refine zwW_p [(0, 1, 0)] (q := 119) (ls' := [(2, 37)]) (st' := [(0, 1), (0, v69), (2, 37)]) (by decide +kernel) rfl ?_
                            refine zwW_add (nx := 120) (by decide +kernel) (by first | omega | exact ⟨by omega, by omega⟩) ?_
                            refine zwW_ps IhL61 (kd := 13) (bn := 43) (n := 97) (lo := 0) (hi := 400) (nx := 123) (by decide +kernel) (by first | omega | exact ⟨by omega, by omega⟩) ?_
                            intro h70 eh70 Ih70
                            have th70_37_41 : fld h70 37 41 = fld hL61 37 41 := by rw [eh70]; exact fld_wr (by decide)
                            have th70_37_42 : fld h70 37 42 = fld hL61 37 42 := by rw [eh70]; exact fld_wr (by decide)
                            have th70_37_43 : fld h70 37 43 = (v69 + 1) := by rw [eh70]; exact fld_wr_eq (IhL61.s (a1 := 37) (a2 := 37) (k := 13) (n := 97) (by decide +kernel) (by decide) (by decide)) (by decide)
                            have Rh70 : zMR ms200 h h70 := RhL61.w (a1 := 37) (a2 := 37) (j1 := 43) (j2 := 44) (by decide +kernel) (by first | decide | exact ⟨by decide, by decide⟩) (by first | decide | exact ⟨by decide, by decide⟩) eh70
                            refine zwW_p [(24, 87, 0)] (q := 87) (ls' := [(2, 37)]) (st' := []) (by decide +kernel) rfl ?_
                            exact IHL61 (fld h70 37 41 - fld h70 37 43).toNat (by omega) h70 rfl (by omega) (by omega) (by omega) (by omega) Ih70 Rh70
                        · refine zwif_eq (q := 190) (nx := 113) (by decide +kernel) (fun c71 => ?_) (fun c71 => ?_)
                          · refine zwW_retv (nx := 191) (a := 0) (b := 0) (by decide +kernel) ?_
                            exact ⟨IhL61, RhL61, by omega, by (unfold zP0; omega)⟩
                          · exfalso; omega
                  exact L61 _ h53 rfl (by omega) (by omega) (by omega) (by omega) Ih53 Rh53
              · refine zwif_eq (q := 126) (nx := 87) (by decide +kernel) (fun c72 => ?_) (fun c72 => ?_)
                · refine zwW_p [(1, 0, 2)] (q := 127) (ls' := [(2, 37)]) (st' := [(2, 37)]) (by decide +kernel) rfl ?_
                  refine zwW_gc Ih53 (kd := 13) (bn := 40) (n := 97) (c := 98) (nx := 130) (by decide +kernel) ?_
                  refine zwW_p [(1, 0, 2)] (q := 131) (ls' := [(2, 37)]) (st' := [(2, 37), (2, 98)]) (by decide +kernel) rfl ?_
                  refine zwW_gs Ih53 (kd := 13) (bn := 42) (n := 97) (t := 0) (lo := 0) (hi := 400) (nx := 134) (by decide +kernel) ?_
                  intro v73 ev73 lv73 uv73
                  have X134 : v73 = fld h53 37 42 := by omega
                  refine zwW_al Ih53 (a1 := 98) (a2 := 98) (kd := 21) (n := 400) (t := 0) (lo := -128) (hi := 127) (nx := 135) (by decide +kernel) (by first | decide | exact ⟨by decide, by decide⟩) (by first | omega | exact ⟨by omega, by omega⟩) ?_
                  intro v74 ev74 lv74 uv74
                  have G135 : v74 = fld h53 98 (fld h53 37 42).toNat := by rw [ev74, X134]
                  refine zwW_cs (k' := 245) (n := 1) (nx := 138) (as := [(0, v74)]) (st' := []) (by decide +kernel) rfl (m245 h53 v74) rfl ?_
                  rintro x _ ⟨rfl, ⟨rfl, c75⟩ | ⟨rfl, c75⟩⟩
                  · refine zwif_eq (q := 180) (nx := 141) (by decide +kernel) (fun c76 => ?_) (fun c76 => ?_)
                    · exfalso; omega
                    · have L77 : ∀ (n : Nat) (hL77 : Hp), n = (fld hL77 37 41 - fld hL77 37 43).toNat → (fld hL77 37 42 < fld hL77 37 41) → (fld h 37 42 ≤ fld hL77 37 42) → (fld hL77 37 42 ≤ fld hL77 37 43 ∧ fld hL77 37 43 ≤ fld hL77 37 41) → (fld hL77 37 43 = fld hL77 37 42 → 48 ≤ fld hL77 98 (fld hL77 37 42).toNat ∧ fld hL77 98 (fld hL77 37 42).toNat ≤ 57) → zI hL77 → zMR ms200 h hL77 → zwW sc (1) 200 141 [(2, 37)] [] hL77 (zwRv (fun g => zI g ∧ zMR ms200 h g ∧ (fld h 37 42 ≤ fld g 37 42) ∧ (zP0 g))) := by
                        intro n
                        induction n using Nat.strongRecOn with
                        | ind n IHL77 =>
                          intro hL77 hnL77 iL77_0 iL77_1 iL77_2 iL77_3 IhL77 RhL77
                          refine zwW_p [(1, 0, 2)] (q := 142) (ls' := [(2, 37)]) (st' := [(2, 37)]) (by decide +kernel) rfl ?_
                          refine zwW_gs IhL77 (kd := 13) (bn := 43) (n := 97) (t := 0) (lo := 0) (hi := 400) (nx := 145) (by decide +kernel) ?_
                          intro v78 ev78 lv78 uv78
                          refine zwW_p [(1, 0, 2)] (q := 146) (ls' := [(2, 37)]) (st' := [(2, 37), (0, v78)]) (by decide +kernel) rfl ?_
                          refine zwW_gs IhL77 (kd := 13) (bn := 41) (n := 97) (t := 0) (lo := 0) (hi := 400) (nx := 149) (by decide +kernel) ?_
                          intro v79 ev79 lv79 uv79
                          refine zwic_ge (q := 190) (nx := 152) (by decide +kernel) (fun c80 => ?_) (fun c80 => ?_)
                          · refine zwW_retv (nx := 191) (a := 0) (b := 0) (by decide +kernel) ?_
                            exact ⟨IhL77, RhL77, by omega, by (unfold zP0; omega)⟩
                          · refine zwW_p [(1, 0, 2)] (q := 153) (ls' := [(2, 37)]) (st' := [(2, 37)]) (by decide +kernel) rfl ?_
                            refine zwW_gc IhL77 (kd := 13) (bn := 40) (n := 97) (c := 98) (nx := 156) (by decide +kernel) ?_
                            refine zwW_p [(1, 0, 2)] (q := 157) (ls' := [(2, 37)]) (st' := [(2, 37), (2, 98)]) (by decide +kernel) rfl ?_
                            refine zwW_gs IhL77 (kd := 13) (bn := 43) (n := 97) (t := 0) (lo := 0) (hi := 400) (nx := 160) (by decide +kernel) ?_
                            intro v81 ev81 lv81 uv81
                            have X160 : fld hL77 37 43 = fld hL77 37 42 → v81 = fld hL77 37 42 := fun hq => by omega
                            refine zwW_al IhL77 (a1 := 98) (a2 := 98) (kd := 21) (n := 400) (t := 0) (lo := -128) (hi := 127) (nx := 161) (by decide +kernel) (by first | decide | exact ⟨by decide, by decide⟩) (by first | omega | exact ⟨by omega, by omega⟩) ?_
                            intro v82 ev82 lv82 uv82
                            have G161 : fld hL77 37 43 = fld hL77 37 42 → v82 = fld hL77 98 (fld hL77 37 42).toNat := fun hq => by rw [ev82, X160 hq]
                            refine zwW_cs (k' := 245) (n := 1) (nx := 164) (as := [(0, v82)]) (st' := []) (by decide +kernel) rfl (m245 hL77 v82) rfl ?_
                            rintro x _ ⟨rfl, ⟨rfl, c83⟩ | ⟨rfl, c83⟩⟩
                            · refine zwif_eq (q := 190) (nx := 167) (by decide +kernel) (fun c84 => ?_) (fun c84 => ?_)
                              · exfalso; omega
                              · refine zwW_p [(1, 0, 2), (12, 0, 0)] (q := 169) (ls' := [(2, 37)]) (st' := [(2, 37), (2, 37)]) (by decide +kernel) rfl ?_
                                refine zwW_gs IhL77 (kd := 13) (bn := 43) (n := 97) (t := 0) (lo := 0) (hi := 400) (nx := 172) (by decide +kernel) ?_
                                intro v85 ev85 lv85 uv85
                                refine zwW_p [(0, 1, 0)] (q := 173) (ls' := [(2, 37)]) (st' := [(0, 1), (0, v85), (2, 37)]) (by decide +kernel) rfl ?_
                                refine zwW_add (nx := 174) (by decide +kernel) (by first | omega | exact ⟨by omega, by omega⟩) ?_
                                refine zwW_ps IhL77 (kd := 13) (bn := 43) (n := 97) (lo := 0) (hi := 400) (nx := 177) (by decide +kernel) (by first | omega | exact ⟨by omega, by omega⟩) ?_
                                intro h86 eh86 Ih86
                                have th86_37_41 : fld h86 37 41 = fld hL77 37 41 := by rw [eh86]; exact fld_wr (by decide)
                                have th86_37_42 : fld h86 37 42 = fld hL77 37 42 := by rw [eh86]; exact fld_wr (by decide)
                                have th86_37_43 : fld h86 37 43 = (v85 + 1) := by rw [eh86]; exact fld_wr_eq (IhL77.s (a1 := 37) (a2 := 37) (k := 13) (n := 97) (by decide +kernel) (by decide) (by decide)) (by decide)
                                have Rh86 : zMR ms200 h h86 := RhL77.w (a1 := 37) (a2 := 37) (j1 := 43) (j2 := 44) (by decide +kernel) (by first | decide | exact ⟨by decide, by decide⟩) (by first | decide | exact ⟨by decide, by decide⟩) eh86
                                refine zwW_p [(24, 141, 0)] (q := 141) (ls' := [(2, 37)]) (st' := []) (by decide +kernel) rfl ?_
                                exact IHL77 (fld h86 37 41 - fld h86 37 43).toNat (by omega) h86 rfl (by omega) (by omega) (by omega) (by omega) Ih86 Rh86
                            · refine zwif_eq (q := 190) (nx := 167) (by decide +kernel) (fun c87 => ?_) (fun c87 => ?_)
                              · refine zwW_retv (nx := 191) (a := 0) (b := 0) (by decide +kernel) ?_
                                exact ⟨IhL77, RhL77, by omega, by (unfold zP0; omega)⟩
                              · exfalso; omega
                      exact L77 _ h53 rfl (by omega) (by omega) (by omega) (by omega) Ih53 Rh53
                  · refine zwif_eq (q := 180) (nx := 141) (by decide +kernel) (fun c88 => ?_) (fun c88 => ?_)
                    · refine zwW_p [(1, 0, 2), (1, 0, 2)] (q := 182) (ls' := [(2, 37)]) (st' := [(2, 37), (2, 37)]) (by decide +kernel) rfl ?_
                      refine zwW_gs Ih53 (kd := 13) (bn := 42) (n := 97) (t := 0) (lo := 0) (hi := 400) (nx := 185) (by decide +kernel) ?_
                      intro v89 ev89 lv89 uv89
                      refine zwW_p [(0, 1, 0)] (q := 186) (ls' := [(2, 37)]) (st' := [(0, 1), (0, v89), (2, 37)]) (by decide +kernel) rfl ?_
                      refine zwW_add (nx := 187) (by decide +kernel) (by first | omega | exact ⟨by omega, by omega⟩) ?_
                      refine zwW_ps Ih53 (kd := 13) (bn := 43) (n := 97) (lo := 0) (hi := 400) (nx := 190) (by decide +kernel) (by first | omega | exact ⟨by omega, by omega⟩) ?_
                      intro h90 eh90 Ih90
                      have th90_37_41 : fld h90 37 41 = fld h53 37 41 := by rw [eh90]; exact fld_wr (by decide)
                      have th90_37_42 : fld h90 37 42 = fld h53 37 42 := by rw [eh90]; exact fld_wr (by decide)
                      have th90_37_43 : fld h90 37 43 = (v89 + 1) := by rw [eh90]; exact fld_wr_eq (Ih53.s (a1 := 37) (a2 := 37) (k := 13) (n := 97) (by decide +kernel) (by decide) (by decide)) (by decide)
                      have Rh90 : zMR ms200 h h90 := Rh53.w (a1 := 37) (a2 := 37) (j1 := 43) (j2 := 44) (by decide +kernel) (by first | decide | exact ⟨by decide, by decide⟩) (by first | decide | exact ⟨by decide, by decide⟩) eh90
                      refine zwW_retv (nx := 191) (a := 0) (b := 0) (by decide +kernel) ?_
                      exact ⟨Ih90, Rh90, by omega, by (unfold zP0; omega)⟩
                    · exfalso; omega
                · exfalso; omega
            · refine zwW_retv (nx := 72) (a := 0) (b := 0) (by decide +kernel) ?_
              exact ⟨Ih53, Rh53, by omega, by (unfold zP0; omega)⟩
          · refine zwW_p [(1, 0, 2), (12, 0, 0)] (q := 41) (ls' := [(2, 37)]) (st' := [(2, 37), (2, 37)]) (by decide +kernel) rfl ?_
            refine zwW_gs IhL1 (kd := 13) (bn := 42) (n := 97) (t := 0) (lo := 0) (hi := 400) (nx := 44) (by decide +kernel) ?_
            intro v91 ev91 lv91 uv91
            refine zwW_p [(0, 1, 0)] (q := 45) (ls' := [(2, 37)]) (st' := [(0, 1), (0, v91), (2, 37)]) (by decide +kernel) rfl ?_
            refine zwW_add (nx := 46) (by decide +kernel) (by first | omega | exact ⟨by omega, by omega⟩) ?_
            refine zwW_ps IhL1 (kd := 13) (bn := 42) (n := 97) (lo := 0) (hi := 400) (nx := 49) (by decide +kernel) (by first | omega | exact ⟨by omega, by omega⟩) ?_
            intro h92 eh92 Ih92
            have th92_37_41 : fld h92 37 41 = fld hL1 37 41 := by rw [eh92]; exact fld_wr (by decide)
            have th92_37_42 : fld h92 37 42 = (v91 + 1) := by rw [eh92]; exact fld_wr_eq (IhL1.s (a1 := 37) (a2 := 37) (k := 13) (n := 97) (by decide +kernel) (by decide) (by decide)) (by decide)
            have th92_37_43 : fld h92 37 43 = fld hL1 37 43 := by rw [eh92]; exact fld_wr (by decide)
            have Rh92 : zMR ms200 h h92 := RhL1.w (a1 := 37) (a2 := 37) (j1 := 42) (j2 := 43) (by decide +kernel) (by first | decide | exact ⟨by decide, by decide⟩) (by first | decide | exact ⟨by decide, by decide⟩) eh92
            refine zwW_p [(24, 0, 0)] (q := 0) (ls' := [(2, 37)]) (st' := []) (by decide +kernel) rfl ?_
            exact IHL1 (fld h92 37 41 - fld h92 37 42).toNat (by omega) h92 rfl (by omega) (by omega) (by omega) Ih92 Rh92
  exact L1 _ h rfl (by omega) (by omega) (by omega) I R
def ms268 : Zms := [(37, 37, 42, 43), (37, 37, 43, 44)]
-- WheelLandModel.goesOn()V
theorem m268 {sc : List Int} (h : Hp) (I : zI h) (hP : zP0 h) : zwC sc 3 268 [(2, 37)] h (zwRv (fun g => zI g ∧ zMR ms268 h g ∧ (fld h 37 43 ≤ fld g 37 42) ∧ (zP0 g))) := by
  refine zwC_of (D := 2) 1 (by decide +kernel) rfl (ls := [(2, 37)]) rfl ?_
  have R : zMR ms268 h h := zMR.rf _ _
  have hP0 := hP
  unfold zP0 at hP0
  refine zwW_p [(1, 0, 2), (1, 0, 2)] (q := 2) (ls' := [(2, 37)]) (st' := [(2, 37), (2, 37)]) (by decide +kernel) rfl ?_
  refine zwW_gs I (kd := 13) (bn := 43) (n := 97) (t := 0) (lo := 0) (hi := 400) (nx := 5) (by decide +kernel) ?_
  intro v1 ev1 lv1 uv1
  refine zwW_ps I (kd := 13) (bn := 42) (n := 97) (lo := 0) (hi := 400) (nx := 8) (by decide +kernel) (by first | omega | exact ⟨by omega, by omega⟩) ?_
  intro h2 eh2 Ih2
  have th2_37_41 : fld h2 37 41 = fld h 37 41 := by rw [eh2]; exact fld_wr (by decide)
  have th2_37_42 : fld h2 37 42 = v1 := by rw [eh2]; exact fld_wr_eq (I.s (a1 := 37) (a2 := 37) (k := 13) (n := 97) (by decide +kernel) (by decide) (by decide)) (by decide)
  have th2_37_43 : fld h2 37 43 = fld h 37 43 := by rw [eh2]; exact fld_wr (by decide)
  have Rh2 : zMR ms268 h h2 := R.w (a1 := 37) (a2 := 37) (j1 := 42) (j2 := 43) (by decide +kernel) (by first | decide | exact ⟨by decide, by decide⟩) (by first | decide | exact ⟨by decide, by decide⟩) eh2
  refine zwW_p [(1, 0, 2)] (q := 9) (ls' := [(2, 37)]) (st' := [(2, 37)]) (by decide +kernel) rfl ?_
  refine zwW_cmv Ih2 (op := 60) (k' := 200) (n := 0) (kd := 13) (m := 97) (nx := 12) (r := 37) (tl := []) (st' := []) (by decide +kernel) rfl (by decide +kernel) rfl (m200 h2 Ih2 (by omega)) ?_
  rintro h5 ⟨Ih5, Qh5, f3, f4⟩
  have Rh5 : zMR ms268 h h5 := Rh2.tr Qh5 (by decide +kernel)
  have th5_37_41 : fld h5 37 41 = fld h2 37 41 := Qh5.f (a1 := 37) (a2 := 37) (j1 := 41) (j2 := 42) (by decide +kernel) (by first | decide | exact ⟨by decide, by decide⟩) (by first | decide | exact ⟨by decide, by decide⟩)
  refine zwW_retv (nx := 13) (a := 0) (b := 0) (by decide +kernel) ?_
  exact ⟨Ih5, Rh5, by omega, by exact f4⟩
-- WheelLandModel.isSign(I)Z
theorem m250 {sc : List Int} (h : Hp) (I : zI h) (a : Int) : zwC sc 1 250 [(2, 37), (0, a)] h (zwRt 0 (fun x g => h = g ∧ ((x = 1 ∧ (fld h 37 42 < fld h 37 41 ∧ fld h 98 (fld h 37 42).toNat = a)) ∨ (x = 0 ∧ (True))))) := by
  refine zwC_of (D := 0) 2 (by decide +kernel) rfl (ls := [(2, 37), (0, a)]) rfl ?_
  refine zwW_p [(1, 0, 2)] (q := 1) (ls' := [(2, 37), (0, a)]) (st' := [(2, 37)]) (by decide +kernel) rfl ?_
  refine zwW_gs I (kd := 13) (bn := 42) (n := 97) (t := 0) (lo := 0) (hi := 400) (nx := 4) (by decide +kernel) ?_
  intro v1 ev1 lv1 uv1
  refine zwW_p [(1, 0, 2)] (q := 5) (ls' := [(2, 37), (0, a)]) (st' := [(2, 37), (0, v1)]) (by decide +kernel) rfl ?_
  refine zwW_gs I (kd := 13) (bn := 41) (n := 97) (t := 0) (lo := 0) (hi := 400) (nx := 8) (by decide +kernel) ?_
  intro v2 ev2 lv2 uv2
  refine zwic_ge (q := 28) (nx := 11) (by decide +kernel) (fun c3 => ?_) (fun c3 => ?_)
  · refine zwW_p [(0, 0, 0)] (q := 29) (ls' := [(2, 37), (0, a)]) (st' := [(0, 0)]) (by decide +kernel) rfl ?_
    refine zwW_ret (nx := 30) (a := 1) (b := 0) (by decide +kernel) rfl (Or.inr (Or.inl ⟨rfl, Or.inl rfl⟩)) ?_
    exact ⟨rfl, Or.inr ⟨rfl, by trivial⟩⟩
  · refine zwW_p [(1, 0, 2)] (q := 12) (ls' := [(2, 37), (0, a)]) (st' := [(2, 37)]) (by decide +kernel) rfl ?_
    refine zwW_gc I (kd := 13) (bn := 40) (n := 97) (c := 98) (nx := 15) (by decide +kernel) ?_
    refine zwW_p [(1, 0, 2)] (q := 16) (ls' := [(2, 37), (0, a)]) (st' := [(2, 37), (2, 98)]) (by decide +kernel) rfl ?_
    refine zwW_gs I (kd := 13) (bn := 42) (n := 97) (t := 0) (lo := 0) (hi := 400) (nx := 19) (by decide +kernel) ?_
    intro v4 ev4 lv4 uv4
    have X19 : v4 = fld h 37 42 := by omega
    refine zwW_al I (a1 := 98) (a2 := 98) (kd := 21) (n := 400) (t := 0) (lo := -128) (hi := 127) (nx := 20) (by decide +kernel) (by first | decide | exact ⟨by decide, by decide⟩) (by first | omega | exact ⟨by omega, by omega⟩) ?_
    intro v5 ev5 lv5 uv5
    have G20 : v5 = fld h 98 (fld h 37 42).toNat := by rw [ev5, X19]
    refine zwW_p [(1, 1, 0)] (q := 21) (ls' := [(2, 37), (0, a)]) (st' := [(0, a), (0, v5)]) (by decide +kernel) rfl ?_
    refine zwic_ne (q := 28) (nx := 24) (by decide +kernel) (fun c6 => ?_) (fun c6 => ?_)
    · refine zwW_p [(0, 0, 0)] (q := 29) (ls' := [(2, 37), (0, a)]) (st' := [(0, 0)]) (by decide +kernel) rfl ?_
      refine zwW_ret (nx := 30) (a := 1) (b := 0) (by decide +kernel) rfl (Or.inr (Or.inl ⟨rfl, Or.inl rfl⟩)) ?_
      exact ⟨rfl, Or.inr ⟨rfl, by trivial⟩⟩
    · refine zwW_p [(0, 1, 0), (24, 29, 0)] (q := 29) (ls' := [(2, 37), (0, a)]) (st' := [(0, 1)]) (by decide +kernel) rfl ?_
      refine zwW_ret (nx := 30) (a := 1) (b := 0) (by decide +kernel) rfl (Or.inr (Or.inl ⟨rfl, Or.inr rfl⟩)) ?_
      exact ⟨rfl, Or.inl ⟨rfl, by omega⟩⟩
def ms267 : Zms := [(37, 37, 44, 45)]
-- WheelLandModel.fails()Z
theorem m267 {sc : List Int} (h : Hp) (I : zI h) : zwC sc 1 267 [(2, 37)] h (zwRt 0 (fun x g => zI g ∧ zMR ms267 h g ∧ x = 0 ∧ (0 ≤ fld g 37 44))) := by
  refine zwC_of (D := 0) 1 (by decide +kernel) rfl (ls := [(2, 37)]) rfl ?_
  have R : zMR ms267 h h := zMR.rf _ _
  refine zwW_p [(1, 0, 2)] (q := 1) (ls' := [(2, 37)]) (st' := [(2, 37)]) (by decide +kernel) rfl ?_
  refine zwW_gs I (kd := 13) (bn := 44) (n := 97) (t := 0) (lo := -1) (hi := 400) (nx := 4) (by decide +kernel) ?_
  intro v1 ev1 lv1 uv1
  refine zwW_p [(0, -1, 0)] (q := 5) (ls' := [(2, 37)]) (st' := [(0, -1), (0, v1)]) (by decide +kernel) rfl ?_
  refine zwic_ne (q := 16) (nx := 8) (by decide +kernel) (fun c2 => ?_) (fun c2 => ?_)
  · refine zwW_p [(0, 0, 0)] (q := 17) (ls' := [(2, 37)]) (st' := [(0, 0)]) (by decide +kernel) rfl ?_
    refine zwW_ret (nx := 18) (a := 1) (b := 0) (by decide +kernel) rfl (Or.inr (Or.inl ⟨rfl, Or.inl rfl⟩)) ?_
    exact ⟨I, R, rfl, by omega⟩
  · refine zwW_p [(1, 0, 2), (1, 0, 2)] (q := 10) (ls' := [(2, 37)]) (st' := [(2, 37), (2, 37)]) (by decide +kernel) rfl ?_
    refine zwW_gs I (kd := 13) (bn := 42) (n := 97) (t := 0) (lo := 0) (hi := 400) (nx := 13) (by decide +kernel) ?_
    intro v3 ev3 lv3 uv3
    refine zwW_ps I (kd := 13) (bn := 44) (n := 97) (lo := -1) (hi := 400) (nx := 16) (by decide +kernel) (by first | omega | exact ⟨by omega, by omega⟩) ?_
    intro h4 eh4 Ih4
    have th4_37_44 : fld h4 37 44 = v3 := by rw [eh4]; exact fld_wr_eq (I.s (a1 := 37) (a2 := 37) (k := 13) (n := 97) (by decide +kernel) (by decide) (by decide)) (by decide)
    have Rh4 : zMR ms267 h h4 := R.w (a1 := 37) (a2 := 37) (j1 := 44) (j2 := 45) (by decide +kernel) (by first | decide | exact ⟨by decide, by decide⟩) (by first | decide | exact ⟨by decide, by decide⟩) eh4
    refine zwW_p [(0, 0, 0)] (q := 17) (ls' := [(2, 37)]) (st' := [(0, 0)]) (by decide +kernel) rfl ?_
    refine zwW_ret (nx := 18) (a := 1) (b := 0) (by decide +kernel) rfl (Or.inr (Or.inl ⟨rfl, Or.inl rfl⟩)) ?_
    exact ⟨Ih4, Rh4, rfl, by omega⟩
def ms247 : Zms := [(37, 37, 42, 43), (37, 37, 43, 44), (37, 37, 44, 45)]
-- WheelLandModel.passes(Z)Z
theorem m247 {sc : List Int} (h : Hp) (I : zI h) (a : Int) (hP : zP0 h) : zwC sc 4 247 [(2, 37), (0, a)] h (zwRt 0 (fun x g => zI g ∧ zMR ms247 h g ∧ ((x = 1 ∧ (a ≠ 0) ∧ (zP0 g) ∧ (fld h 37 43 ≤ fld g 37 42) ∧ (fld g 37 44 = fld h 37 44)) ∨ (x = 0 ∧ (a = 0) ∧ (zP0 g) ∧ (0 ≤ fld g 37 44))))) := by
  refine zwC_of (D := 3) 2 (by decide +kernel) rfl (ls := [(2, 37), (0, a)]) rfl ?_
  have R : zMR ms247 h h := zMR.rf _ _
  refine zwW_p [(1, 1, 0)] (q := 1) (ls' := [(2, 37), (0, a)]) (st' := [(0, a)]) (by decide +kernel) rfl ?_
  refine zwif_ne (q := 9) (nx := 4) (by decide +kernel) (fun c1 => ?_) (fun c1 => ?_)
  · refine zwW_p [(1, 0, 2)] (q := 10) (ls' := [(2, 37), (0, a)]) (st' := [(2, 37)]) (by decide +kernel) rfl ?_
    refine zwW_cmv I (op := 60) (k' := 268) (n := 0) (kd := 13) (m := 97) (nx := 13) (r := 37) (tl := []) (st' := []) (by decide +kernel) rfl (by decide +kernel) rfl (m268 h I (by omega)) ?_
    rintro h4 ⟨Ih4, Qh4, f2, f3⟩
    have Rh4 : zMR ms247 h h4 := R.tr Qh4 (by decide +kernel)
    have th4_37_44 : fld h4 37 44 = fld h 37 44 := Qh4.f (a1 := 37) (a2 := 37) (j1 := 44) (j2 := 45) (by decide +kernel) (by first | decide | exact ⟨by decide, by decide⟩) (by first | decide | exact ⟨by decide, by decide⟩)
    refine zwW_p [(0, 1, 0)] (q := 14) (ls' := [(2, 37), (0, a)]) (st' := [(0, 1)]) (by decide +kernel) rfl ?_
    refine zwW_ret (nx := 15) (a := 1) (b := 0) (by decide +kernel) rfl (Or.inr (Or.inl ⟨rfl, Or.inr rfl⟩)) ?_
    exact ⟨Ih4, Rh4, Or.inl ⟨rfl, by omega, by exact f3, by omega, by omega⟩⟩
  · refine zwW_p [(1, 0, 2)] (q := 5) (ls' := [(2, 37), (0, a)]) (st' := [(2, 37)]) (by decide +kernel) rfl ?_
    refine zwW_cm I (op := 60) (k' := 267) (n := 0) (kd := 13) (m := 97) (nx := 8) (r := 37) (tl := []) (st' := []) (by decide +kernel) rfl (by decide +kernel) rfl (m267 h I) ?_
    rintro x h6 ⟨Ih6, Qh6, rfl, f5⟩
    have Rh6 : zMR ms247 h h6 := R.tr Qh6 (by decide +kernel)
    refine zwW_ret (nx := 9) (a := 1) (b := 0) (by decide +kernel) rfl (Or.inr (Or.inl ⟨rfl, by omega⟩)) ?_
    exact ⟨Ih6, Rh6, Or.inr ⟨rfl, by omega, by exact hP.mr Qh6 (by decide +kernel), by omega⟩⟩
def ms270 : Zms := [(37, 37, 45, 46), (149, 153, 0, 840)]
-- WheelLandModel.puts(II)Z
theorem m270 {sc : List Int} (h : Hp) (I : zI h) (a b : Int) (q_a : -2147483648 ≤ a ∧ a ≤ 2147483647) (q_b : -2147483648 ≤ b ∧ b ≤ 2147483647) (p1 : 0 ≤ fld h 37 47) (p2 : fld h 37 45 ≤ 399) : zwC sc 1 270 [(2, 37), (0, a), (0, b)] h (zwRt 0 (fun x g => zI g ∧ zMR ms270 h g ∧ x = 1 ∧ (fld g 37 45 = fld h 37 45 + 1) ∧ (∀ j : Nat, fld g (149 + fld h 37 47) j = if j = 2 * (fld h 37 45).toNat + 1 then b else if j = 2 * (fld h 37 45).toNat then a else fld h (149 + fld h 37 47) j) ∧ (∀ r : Int, 149 ≤ r → r ≤ 153 → r ≠ 149 + fld h 37 47 → fld g r = fld h r))) := by
  refine zwC_of (D := 0) 3 (by decide +kernel) rfl (ls := [(2, 37), (0, a), (0, b)]) rfl ?_
  have R : zMR ms270 h h := zMR.rf _ _
  refine zwW_p [(1, 0, 2)] (q := 1) (ls' := [(2, 37), (0, a), (0, b)]) (st' := [(2, 37)]) (by decide +kernel) rfl ?_
  refine zwW_gc I (kd := 13) (bn := 48) (n := 97) (c := 99) (nx := 4) (by decide +kernel) ?_
  refine zwW_p [(0, 8, 0)] (q := 6) (ls' := [(2, 37), (0, a), (0, b)]) (st' := [(0, 8), (2, 99)]) (by decide +kernel) rfl ?_
  refine zwW_ro I (a := 99) (n := 9) (kd := 27) (base := 100) (step := 6) (nx := 7) (by decide +kernel) rfl (by first | decide | exact ⟨by decide, by decide⟩) ?_
  rw [show ((100 : Nat) : Int) + ((6 : Nat) : Int) * 8 = 148 from rfl]
  refine zwW_p [(1, 0, 2)] (q := 8) (ls' := [(2, 37), (0, a), (0, b)]) (st' := [(2, 37), (2, 148)]) (by decide +kernel) rfl ?_
  refine zwW_gs I (kd := 13) (bn := 47) (n := 97) (t := 0) (lo := -1) (hi := 4) (nx := 11) (by decide +kernel) ?_
  intro v1 ev1 lv1 uv1
  refine zwW_ro I (a := 148) (n := 5) (kd := 26) (base := 149) (step := 1) (nx := 12) (by decide +kernel) rfl (by first | omega | exact ⟨by omega, by omega⟩) ?_
  rw [show ((149 : Nat) : Int) + ((1 : Nat) : Int) * v1 = (149 + v1) by omega]
  refine zwW_p [(0, 2, 0), (1, 0, 2)] (q := 14) (ls' := [(2, 37), (0, a), (0, b)]) (st' := [(2, 37), (0, 2), (2, (149 + v1))]) (by decide +kernel) rfl ?_
  refine zwW_gs I (kd := 13) (bn := 45) (n := 97) (t := 0) (lo := 0) (hi := 400) (nx := 17) (by decide +kernel) ?_
  intro v2 ev2 lv2 uv2
  refine zwW_mul (nx := 18) (by decide +kernel) (by first | omega | exact ⟨by omega, by omega⟩) ?_
  refine zwW_p [(1, 1, 0)] (q := 19) (ls' := [(2, 37), (0, a), (0, b)]) (st' := [(0, a), (0, (2 * v2)), (2, (149 + v1))]) (by decide +kernel) rfl ?_
  refine zwW_as I (a1 := 149) (a2 := 153) (n := 840) (lo := -2147483648) (hi := 2147483647) (nx := 20) (by decide +kernel) (by first | omega | exact ⟨by omega, by omega⟩) (by first | omega | exact ⟨by omega, by omega⟩) (by first | omega | exact ⟨by omega, by omega⟩) ?_
  intro h3 eh3 Ih3
  have th3_37_45 : fld h3 37 45 = fld h 37 45 := by rw [eh3]; exact fld_wr (by omega)
  have th3_37_47 : fld h3 37 47 = fld h 37 47 := by rw [eh3]; exact fld_wr (by omega)
  have E19 : h3 = wr h (149 + fld h 37 47) (2 * (fld h 37 45).toNat) a := by rw [eh3, show (149 + v1) = 149 + fld h 37 47 by omega, show ((2 * v2)).toNat = 2 * (fld h 37 45).toNat by omega]
  have Rh3 : zMR ms270 h h3 := R.w (a1 := 149) (a2 := 153) (j1 := 0) (j2 := 840) (by decide +kernel) (by first | omega | exact ⟨by omega, by omega⟩) (by first | omega | exact ⟨by omega, by omega⟩) eh3
  refine zwW_p [(1, 0, 2)] (q := 21) (ls' := [(2, 37), (0, a), (0, b)]) (st' := [(2, 37)]) (by decide +kernel) rfl ?_
  refine zwW_gc Ih3 (kd := 13) (bn := 48) (n := 97) (c := 99) (nx := 24) (by decide +kernel) ?_
  refine zwW_p [(0, 8, 0)] (q := 26) (ls' := [(2, 37), (0, a), (0, b)]) (st' := [(0, 8), (2, 99)]) (by decide +kernel) rfl ?_
  refine zwW_ro Ih3 (a := 99) (n := 9) (kd := 27) (base := 100) (step := 6) (nx := 27) (by decide +kernel) rfl (by first | decide | exact ⟨by decide, by decide⟩) ?_
  rw [show ((100 : Nat) : Int) + ((6 : Nat) : Int) * 8 = 148 from rfl]
  refine zwW_p [(1, 0, 2)] (q := 28) (ls' := [(2, 37), (0, a), (0, b)]) (st' := [(2, 37), (2, 148)]) (by decide +kernel) rfl ?_
  refine zwW_gs Ih3 (kd := 13) (bn := 47) (n := 97) (t := 0) (lo := -1) (hi := 4) (nx := 31) (by decide +kernel) ?_
  intro v4 ev4 lv4 uv4
  refine zwW_ro Ih3 (a := 148) (n := 5) (kd := 26) (base := 149) (step := 1) (nx := 32) (by decide +kernel) rfl (by first | omega | exact ⟨by omega, by omega⟩) ?_
  rw [show ((149 : Nat) : Int) + ((1 : Nat) : Int) * v4 = (149 + v4) by omega]
  refine zwW_p [(0, 2, 0), (1, 0, 2)] (q := 34) (ls' := [(2, 37), (0, a), (0, b)]) (st' := [(2, 37), (0, 2), (2, (149 + v4))]) (by decide +kernel) rfl ?_
  refine zwW_gs Ih3 (kd := 13) (bn := 45) (n := 97) (t := 0) (lo := 0) (hi := 400) (nx := 37) (by decide +kernel) ?_
  intro v5 ev5 lv5 uv5
  refine zwW_mul (nx := 38) (by decide +kernel) (by first | omega | exact ⟨by omega, by omega⟩) ?_
  refine zwW_p [(0, 1, 0)] (q := 39) (ls' := [(2, 37), (0, a), (0, b)]) (st' := [(0, 1), (0, (2 * v5)), (2, (149 + v4))]) (by decide +kernel) rfl ?_
  refine zwW_add (nx := 40) (by decide +kernel) (by first | omega | exact ⟨by omega, by omega⟩) ?_
  refine zwW_p [(1, 2, 0)] (q := 41) (ls' := [(2, 37), (0, a), (0, b)]) (st' := [(0, b), (0, ((2 * v5) + 1)), (2, (149 + v4))]) (by decide +kernel) rfl ?_
  refine zwW_as Ih3 (a1 := 149) (a2 := 153) (n := 840) (lo := -2147483648) (hi := 2147483647) (nx := 42) (by decide +kernel) (by first | omega | exact ⟨by omega, by omega⟩) (by first | omega | exact ⟨by omega, by omega⟩) (by first | omega | exact ⟨by omega, by omega⟩) ?_
  intro h6 eh6 Ih6
  have th6_37_45 : fld h6 37 45 = fld h3 37 45 := by rw [eh6]; exact fld_wr (by omega)
  have th6_37_47 : fld h6 37 47 = fld h3 37 47 := by rw [eh6]; exact fld_wr (by omega)
  have E41 : h6 = wr h3 (149 + fld h 37 47) (2 * (fld h 37 45).toNat + 1) b := by rw [eh6, show (149 + v4) = 149 + fld h 37 47 by omega, show (((2 * v5) + 1)).toNat = 2 * (fld h 37 45).toNat + 1 by omega]
  have Rh6 : zMR ms270 h h6 := Rh3.w (a1 := 149) (a2 := 153) (j1 := 0) (j2 := 840) (by decide +kernel) (by first | omega | exact ⟨by omega, by omega⟩) (by first | omega | exact ⟨by omega, by omega⟩) eh6
  refine zwW_p [(1, 0, 2), (12, 0, 0)] (q := 44) (ls' := [(2, 37), (0, a), (0, b)]) (st' := [(2, 37), (2, 37)]) (by decide +kernel) rfl ?_
  refine zwW_gs Ih6 (kd := 13) (bn := 45) (n := 97) (t := 0) (lo := 0) (hi := 400) (nx := 47) (by decide +kernel) ?_
  intro v7 ev7 lv7 uv7
  refine zwW_p [(0, 1, 0)] (q := 48) (ls' := [(2, 37), (0, a), (0, b)]) (st' := [(0, 1), (0, v7), (2, 37)]) (by decide +kernel) rfl ?_
  refine zwW_add (nx := 49) (by decide +kernel) (by first | omega | exact ⟨by omega, by omega⟩) ?_
  refine zwW_ps Ih6 (kd := 13) (bn := 45) (n := 97) (lo := 0) (hi := 400) (nx := 52) (by decide +kernel) (by first | omega | exact ⟨by omega, by omega⟩) ?_
  intro h8 eh8 Ih8
  have th8_37_45 : fld h8 37 45 = (v7 + 1) := by rw [eh8]; exact fld_wr_eq (Ih6.s (a1 := 37) (a2 := 37) (k := 13) (n := 97) (by decide +kernel) (by decide) (by decide)) (by decide)
  have th8_37_47 : fld h8 37 47 = fld h6 37 47 := by rw [eh8]; exact fld_wr (by decide)
  have E49 := eh8
  have Rh8 : zMR ms270 h h8 := Rh6.w (a1 := 37) (a2 := 37) (j1 := 45) (j2 := 46) (by decide +kernel) (by first | decide | exact ⟨by decide, by decide⟩) (by first | decide | exact ⟨by decide, by decide⟩) eh8
  refine zwW_p [(0, 1, 0)] (q := 53) (ls' := [(2, 37), (0, a), (0, b)]) (st' := [(0, 1)]) (by decide +kernel) rfl ?_
  refine zwW_ret (nx := 54) (a := 1) (b := 0) (by decide +kernel) rfl (Or.inr (Or.inl ⟨rfl, Or.inr rfl⟩)) ?_
  exact ⟨Ih8, Rh8, rfl, by omega, by exact puts_fact E19 E41 E49 (by omega) (I.s (a1 := 149) (a2 := 153) (by decide +kernel) (by omega) (by omega)) (by omega), by exact fun r k1 k2 k3 => puts_oth E19 E41 E49 r k1 k3⟩
def ms296 : Zms := [(37, 37, 46, 47)]
-- WheelLandModel.isNumber()Z
theorem m296 {sc : List Int} (h : Hp) (I : zI h) (hP : zP0 h) : zwC sc 2 296 [(2, 37)] h (zwRt 0 (fun x g => zI g ∧ zMR ms296 h g ∧ ((x = 1 ∧ (fld h 37 42 < fld h 37 41)) ∨ (x = 0)))) := by
  refine zwC_of (D := 1) 2 (by decide +kernel) rfl (ls := [(2, 37), (9, 0)]) rfl ?_
  have R : zMR ms296 h h := zMR.rf _ _
  have hP0 := hP
  unfold zP0 at hP0
  refine zwW_p [(1, 0, 2)] (q := 1) (ls' := [(2, 37), (9, 0)]) (st' := [(2, 37)]) (by decide +kernel) rfl ?_
  refine zwW_gs I (kd := 13) (bn := 42) (n := 97) (t := 0) (lo := 0) (hi := 400) (nx := 4) (by decide +kernel) ?_
  intro v1 ev1 lv1 uv1
  refine zwW_p [(1, 0, 2)] (q := 5) (ls' := [(2, 37), (9, 0)]) (st' := [(2, 37), (0, v1)]) (by decide +kernel) rfl ?_
  refine zwW_gs I (kd := 13) (bn := 41) (n := 97) (t := 0) (lo := 0) (hi := 400) (nx := 8) (by decide +kernel) ?_
  intro v2 ev2 lv2 uv2
  refine zwic_eq (q := 26) (nx := 11) (by decide +kernel) (fun c3 => ?_) (fun c3 => ?_)
  · refine zwW_p [(0, 0, 0)] (q := 27) (ls' := [(2, 37), (9, 0)]) (st' := [(0, 0)]) (by decide +kernel) rfl ?_
    refine zwW_ret (nx := 28) (a := 1) (b := 0) (by decide +kernel) rfl (Or.inr (Or.inl ⟨rfl, Or.inl rfl⟩)) ?_
    exact ⟨I, R, Or.inr rfl⟩
  · refine zwW_p [(1, 0, 2)] (q := 12) (ls' := [(2, 37), (9, 0)]) (st' := [(2, 37)]) (by decide +kernel) rfl ?_
    refine zwW_gc I (kd := 13) (bn := 40) (n := 97) (c := 98) (nx := 15) (by decide +kernel) ?_
    refine zwW_p [(1, 0, 2)] (q := 16) (ls' := [(2, 37), (9, 0)]) (st' := [(2, 37), (2, 98)]) (by decide +kernel) rfl ?_
    refine zwW_gs I (kd := 13) (bn := 42) (n := 97) (t := 0) (lo := 0) (hi := 400) (nx := 19) (by decide +kernel) ?_
    intro v4 ev4 lv4 uv4
    refine zwW_al I (a1 := 98) (a2 := 98) (kd := 21) (n := 400) (t := 0) (lo := -128) (hi := 127) (nx := 20) (by decide +kernel) (by first | decide | exact ⟨by decide, by decide⟩) (by first | omega | exact ⟨by omega, by omega⟩) ?_
    intro v5 ev5 lv5 uv5
    refine zwW_cs (k' := 245) (n := 1) (nx := 23) (as := [(0, v5)]) (st' := []) (by decide +kernel) rfl (m245 h v5) rfl ?_
    rintro x _ ⟨rfl, ⟨rfl, c6⟩ | ⟨rfl, c6⟩⟩
    · refine zwif_ne (q := 28) (nx := 26) (by decide +kernel) (fun c7 => ?_) (fun c7 => ?_)
      · refine zwW_p [(1, 0, 2), (0, 0, 0)] (q := 30) (ls' := [(2, 37), (9, 0)]) (st' := [(0, 0), (2, 37)]) (by decide +kernel) rfl ?_
        refine zwW_ps I (kd := 13) (bn := 46) (n := 97) (lo := -2147483648) (hi := 2147483647) (nx := 33) (by decide +kernel) (by first | decide | exact ⟨by decide, by decide⟩) ?_
        intro h8 eh8 Ih8
        have th8_37_41 : fld h8 37 41 = fld h 37 41 := by rw [eh8]; exact fld_wr (by decide)
        have th8_37_42 : fld h8 37 42 = fld h 37 42 := by rw [eh8]; exact fld_wr (by decide)
        have th8_37_43 : fld h8 37 43 = fld h 37 43 := by rw [eh8]; exact fld_wr (by decide)
        have Rh8 : zMR ms296 h h8 := R.w (a1 := 37) (a2 := 37) (j1 := 46) (j2 := 47) (by decide +kernel) (by first | decide | exact ⟨by decide, by decide⟩) (by first | decide | exact ⟨by decide, by decide⟩) eh8
        refine zwW_p [(1, 0, 2)] (q := 34) (ls' := [(2, 37), (9, 0)]) (st' := [(2, 37)]) (by decide +kernel) rfl ?_
        refine zwW_gs Ih8 (kd := 13) (bn := 42) (n := 97) (t := 0) (lo := 0) (hi := 400) (nx := 37) (by decide +kernel) ?_
        intro v9 ev9 lv9 uv9
        refine zwW_p [(2, 1, 0)] (q := 38) (ls' := [(2, 37), (0, v9)]) (st' := []) (by decide +kernel) rfl ?_
        have L10 : ∀ (n : Nat) (kL10 : Int) (hL10 : Hp), n = ((1000 - kL10)).toNat → (fld h 37 42 ≤ kL10 ∧ kL10 ≤ 400) → (fld hL10 37 41 = fld h 37 41) → (fld hL10 37 42 = fld h 37 42) → (fld hL10 37 43 = fld h 37 43) → zI hL10 → zMR ms296 h hL10 → zwW sc (1) 296 38 [(2, 37), (0, kL10)] [] hL10 (zwRt 0 (fun x g => zI g ∧ zMR ms296 h g ∧ ((x = 1 ∧ (fld h 37 42 < fld h 37 41)) ∨ (x = 0)))) := by
          intro n
          induction n using Nat.strongRecOn with
          | ind n IHL10 =>
            intro kL10 hL10 hnL10 iL10_0 iL10_1 iL10_2 iL10_3 IhL10 RhL10
            refine zwW_p [(1, 1, 0), (1, 0, 2)] (q := 40) (ls' := [(2, 37), (0, kL10)]) (st' := [(2, 37), (0, kL10)]) (by decide +kernel) rfl ?_
            refine zwW_gs IhL10 (kd := 13) (bn := 43) (n := 97) (t := 0) (lo := 0) (hi := 400) (nx := 43) (by decide +kernel) ?_
            intro v11 ev11 lv11 uv11
            refine zwic_ge (q := 89) (nx := 46) (by decide +kernel) (fun c12 => ?_) (fun c12 => ?_)
            · refine zwW_p [(0, 1, 0)] (q := 90) (ls' := [(2, 37), (0, kL10)]) (st' := [(0, 1)]) (by decide +kernel) rfl ?_
              refine zwW_ret (nx := 91) (a := 1) (b := 0) (by decide +kernel) rfl (Or.inr (Or.inl ⟨rfl, Or.inr rfl⟩)) ?_
              exact ⟨IhL10, RhL10, Or.inl ⟨rfl, by omega⟩⟩
            · refine zwW_p [(1, 0, 2), (1, 0, 2)] (q := 48) (ls' := [(2, 37), (0, kL10)]) (st' := [(2, 37), (2, 37)]) (by decide +kernel) rfl ?_
              refine zwW_gs IhL10 (kd := 13) (bn := 46) (n := 97) (t := 0) (lo := -2147483648) (hi := 2147483647) (nx := 51) (by decide +kernel) ?_
              intro v13 ev13 lv13 uv13
              refine zwW_p [(0, 99999, 0)] (q := 54) (ls' := [(2, 37), (0, kL10)]) (st' := [(0, 99999), (0, v13), (2, 37)]) (by decide +kernel) rfl ?_
              refine zwic_le (q := 63) (nx := 57) (by decide +kernel) (fun c14 => ?_) (fun c14 => ?_)
              · refine zwW_p [(0, 10, 0), (1, 0, 2)] (q := 66) (ls' := [(2, 37), (0, kL10)]) (st' := [(2, 37), (0, 10), (2, 37)]) (by decide +kernel) rfl ?_
                refine zwW_gs IhL10 (kd := 13) (bn := 46) (n := 97) (t := 0) (lo := -2147483648) (hi := 2147483647) (nx := 69) (by decide +kernel) ?_
                intro v15 ev15 lv15 uv15
                refine zwW_mlw (nx := 70) (by decide +kernel) ?_
                intro v16 ev16 lv16 uv16
                refine zwW_p [(1, 0, 2)] (q := 71) (ls' := [(2, 37), (0, kL10)]) (st' := [(2, 37), (0, v16), (2, 37)]) (by decide +kernel) rfl ?_
                refine zwW_gc IhL10 (kd := 13) (bn := 40) (n := 97) (c := 98) (nx := 74) (by decide +kernel) ?_
                refine zwW_p [(1, 1, 0)] (q := 75) (ls' := [(2, 37), (0, kL10)]) (st' := [(0, kL10), (2, 98), (0, v16), (2, 37)]) (by decide +kernel) rfl ?_
                refine zwW_al IhL10 (a1 := 98) (a2 := 98) (kd := 21) (n := 400) (t := 0) (lo := -128) (hi := 127) (nx := 76) (by decide +kernel) (by first | decide | exact ⟨by decide, by decide⟩) (by first | omega | exact ⟨by omega, by omega⟩) ?_
                intro v17 ev17 lv17 uv17
                refine zwW_adw (nx := 77) (by decide +kernel) ?_
                intro v18 ev18 lv18 uv18
                refine zwW_p [(0, 48, 0)] (q := 79) (ls' := [(2, 37), (0, kL10)]) (st' := [(0, 48), (0, v18), (2, 37)]) (by decide +kernel) rfl ?_
                refine zwW_sbw (nx := 80) (by decide +kernel) ?_
                intro v19 ev19 lv19 uv19
                refine zwW_ps IhL10 (kd := 13) (bn := 46) (n := 97) (lo := -2147483648) (hi := 2147483647) (nx := 83) (by decide +kernel) (by first | omega | exact ⟨by omega, by omega⟩) ?_
                intro h20 eh20 Ih20
                have th20_37_41 : fld h20 37 41 = fld hL10 37 41 := by rw [eh20]; exact fld_wr (by decide)
                have th20_37_42 : fld h20 37 42 = fld hL10 37 42 := by rw [eh20]; exact fld_wr (by decide)
                have th20_37_43 : fld h20 37 43 = fld hL10 37 43 := by rw [eh20]; exact fld_wr (by decide)
                have Rh20 : zMR ms296 h h20 := RhL10.w (a1 := 37) (a2 := 37) (j1 := 46) (j2 := 47) (by decide +kernel) (by first | decide | exact ⟨by decide, by decide⟩) (by first | decide | exact ⟨by decide, by decide⟩) eh20
                refine zwW_inc (i := 1) (c := 1) (x := kL10) (nx := 86) (by decide +kernel) rfl (by first | omega | exact ⟨by omega, by omega⟩) (ls' := [(2, 37), (0, (kL10 + 1))]) rfl ?_
                refine zwW_p [(24, 38, 0)] (q := 38) (ls' := [(2, 37), (0, (kL10 + 1))]) (st' := []) (by decide +kernel) rfl ?_
                exact IHL10 ((1000 - (kL10 + 1))).toNat (by omega) (kL10 + 1) h20 rfl (by omega) (by omega) (by omega) (by omega) Ih20 Rh20
              · refine zwW_p [(0, 999999, 0), (24, 80, 0)] (q := 80) (ls' := [(2, 37), (0, kL10)]) (st' := [(0, 999999), (2, 37)]) (by decide +kernel) rfl ?_
                refine zwW_ps IhL10 (kd := 13) (bn := 46) (n := 97) (lo := -2147483648) (hi := 2147483647) (nx := 83) (by decide +kernel) (by first | decide | exact ⟨by decide, by decide⟩) ?_
                intro h21 eh21 Ih21
                have th21_37_41 : fld h21 37 41 = fld hL10 37 41 := by rw [eh21]; exact fld_wr (by decide)
                have th21_37_42 : fld h21 37 42 = fld hL10 37 42 := by rw [eh21]; exact fld_wr (by decide)
                have th21_37_43 : fld h21 37 43 = fld hL10 37 43 := by rw [eh21]; exact fld_wr (by decide)
                have Rh21 : zMR ms296 h h21 := RhL10.w (a1 := 37) (a2 := 37) (j1 := 46) (j2 := 47) (by decide +kernel) (by first | decide | exact ⟨by decide, by decide⟩) (by first | decide | exact ⟨by decide, by decide⟩) eh21
                refine zwW_inc (i := 1) (c := 1) (x := kL10) (nx := 86) (by decide +kernel) rfl (by first | omega | exact ⟨by omega, by omega⟩) (ls' := [(2, 37), (0, (kL10 + 1))]) rfl ?_
                refine zwW_p [(24, 38, 0)] (q := 38) (ls' := [(2, 37), (0, (kL10 + 1))]) (st' := []) (by decide +kernel) rfl ?_
                exact IHL10 ((1000 - (kL10 + 1))).toNat (by omega) (kL10 + 1) h21 rfl (by omega) (by omega) (by omega) (by omega) Ih21 Rh21
        exact L10 _ v9 h8 rfl (by omega) (by omega) (by omega) (by omega) Ih8 Rh8
      · exfalso; omega
    · refine zwif_ne (q := 28) (nx := 26) (by decide +kernel) (fun c22 => ?_) (fun c22 => ?_)
      · exfalso; omega
      · refine zwW_p [(0, 0, 0)] (q := 27) (ls' := [(2, 37), (9, 0)]) (st' := [(0, 0)]) (by decide +kernel) rfl ?_
        refine zwW_ret (nx := 28) (a := 1) (b := 0) (by decide +kernel) rfl (Or.inr (Or.inl ⟨rfl, Or.inl rfl⟩)) ?_
        exact ⟨I, R, Or.inr rfl⟩
-- WheelLandModel.isWord(Ljava/lang/String;)Z
theorem m246 {sc : List Int} (h : Hp) (I : zI h) (w : Int) (hw : -33 < w ∧ w ≤ -10) (hP : zP0 h) : zwC sc 5 246 [(2, 37), (2, w)] h (zwRt 0 (fun x g => h = g ∧ ((x = 1 ∧ (fld h 37 42 < fld h 37 41)) ∨ (x = 0 ∧ (True))))) := by
  refine zwC_of (D := 4) 3 (by decide +kernel) rfl (ls := [(2, 37), (2, w), (9, 0)]) rfl ?_
  have hP0 := hP
  unfold zP0 at hP0
  refine zwW_p [(1, 0, 2)] (q := 1) (ls' := [(2, 37), (2, w), (9, 0)]) (st' := [(2, 37)]) (by decide +kernel) rfl ?_
  refine zwW_gs I (kd := 13) (bn := 43) (n := 97) (t := 0) (lo := 0) (hi := 400) (nx := 4) (by decide +kernel) ?_
  intro v1 ev1 lv1 uv1
  refine zwW_p [(1, 0, 2)] (q := 5) (ls' := [(2, 37), (2, w), (9, 0)]) (st' := [(2, 37), (0, v1)]) (by decide +kernel) rfl ?_
  refine zwW_gs I (kd := 13) (bn := 42) (n := 97) (t := 0) (lo := 0) (hi := 400) (nx := 8) (by decide +kernel) ?_
  intro v2 ev2 lv2 uv2
  refine zwW_sub (nx := 9) (by decide +kernel) (by first | omega | exact ⟨by omega, by omega⟩) ?_
  refine zwW_p [(1, 1, 2)] (q := 10) (ls' := [(2, 37), (2, w), (9, 0)]) (st' := [(2, w), (0, (v1 - v2))]) (by decide +kernel) rfl ?_
  refine zwW_cst (op := 60) (k' := 265) (n := 0) (nx := 13) (w := w) (tl := []) (st' := [(0, (v1 - v2))]) (by decide +kernel) rfl (by decide +kernel) (by first | omega | exact ⟨by omega, by omega⟩) rfl (m265 h w (by omega)) ?_
  rintro v3 _ ⟨rfl, f4, f5, f6⟩
  refine zwic_ne (q := 27) (nx := 16) (by decide +kernel) (fun c7 => ?_) (fun c7 => ?_)
  · refine zwW_p [(0, 0, 0)] (q := 28) (ls' := [(2, 37), (2, w), (9, 0)]) (st' := [(0, 0)]) (by decide +kernel) rfl ?_
    refine zwW_ret (nx := 29) (a := 1) (b := 0) (by decide +kernel) rfl (Or.inr (Or.inl ⟨rfl, Or.inl rfl⟩)) ?_
    exact ⟨rfl, Or.inr ⟨rfl, by trivial⟩⟩
  · refine zwW_p [(1, 0, 2)] (q := 17) (ls' := [(2, 37), (2, w), (9, 0)]) (st' := [(2, 37)]) (by decide +kernel) rfl ?_
    refine zwW_gs I (kd := 13) (bn := 42) (n := 97) (t := 0) (lo := 0) (hi := 400) (nx := 20) (by decide +kernel) ?_
    intro v8 ev8 lv8 uv8
    refine zwW_p [(1, 0, 2)] (q := 21) (ls' := [(2, 37), (2, w), (9, 0)]) (st' := [(2, 37), (0, v8)]) (by decide +kernel) rfl ?_
    refine zwW_gs I (kd := 13) (bn := 41) (n := 97) (t := 0) (lo := 0) (hi := 400) (nx := 24) (by decide +kernel) ?_
    intro v9 ev9 lv9 uv9
    refine zwic_ne (q := 29) (nx := 27) (by decide +kernel) (fun c10 => ?_) (fun c10 => ?_)
    · refine zwW_p [(0, 0, 0), (2, 2, 0)] (q := 31) (ls' := [(2, 37), (2, w), (0, 0)]) (st' := []) (by decide +kernel) rfl ?_
      have L11 : ∀ (n : Nat) (kL11 : Int), n = ((1000 - kL11)).toNat → (0 ≤ kL11 ∧ kL11 ≤ ((zby w).length : Int)) → zwW sc (4) 246 31 [(2, 37), (2, w), (0, kL11)] [] h (zwRt 0 (fun x g => h = g ∧ ((x = 1 ∧ (fld h 37 42 < fld h 37 41)) ∨ (x = 0 ∧ (True))))) := by
        intro n
        induction n using Nat.strongRecOn with
        | ind n IHL11 =>
          intro kL11 hnL11 iL11_0
          refine zwW_p [(1, 2, 0), (1, 1, 2)] (q := 33) (ls' := [(2, 37), (2, w), (0, kL11)]) (st' := [(2, w), (0, kL11)]) (by decide +kernel) rfl ?_
          refine zwW_cst (op := 60) (k' := 265) (n := 0) (nx := 36) (w := w) (tl := []) (st' := [(0, kL11)]) (by decide +kernel) rfl (by decide +kernel) (by first | omega | exact ⟨by omega, by omega⟩) rfl (m265 h w (by omega)) ?_
          rintro v12 _ ⟨rfl, f13, f14, f15⟩
          refine zwic_ge (q := 66) (nx := 39) (by decide +kernel) (fun c16 => ?_) (fun c16 => ?_)
          · refine zwW_p [(0, 1, 0)] (q := 67) (ls' := [(2, 37), (2, w), (0, kL11)]) (st' := [(0, 1)]) (by decide +kernel) rfl ?_
            refine zwW_ret (nx := 68) (a := 1) (b := 0) (by decide +kernel) rfl (Or.inr (Or.inl ⟨rfl, Or.inr rfl⟩)) ?_
            exact ⟨rfl, Or.inl ⟨rfl, by omega⟩⟩
          · refine zwW_p [(1, 0, 2)] (q := 40) (ls' := [(2, 37), (2, w), (0, kL11)]) (st' := [(2, 37)]) (by decide +kernel) rfl ?_
            refine zwW_gc I (kd := 13) (bn := 40) (n := 97) (c := 98) (nx := 43) (by decide +kernel) ?_
            refine zwW_p [(1, 0, 2)] (q := 44) (ls' := [(2, 37), (2, w), (0, kL11)]) (st' := [(2, 37), (2, 98)]) (by decide +kernel) rfl ?_
            refine zwW_gs I (kd := 13) (bn := 42) (n := 97) (t := 0) (lo := 0) (hi := 400) (nx := 47) (by decide +kernel) ?_
            intro v17 ev17 lv17 uv17
            refine zwW_p [(1, 2, 0)] (q := 48) (ls' := [(2, 37), (2, w), (0, kL11)]) (st' := [(0, kL11), (0, v17), (2, 98)]) (by decide +kernel) rfl ?_
            refine zwW_add (nx := 49) (by decide +kernel) (by first | omega | exact ⟨by omega, by omega⟩) ?_
            refine zwW_al I (a1 := 98) (a2 := 98) (kd := 21) (n := 400) (t := 0) (lo := -128) (hi := 127) (nx := 50) (by decide +kernel) (by first | decide | exact ⟨by decide, by decide⟩) (by first | omega | exact ⟨by omega, by omega⟩) ?_
            intro v18 ev18 lv18 uv18
            refine zwW_p [(1, 1, 2), (1, 2, 0)] (q := 52) (ls' := [(2, 37), (2, w), (0, kL11)]) (st' := [(0, kL11), (2, w), (0, v18)]) (by decide +kernel) rfl ?_
            refine zwW_cst (op := 60) (k' := 266) (n := 1) (nx := 55) (w := w) (tl := [(0, kL11)]) (st' := [(0, v18)]) (by decide +kernel) rfl (by decide +kernel) (by first | omega | exact ⟨by omega, by omega⟩) rfl (m266 h w kL11 (by omega) (by omega) (by omega) (by omega)) ?_
            rintro v19 _ ⟨rfl, f20, f21, f22⟩
            refine zwic_eq (q := 60) (nx := 58) (by decide +kernel) (fun c23 => ?_) (fun c23 => ?_)
            · refine zwW_inc (i := 2) (c := 1) (x := kL11) (nx := 63) (by decide +kernel) rfl (by first | omega | exact ⟨by omega, by omega⟩) (ls' := [(2, 37), (2, w), (0, (kL11 + 1))]) rfl ?_
              refine zwW_p [(24, 31, 0)] (q := 31) (ls' := [(2, 37), (2, w), (0, (kL11 + 1))]) (st' := []) (by decide +kernel) rfl ?_
              exact IHL11 ((1000 - (kL11 + 1))).toNat (by omega) (kL11 + 1) rfl (by omega)
            · refine zwW_p [(0, 0, 0)] (q := 59) (ls' := [(2, 37), (2, w), (0, kL11)]) (st' := [(0, 0)]) (by decide +kernel) rfl ?_
              refine zwW_ret (nx := 60) (a := 1) (b := 0) (by decide +kernel) rfl (Or.inr (Or.inl ⟨rfl, Or.inl rfl⟩)) ?_
              exact ⟨rfl, Or.inr ⟨rfl, by trivial⟩⟩
      exact L11 _ 0 rfl (by omega)
    · refine zwW_p [(0, 0, 0)] (q := 28) (ls' := [(2, 37), (2, w), (9, 0)]) (st' := [(0, 0)]) (by decide +kernel) rfl ?_
      refine zwW_ret (nx := 29) (a := 1) (b := 0) (by decide +kernel) rfl (Or.inr (Or.inl ⟨rfl, Or.inl rfl⟩)) ?_
      exact ⟨rfl, Or.inr ⟨rfl, by trivial⟩⟩
end
section
/-! the model's parser: parts put together -/
section ZQ
variable {h h1 h2 h3 h4 g : Hp}
/-- nothing but the place and what isn't read here has changed; the place isn't less -/
def zNu (h h' : Hp) : Prop := fld h' 37 45 = fld h 37 45 ∧ fld h' 37 44 = fld h 37 44 ∧ fld h' 37 47 = fld h 37 47 ∧ fld h 37 42 ≤ fld h' 37 42 ∧ fld h' (149 + fld h 37 47) = fld h (149 + fld h 37 47) ∧ ∀ r : Int, 149 ≤ r → r ≤ 153 → fld h' r = fld h r
theorem zNu.rf (h : Hp) : zNu h h := ⟨rfl, rfl, rfl, Int.le_refl _, rfl, fun _ _ _ => rfl⟩
theorem zNu.tr (a : zNu h h1) (b : zNu h1 h2) : zNu h h2 := by
  obtain ⟨a1, a2, a3, a4, a5, a6⟩ := a
  obtain ⟨b1, b2, b3, b4, b5, b6⟩ := b
  rw [a3] at b5
  exact ⟨b1.trans a1, b2.trans a2, b3.trans a3, Int.le_trans a4 b4, b5.trans a5, fun r k1 k2 => (b6 r k1 k2).trans (a6 r k1 k2)⟩
theorem zNu.mr {ms : Zms} (I : zI h) (hc : 0 ≤ fld h 37 47) (R : zMR ms h h1) (e : (zqN ms 37 37 45 46 && (zqN ms 37 37 47 48 && ms.all (fun q => Nat.blt q.2.1 149 || Nat.blt 153 q.1))) = true) (hf : fld h1 37 44 = fld h 37 44) (ha : fld h 37 42 ≤ fld h1 37 42) : zNu h h1 := by
  simp only [Bool.and_eq_true] at e
  obtain ⟨e1, e2, e3⟩ := e
  have hb := I.b (a1 := 37) (a2 := 37) (j1 := 47) (j2 := 48) (lo := -1) (hi := 4) (by decide +kernel) (r := 37) (j := 47) (by decide) (by decide) (by decide) (by decide)
  have q : ∀ r : Int, 149 ≤ r → r ≤ 153 → fld h1 r = fld h r := by
   intro r k1 k2
   refine funext (fun j => R.2.2.2 _ j (fun f hf hz => ?_))
   have e := List.all_eq_true.mp e3 f hf
   rw [Bool.or_eq_true] at e
   rcases e with e | e
   · have := Nat.le_of_ble_eq_true e
     omega
   · have := Nat.le_of_ble_eq_true e
     omega
  exact ⟨R.f1 45 e1, hf, R.f1 47 e2, ha, q _ (by omega) (by omega), q⟩
theorem zPS.pre (N : zNu h h1) (S : zPS h1 h2) : zPS h h2 := by
  obtain ⟨a1, a2, a3, a4, a5, a6⟩ := N
  obtain ⟨b1, b2, b3, b4, b5, b6⟩ := S
  rw [a3, a1] at b4 b5
  rw [a5] at b5
  rw [a3] at b6
  exact ⟨by omega, by omega, by omega, b4, b5, fun r k1 k2 k3 => (b6 r k1 k2 k3).trans (a6 r k1 k2)⟩
theorem zPS.post (hc : fld h1 37 47 = fld h 37 47) (S : zPS h h1) (N : zNu h1 h2) : zPS h h2 := by
  obtain ⟨a1, a2, a3, a4, a5, a6⟩ := N
  obtain ⟨b1, b2, b3, b4, b5, b6⟩ := S
  rw [hc] at a5
  refine ⟨by omega, by omega, by omega, ?_, fun j hj => ?_, fun r k1 k2 k3 => (a6 r k1 k2).trans (b6 r k1 k2 k3)⟩
  · rw [a5, a1]
    exact b4
  · rw [a5]
    exact b5 j hj
/-- the codes behind one more -/
def zPu (h h' : Hp) (a b : Int) : Prop := fld h' 37 45 = fld h 37 45 + 1 ∧ (∀ j : Nat, fld h' (149 + fld h 37 47) j = if j = 2 * (fld h 37 45).toNat + 1 then b else if j = 2 * (fld h 37 45).toNat then a else fld h (149 + fld h 37 47) j) ∧ fld h' 37 42 = fld h 37 42 ∧ fld h' 37 44 = fld h 37 44 ∧ ∀ r : Int, 149 ≤ r → r ≤ 153 → r ≠ 149 + fld h 37 47 → fld h' r = fld h r
theorem zPu.of {a b : Int} (R : zMR ms270 h h1) (f1 : fld h1 37 45 = fld h 37 45 + 1) (f2 : ∀ j : Nat, fld h1 (149 + fld h 37 47) j = if j = 2 * (fld h 37 45).toNat + 1 then b else if j = 2 * (fld h 37 45).toNat then a else fld h (149 + fld h 37 47) j) (f3 : ∀ r : Int, 149 ≤ r → r ≤ 153 → r ≠ 149 + fld h 37 47 → fld h1 r = fld h r) : zPu h h1 a b := ⟨f1, f2, R.f1 42 (by decide +kernel), R.f1 44 (by decide +kernel), f3⟩
theorem zPS_push {a b : Int} (hk : 0 ≤ fld h 37 45) (N : zNu h h1) (hl : fld h 37 42 < fld h1 37 42) (P : zPu h1 h2 a b) (ha : a = 110 ∨ (a = 118 ∧ 0 ≤ b ∧ b ≤ 12)) : zPS h h2 := by
  obtain ⟨a1, a2, a3, a4, a5, a6⟩ := N
  obtain ⟨b1, b2, b3, b4, b5⟩ := P
  rw [a3, a1] at b2
  rw [a3] at b5
  refine ⟨by omega, by omega, by omega, ?_, fun j hj => ?_, fun r k1 k2 k3 => (b5 r k1 k2 k3).trans (a6 r k1 k2)⟩
  · rw [b1, a1, show (fld h 37 45 + 1).toNat = (fld h 37 45).toNat + 1 by omega]
    refine zsg_push ?_ (fun _ => ?_)
    · rw [b2, if_neg (by omega), if_pos rfl]
      omega
    · rename_i hz
      rw [b2, if_neg (by omega), if_pos rfl] at hz
      rw [b2, if_pos rfl]
      omega
  · rw [b2, if_neg (by omega), if_neg (by omega), a5]
theorem zPS_bin {a b : Int} (hk : 0 ≤ fld h 37 45) (hc : fld h1 37 47 = fld h 37 47) (S : zPS h h1) (N : zNu h1 h2) (hl : fld h1 37 42 < fld h2 37 42) (S2 : zPS h2 h3) (hc3 : fld h3 37 47 = fld h2 37 47) (P : zPu h3 h4 a b) (ha : a ≠ 110 ∧ a ≠ 118 ∧ a ≠ 33) : zPS h h4 := by
  obtain ⟨a1, a2, a3, a4, a5, a6⟩ := N
  obtain ⟨b1, b2, b3, b4, b5, b6⟩ := S
  obtain ⟨c1, c2, c3, c4, c5, c6⟩ := S2
  obtain ⟨d1, d2, d3, d4, d5⟩ := P
  rw [hc3, a3, hc] at d5
  rw [a3, hc] at c6
  rw [hc] at a5
  rw [a3, hc] at c4 c5
  rw [a1] at c4 c5
  rw [a5] at c5
  rw [hc3, a3, hc] at d2
  have hkk := b4.1
  have hkk2 := c4.1
  refine ⟨by omega, by omega, by omega, ?_, fun j hj => ?_, fun r k1 k2 k3 => (d5 r k1 k2 k3).trans ((c6 r k1 k2 k3).trans ((a6 r k1 k2).trans (b6 r k1 k2 k3)))⟩
  · rw [d1, show (fld h3 37 45 + 1).toNat = (fld h3 37 45).toNat + 1 by omega]
    have q1 : ∀ j, j < 2 * (fld h3 37 45).toNat → fld h3 (149 + fld h 37 47) j = fld h4 (149 + fld h 37 47) j := fun j hj => by rw [d2, if_neg (by omega), if_neg (by omega)]
    refine zsg_bin (m := (fld h1 37 45).toNat) (zsg_c b4 (fun j hj => ?_)) (zsg_c c4 q1) ?_
    · rw [← q1 j (by omega)]
      exact (c5 j hj).symm
    · rw [d2, if_neg (by omega), if_pos rfl]
      exact ha
  · rw [d2, if_neg (by omega), if_neg (by omega), c5 j (by omega), b5 j hj]
theorem zPS_not {b : Int} (hk : 0 ≤ fld h 37 45) (N : zNu h h1) (hl : fld h 37 42 < fld h1 37 42) (S2 : zPS h1 h2) (hc3 : fld h2 37 47 = fld h1 37 47) (P : zPu h2 h3 33 b) : zPS h h3 := by
  obtain ⟨a1, a2, a3, a4, a5, a6⟩ := N
  obtain ⟨c1, c2, c3, c4, c5, c6⟩ := S2
  obtain ⟨d1, d2, d3, d4, d5⟩ := P
  rw [hc3, a3] at d5
  rw [a3] at c6
  rw [a3] at c4 c5
  rw [a1] at c4 c5
  rw [a5] at c5
  rw [hc3, a3] at d2
  have hkk2 := c4.1
  refine ⟨by omega, by omega, by omega, ?_, fun j hj => ?_, fun r k1 k2 k3 => (d5 r k1 k2 k3).trans ((c6 r k1 k2 k3).trans (a6 r k1 k2))⟩
  · rw [d1, show (fld h2 37 45 + 1).toNat = (fld h2 37 45).toNat + 1 by omega]
    refine zsg_not (zsg_c c4 (fun j hj => ?_)) ?_
    · rw [d2, if_neg (by omega), if_neg (by omega)]
    · rw [d2, if_neg (by omega), if_pos rfl]
  · rw [d2, if_neg (by omega), if_neg (by omega), c5 j hj]
/-- what a part that stood keeps -/
theorem zPS.k (S : zPS h g) (R : zMR msP h g) : fld h 37 42 < fld g 37 42 ∧ fld g 37 45 - fld h 37 45 ≤ fld g 37 42 - fld h 37 42 ∧ fld g 37 44 = fld h 37 44 ∧ fld g 37 47 = fld h 37 47 ∧ fld g 37 41 = fld h 37 41 := ⟨S.1, S.2.1, S.2.2.1, R.f1 47 (by decide +kernel), R.f1 41 (by decide +kernel)⟩
theorem zMR.kp {ms : Zms} (R : zMR ms h g) (e : (zqN ms 37 37 41 42 && (zqN ms 37 37 45 46 && zqN ms 37 37 47 48)) = true) : fld g 37 41 = fld h 37 41 ∧ fld g 37 45 = fld h 37 45 ∧ fld g 37 47 = fld h 37 47 := by
  simp only [Bool.and_eq_true] at e
  exact ⟨R.f1 41 e.1, R.f1 45 e.2.1, R.f1 47 e.2.2⟩
end ZQ
end
section
/-! contracts of methods -/
-- WheelLandModel.factor(I)Z
theorem m285 {sc : List Int} (a : Int) (D0 : Nat) (pa : 0 ≤ a ∧ a ≤ 8) (HS : a < 8 → zPX sc D0 248 (a + 1)) : zPX sc (D0 + 20) 285 a := by
  intro h I hP pc pk
  have hP0 := hP
  unfold zP0 at hP0
  have bk := I.b (a1 := 37) (a2 := 37) (j1 := 45) (j2 := 46) (lo := 0) (hi := 400) (by decide +kernel) (r := 37) (j := 45) (by decide) (by decide) (by decide) (by decide)
  have bt := I.b (a1 := 37) (a2 := 37) (j1 := 41) (j2 := 42) (lo := 0) (hi := 400) (by decide +kernel) (r := 37) (j := 41) (by decide) (by decide) (by decide) (by decide)
  refine zwC_of (D := D0 + 19) 3 (by decide +kernel) rfl (ls := [(2, 37), (0, a), (9, 0)]) rfl ?_
  have R : zMR msP h h := zMR.rf _ _
  refine zwW_p [(1, 0, 2), (0, 40, 0)] (q := 3) (ls' := [(2, 37), (0, a), (9, 0)]) (st' := [(0, 40), (2, 37)]) (by decide +kernel) rfl ?_
  refine zwW_cm I (op := 60) (k' := 250) (n := 1) (kd := 13) (m := 97) (nx := 6) (r := 37) (tl := [(0, 40)]) (st' := []) (by decide +kernel) rfl (by decide +kernel) (Nat.ble_eq_true_of_le (by omega)) (m250 h I 40) ?_
  rintro x _ ⟨rfl, ⟨rfl, c1⟩ | ⟨rfl, c1⟩⟩
  · refine zwif_eq (q := 56) (nx := 9) (by decide +kernel) (fun c2 => ?_) (fun c2 => ?_)
    · exfalso; omega
    · refine zwW_p [(1, 0, 2), (1, 1, 0), (0, 8, 0)] (q := 13) (ls' := [(2, 37), (0, a), (9, 0)]) (st' := [(0, 8), (0, a), (2, 37)]) (by decide +kernel) rfl ?_
      refine zwic_ge (q := 20) (nx := 16) (by decide +kernel) (fun c3 => ?_) (fun c3 => ?_)
      · refine zwW_p [(0, 0, 0)] (q := 21) (ls' := [(2, 37), (0, a), (9, 0)]) (st' := [(0, 0), (2, 37)]) (by decide +kernel) rfl ?_
        refine zwW_cm I (op := 60) (k' := 247) (n := 1) (kd := 13) (m := 97) (nx := 24) (r := 37) (tl := [(0, 0)]) (st' := []) (by decide +kernel) rfl (by decide +kernel) (Nat.ble_eq_true_of_le (by omega)) (m247 h I 0 hP) ?_
        rintro x h4 ⟨Ih4, Qh4, ⟨rfl, f5, f6, f7, f8⟩ | ⟨rfl, f9, f10, f11⟩⟩
        · exfalso; omega
        · have Rh4 : zMR msP h h4 := R.tr Qh4 (by decide +kernel)
          have zf10 := f10; unfold zP0 at zf10
          refine zwif_eq (q := 54) (nx := 27) (by decide +kernel) (fun c12 => ?_) (fun c12 => ?_)
          · refine zwW_p [(0, 0, 0)] (q := 55) (ls' := [(2, 37), (0, a), (9, 0)]) (st' := [(0, 0)]) (by decide +kernel) rfl ?_
            refine zwW_ret (nx := 56) (a := 1) (b := 0) (by decide +kernel) rfl (Or.inr (Or.inl ⟨rfl, Or.inl rfl⟩)) ?_
            exact ⟨Ih4, Rh4, by exact f10, Or.inr ⟨rfl, by omega⟩⟩
          · exfalso; omega
      · refine zwW_p [(0, 1, 0), (24, 21, 0)] (q := 21) (ls' := [(2, 37), (0, a), (9, 0)]) (st' := [(0, 1), (2, 37)]) (by decide +kernel) rfl ?_
        refine zwW_cm I (op := 60) (k' := 247) (n := 1) (kd := 13) (m := 97) (nx := 24) (r := 37) (tl := [(0, 1)]) (st' := []) (by decide +kernel) rfl (by decide +kernel) (Nat.ble_eq_true_of_le (by omega)) (m247 h I 1 hP) ?_
        rintro x h13 ⟨Ih13, Qh13, ⟨rfl, f14, f15, f16, f17⟩ | ⟨rfl, f18, f19, f20⟩⟩
        · have Rh13 : zMR msP h h13 := R.tr Qh13 (by decide +kernel)
          have zf15 := f15; unfold zP0 at zf15
          have Kh13 := Qh13.kp (by decide +kernel)
          have N21 : zNu h h13 := zNu.mr I pc Qh13 (by decide +kernel) (by omega) (by omega)
          have hh21 := Qh13
          refine zwif_eq (q := 54) (nx := 27) (by decide +kernel) (fun c21 => ?_) (fun c21 => ?_)
          · exfalso; omega
          · refine zwW_p [(1, 0, 2), (1, 1, 0), (0, 1, 0)] (q := 30) (ls' := [(2, 37), (0, a), (9, 0)]) (st' := [(0, 1), (0, a), (2, 37)]) (by decide +kernel) rfl ?_
            refine zwW_add (nx := 31) (by decide +kernel) (by first | omega | exact ⟨by omega, by omega⟩) ?_
            refine zwW_cm Ih13 (op := 60) (k' := 248) (n := 1) (kd := 13) (m := 97) (nx := 34) (r := 37) (tl := [(0, (a + 1))]) (st' := []) (by decide +kernel) rfl (by decide +kernel) (Nat.ble_eq_true_of_le (by omega)) (HS (by omega) h13 Ih13 f15 (by omega) (by omega)) ?_
            rintro x h22 ⟨Ih22, Qh22, f23, ⟨rfl, f24⟩ | ⟨rfl, f25⟩⟩
            · have Rh22 : zMR msP h h22 := Rh13.tr Qh22 (by decide +kernel)
              have zf23 := f23; unfold zP0 at zf23
              have Sh22 := f24.k Qh22
              have W31 := f24
              refine zwif_eq (q := 54) (nx := 37) (by decide +kernel) (fun c26 => ?_) (fun c26 => ?_)
              · exfalso; omega
              · refine zwW_p [(1, 0, 2), (1, 0, 2), (0, 41, 0)] (q := 41) (ls' := [(2, 37), (0, a), (9, 0)]) (st' := [(0, 41), (2, 37), (2, 37)]) (by decide +kernel) rfl ?_
                refine zwW_cm Ih22 (op := 60) (k' := 250) (n := 1) (kd := 13) (m := 97) (nx := 44) (r := 37) (tl := [(0, 41)]) (st' := [(2, 37)]) (by decide +kernel) rfl (by decide +kernel) (Nat.ble_eq_true_of_le (by omega)) (m250 h22 Ih22 41) ?_
                rintro x _ ⟨rfl, ⟨rfl, c27⟩ | ⟨rfl, c27⟩⟩
                · refine zwW_cm Ih22 (op := 60) (k' := 247) (n := 1) (kd := 13) (m := 97) (nx := 47) (r := 37) (tl := [(0, 1)]) (st' := []) (by decide +kernel) rfl (by decide +kernel) (Nat.ble_eq_true_of_le (by omega)) (m247 h22 Ih22 1 f23) ?_
                  rintro x h28 ⟨Ih28, Qh28, ⟨rfl, f29, f30, f31, f32⟩ | ⟨rfl, f33, f34, f35⟩⟩
                  · have Rh28 : zMR msP h h28 := Rh22.tr Qh28 (by decide +kernel)
                    have zf30 := f30; unfold zP0 at zf30
                    have Kh28 := Qh28.kp (by decide +kernel)
                    have N44 : zNu h22 h28 := zNu.mr Ih22 (by omega) Qh28 (by decide +kernel) (by omega) (by omega)
                    have Z : zPS h h28 := (W31.pre N21).post (by omega) N44
                    refine zwif_eq (q := 54) (nx := 50) (by decide +kernel) (fun c36 => ?_) (fun c36 => ?_)
                    · exfalso; omega
                    · refine zwW_p [(0, 1, 0), (24, 55, 0)] (q := 55) (ls' := [(2, 37), (0, a), (9, 0)]) (st' := [(0, 1)]) (by decide +kernel) rfl ?_
                      refine zwW_ret (nx := 56) (a := 1) (b := 0) (by decide +kernel) rfl (Or.inr (Or.inl ⟨rfl, Or.inr rfl⟩)) ?_
                      exact ⟨Ih28, Rh28, by exact f30, Or.inl ⟨rfl, by exact Z⟩⟩
                  · exfalso; omega
                · refine zwW_cm Ih22 (op := 60) (k' := 247) (n := 1) (kd := 13) (m := 97) (nx := 47) (r := 37) (tl := [(0, 0)]) (st' := []) (by decide +kernel) rfl (by decide +kernel) (Nat.ble_eq_true_of_le (by omega)) (m247 h22 Ih22 0 f23) ?_
                  rintro x h37 ⟨Ih37, Qh37, ⟨rfl, f38, f39, f40, f41⟩ | ⟨rfl, f42, f43, f44⟩⟩
                  · exfalso; omega
                  · have Rh37 : zMR msP h h37 := Rh22.tr Qh37 (by decide +kernel)
                    have zf43 := f43; unfold zP0 at zf43
                    refine zwif_eq (q := 54) (nx := 50) (by decide +kernel) (fun c45 => ?_) (fun c45 => ?_)
                    · refine zwW_p [(0, 0, 0)] (q := 55) (ls' := [(2, 37), (0, a), (9, 0)]) (st' := [(0, 0)]) (by decide +kernel) rfl ?_
                      refine zwW_ret (nx := 56) (a := 1) (b := 0) (by decide +kernel) rfl (Or.inr (Or.inl ⟨rfl, Or.inl rfl⟩)) ?_
                      exact ⟨Ih37, Rh37, by exact f43, Or.inr ⟨rfl, by omega⟩⟩
                    · exfalso; omega
            · have Rh22 : zMR msP h h22 := Rh13.tr Qh22 (by decide +kernel)
              have zf23 := f23; unfold zP0 at zf23
              refine zwif_eq (q := 54) (nx := 37) (by decide +kernel) (fun c46 => ?_) (fun c46 => ?_)
              · refine zwW_p [(0, 0, 0)] (q := 55) (ls' := [(2, 37), (0, a), (9, 0)]) (st' := [(0, 0)]) (by decide +kernel) rfl ?_
                refine zwW_ret (nx := 56) (a := 1) (b := 0) (by decide +kernel) rfl (Or.inr (Or.inl ⟨rfl, Or.inl rfl⟩)) ?_
                exact ⟨Ih22, Rh22, by exact f23, Or.inr ⟨rfl, by omega⟩⟩
              · exfalso; omega
        · exfalso; omega
  · refine zwif_eq (q := 56) (nx := 9) (by decide +kernel) (fun c47 => ?_) (fun c47 => ?_)
    · refine zwW_p [(1, 0, 2)] (q := 57) (ls' := [(2, 37), (0, a), (9, 0)]) (st' := [(2, 37)]) (by decide +kernel) rfl ?_
      refine zwW_cm I (op := 60) (k' := 296) (n := 0) (kd := 13) (m := 97) (nx := 60) (r := 37) (tl := []) (st' := []) (by decide +kernel) rfl (by decide +kernel) (Nat.ble_eq_true_of_le (by omega)) (m296 h I hP) ?_
      rintro x h48 ⟨Ih48, Qh48, ⟨rfl, f49⟩ | rfl⟩
      · have Rh48 : zMR msP h h48 := R.tr Qh48 (by decide +kernel)
        have Ph48 := hP.mr Qh48 (by decide +kernel)
        have zPh48 := Ph48; unfold zP0 at zPh48
        have Kh48 := Qh48.kp (by decide +kernel)
        have N57 : zNu h h48 := zNu.mr I pc Qh48 (by decide +kernel) (Qh48.f1 44 (by decide +kernel)) (Int.le_of_eq (Qh48.f1 42 (by decide +kernel)).symm)
        have M57 := Qh48.f1 42 (by decide +kernel)
        refine zwif_eq (q := 103) (nx := 63) (by decide +kernel) (fun c50 => ?_) (fun c50 => ?_)
        · exfalso; omega
        · refine zwW_p [(1, 0, 2)] (q := 64) (ls' := [(2, 37), (0, a), (9, 0)]) (st' := [(2, 37)]) (by decide +kernel) rfl ?_
          refine zwW_gs Ih48 (kd := 13) (bn := 46) (n := 97) (t := 0) (lo := -2147483648) (hi := 2147483647) (nx := 67) (by decide +kernel) ?_
          intro v51 ev51 lv51 uv51
          refine zwW_p [(2, 2, 0), (1, 0, 2), (1, 2, 0), (0, 9999, 0)] (q := 73) (ls' := [(2, 37), (0, a), (0, v51)]) (st' := [(0, 9999), (0, v51), (2, 37)]) (by decide +kernel) rfl ?_
          refine zwic_gt (q := 80) (nx := 76) (by decide +kernel) (fun c52 => ?_) (fun c52 => ?_)
          · refine zwW_p [(0, 0, 0)] (q := 81) (ls' := [(2, 37), (0, a), (0, v51)]) (st' := [(0, 0), (2, 37)]) (by decide +kernel) rfl ?_
            refine zwW_cm Ih48 (op := 60) (k' := 247) (n := 1) (kd := 13) (m := 97) (nx := 84) (r := 37) (tl := [(0, 0)]) (st' := []) (by decide +kernel) rfl (by decide +kernel) (Nat.ble_eq_true_of_le (by omega)) (m247 h48 Ih48 0 Ph48) ?_
            rintro x h53 ⟨Ih53, Qh53, ⟨rfl, f54, f55, f56, f57⟩ | ⟨rfl, f58, f59, f60⟩⟩
            · exfalso; omega
            · have Rh53 : zMR msP h h53 := Rh48.tr Qh53 (by decide +kernel)
              have zf59 := f59; unfold zP0 at zf59
              refine zwif_eq (q := 101) (nx := 87) (by decide +kernel) (fun c61 => ?_) (fun c61 => ?_)
              · refine zwW_p [(0, 0, 0)] (q := 102) (ls' := [(2, 37), (0, a), (0, v51)]) (st' := [(0, 0)]) (by decide +kernel) rfl ?_
                refine zwW_ret (nx := 103) (a := 1) (b := 0) (by decide +kernel) rfl (Or.inr (Or.inl ⟨rfl, Or.inl rfl⟩)) ?_
                exact ⟨Ih53, Rh53, by exact f59, Or.inr ⟨rfl, by omega⟩⟩
              · exfalso; omega
          · refine zwW_p [(0, 1, 0), (24, 81, 0)] (q := 81) (ls' := [(2, 37), (0, a), (0, v51)]) (st' := [(0, 1), (2, 37)]) (by decide +kernel) rfl ?_
            refine zwW_cm Ih48 (op := 60) (k' := 247) (n := 1) (kd := 13) (m := 97) (nx := 84) (r := 37) (tl := [(0, 1)]) (st' := []) (by decide +kernel) rfl (by decide +kernel) (Nat.ble_eq_true_of_le (by omega)) (m247 h48 Ih48 1 Ph48) ?_
            rintro x h62 ⟨Ih62, Qh62, ⟨rfl, f63, f64, f65, f66⟩ | ⟨rfl, f67, f68, f69⟩⟩
            · have Rh62 : zMR msP h h62 := Rh48.tr Qh62 (by decide +kernel)
              have zf64 := f64; unfold zP0 at zf64
              have Kh62 := Qh62.kp (by decide +kernel)
              have N81 := N57.tr (zNu.mr Ih48 (by omega) Qh62 (by decide +kernel) (by omega) (by omega))
              refine zwif_eq (q := 101) (nx := 87) (by decide +kernel) (fun c70 => ?_) (fun c70 => ?_)
              · exfalso; omega
              · refine zwW_p [(1, 0, 2), (0, 110, 0), (1, 2, 0)] (q := 91) (ls' := [(2, 37), (0, a), (0, v51)]) (st' := [(0, v51), (0, 110), (2, 37)]) (by decide +kernel) rfl ?_
                refine zwW_cm Ih62 (op := 60) (k' := 270) (n := 2) (kd := 13) (m := 97) (nx := 94) (r := 37) (tl := [(0, 110), (0, v51)]) (st' := []) (by decide +kernel) rfl (by decide +kernel) (Nat.ble_eq_true_of_le (by omega)) (m270 h62 Ih62 110 v51 (by omega) (by omega) (by omega) (by omega)) ?_
                rintro x h74 ⟨Ih74, Qh74, rfl, f71, f72, f73⟩
                have Rh74 : zMR msP h h74 := Rh62.tr Qh74 (by decide +kernel)
                have Ph74 := f64.mr Qh74 (by decide +kernel)
                have zPh74 := Ph74; unfold zP0 at zPh74
                have Z : zPS h h74 := zPS_push (by omega) N81 (by omega) (zPu.of Qh74 f71 f72 f73) (by omega)
                refine zwif_eq (q := 101) (nx := 97) (by decide +kernel) (fun c75 => ?_) (fun c75 => ?_)
                · exfalso; omega
                · refine zwW_p [(0, 1, 0), (24, 102, 0)] (q := 102) (ls' := [(2, 37), (0, a), (0, v51)]) (st' := [(0, 1)]) (by decide +kernel) rfl ?_
                  refine zwW_ret (nx := 103) (a := 1) (b := 0) (by decide +kernel) rfl (Or.inr (Or.inl ⟨rfl, Or.inr rfl⟩)) ?_
                  exact ⟨Ih74, Rh74, by exact Ph74, Or.inl ⟨rfl, by exact Z⟩⟩
            · exfalso; omega
      · have Rh48 : zMR msP h h48 := R.tr Qh48 (by decide +kernel)
        have Ph48 := hP.mr Qh48 (by decide +kernel)
        have zPh48 := Ph48; unfold zP0 at zPh48
        have Kh48 := Qh48.kp (by decide +kernel)
        have N57 : zNu h h48 := zNu.mr I pc Qh48 (by decide +kernel) (Qh48.f1 44 (by decide +kernel)) (Int.le_of_eq (Qh48.f1 42 (by decide +kernel)).symm)
        have M57 := Qh48.f1 42 (by decide +kernel)
        refine zwif_eq (q := 103) (nx := 63) (by decide +kernel) (fun c76 => ?_) (fun c76 => ?_)
        · refine zwW_p [(0, 0, 0), (2, 2, 0)] (q := 105) (ls' := [(2, 37), (0, a), (0, 0)]) (st' := []) (by decide +kernel) rfl ?_
          have L77 : ∀ (n : Nat) (kL77 : Int), n = ((1000 - kL77)).toNat → (0 ≤ kL77 ∧ kL77 ≤ 13) → zwW sc (D0 + 19) 285 105 [(2, 37), (0, a), (0, kL77)] [] h48 (zwRt 0 (zPQ h)) := by
            intro n
            induction n using Nat.strongRecOn with
            | ind n IHL77 =>
              intro kL77 hnL77 iL77_0
              refine zwW_p [(1, 2, 0), (0, 13, 0)] (q := 108) (ls' := [(2, 37), (0, a), (0, kL77)]) (st' := [(0, 13), (0, kL77)]) (by decide +kernel) rfl ?_
              refine zwic_ge (q := 154) (nx := 111) (by decide +kernel) (fun c78 => ?_) (fun c78 => ?_)
              · refine zwW_p [(1, 0, 2)] (q := 155) (ls' := [(2, 37), (0, a), (0, kL77)]) (st' := [(2, 37)]) (by decide +kernel) rfl ?_
                refine zwW_cm Ih48 (op := 60) (k' := 267) (n := 0) (kd := 13) (m := 97) (nx := 158) (r := 37) (tl := []) (st' := []) (by decide +kernel) rfl (by decide +kernel) (Nat.ble_eq_true_of_le (by omega)) (m267 h48 Ih48) ?_
                rintro x h80 ⟨Ih80, Qh80, rfl, f79⟩
                have Rh80 : zMR msP h h80 := Rh48.tr Qh80 (by decide +kernel)
                have Ph80 := Ph48.mr Qh80 (by decide +kernel)
                have zPh80 := Ph80; unfold zP0 at zPh80
                refine zwW_ret (nx := 159) (a := 1) (b := 0) (by decide +kernel) rfl (Or.inr (Or.inl ⟨rfl, by omega⟩)) ?_
                exact ⟨Ih80, Rh80, by exact Ph80, Or.inr ⟨rfl, by omega⟩⟩
              · refine zwW_p [(1, 0, 2), (1, 0, 2)] (q := 113) (ls' := [(2, 37), (0, a), (0, kL77)]) (st' := [(2, 37), (2, 37)]) (by decide +kernel) rfl ?_
                refine zwW_gc Ih48 (kd := 13) (bn := 55) (n := 97) (c := 167) (nx := 116) (by decide +kernel) ?_
                refine zwW_p [(1, 2, 0)] (q := 117) (ls' := [(2, 37), (0, a), (0, kL77)]) (st' := [(0, kL77), (2, 167), (2, 37)]) (by decide +kernel) rfl ?_
                refine zwW_wd13 Ih48 (nx := 118) (by decide +kernel) (by first | omega | exact ⟨by omega, by omega⟩) ?_
                refine zwW_cm Ih48 (op := 60) (k' := 246) (n := 1) (kd := 13) (m := 97) (nx := 121) (r := 37) (tl := [(2, (-17 - kL77))]) (st' := []) (by decide +kernel) rfl (by decide +kernel) (Nat.ble_eq_true_of_le (by omega)) (m246 h48 Ih48 (-17 - kL77) (by omega) Ph48) ?_
                rintro x _ ⟨rfl, ⟨rfl, c81⟩ | ⟨rfl, c81⟩⟩
                · refine zwif_eq (q := 148) (nx := 124) (by decide +kernel) (fun c82 => ?_) (fun c82 => ?_)
                  · exfalso; omega
                  · refine zwW_p [(1, 0, 2), (0, 1, 0)] (q := 126) (ls' := [(2, 37), (0, a), (0, kL77)]) (st' := [(0, 1), (2, 37)]) (by decide +kernel) rfl ?_
                    refine zwW_cm Ih48 (op := 60) (k' := 247) (n := 1) (kd := 13) (m := 97) (nx := 129) (r := 37) (tl := [(0, 1)]) (st' := []) (by decide +kernel) rfl (by decide +kernel) (Nat.ble_eq_true_of_le (by omega)) (m247 h48 Ih48 1 Ph48) ?_
                    rintro x h83 ⟨Ih83, Qh83, ⟨rfl, f84, f85, f86, f87⟩ | ⟨rfl, f88, f89, f90⟩⟩
                    · have Rh83 : zMR msP h h83 := Rh48.tr Qh83 (by decide +kernel)
                      have zf85 := f85; unfold zP0 at zf85
                      have Kh83 := Qh83.kp (by decide +kernel)
                      have N126 : zNu h h83 := N57.tr (zNu.mr Ih48 (by omega) Qh83 (by decide +kernel) (by omega) (by omega))
                      refine zwif_eq (q := 146) (nx := 132) (by decide +kernel) (fun c91 => ?_) (fun c91 => ?_)
                      · exfalso; omega
                      · refine zwW_p [(1, 0, 2), (0, 118, 0), (1, 2, 0)] (q := 136) (ls' := [(2, 37), (0, a), (0, kL77)]) (st' := [(0, kL77), (0, 118), (2, 37)]) (by decide +kernel) rfl ?_
                        refine zwW_cm Ih83 (op := 60) (k' := 270) (n := 2) (kd := 13) (m := 97) (nx := 139) (r := 37) (tl := [(0, 118), (0, kL77)]) (st' := []) (by decide +kernel) rfl (by decide +kernel) (Nat.ble_eq_true_of_le (by omega)) (m270 h83 Ih83 118 kL77 (by omega) (by omega) (by omega) (by omega)) ?_
                        rintro x h95 ⟨Ih95, Qh95, rfl, f92, f93, f94⟩
                        have Rh95 : zMR msP h h95 := Rh83.tr Qh95 (by decide +kernel)
                        have Ph95 := f85.mr Qh95 (by decide +kernel)
                        have zPh95 := Ph95; unfold zP0 at zPh95
                        have Z : zPS h h95 := zPS_push (by omega) N126 (by omega) (zPu.of Qh95 f92 f93 f94) (by omega)
                        refine zwif_eq (q := 146) (nx := 142) (by decide +kernel) (fun c96 => ?_) (fun c96 => ?_)
                        · exfalso; omega
                        · refine zwW_p [(0, 1, 0), (24, 147, 0)] (q := 147) (ls' := [(2, 37), (0, a), (0, kL77)]) (st' := [(0, 1)]) (by decide +kernel) rfl ?_
                          refine zwW_ret (nx := 148) (a := 1) (b := 0) (by decide +kernel) rfl (Or.inr (Or.inl ⟨rfl, Or.inr rfl⟩)) ?_
                          exact ⟨Ih95, Rh95, by exact Ph95, Or.inl ⟨rfl, by exact Z⟩⟩
                    · exfalso; omega
                · refine zwif_eq (q := 148) (nx := 124) (by decide +kernel) (fun c97 => ?_) (fun c97 => ?_)
                  · refine zwW_inc (i := 2) (c := 1) (x := kL77) (nx := 151) (by decide +kernel) rfl (by first | omega | exact ⟨by omega, by omega⟩) (ls' := [(2, 37), (0, a), (0, (kL77 + 1))]) rfl ?_
                    refine zwW_p [(24, 105, 0)] (q := 105) (ls' := [(2, 37), (0, a), (0, (kL77 + 1))]) (st' := []) (by decide +kernel) rfl ?_
                    exact IHL77 ((1000 - (kL77 + 1))).toNat (by omega) (kL77 + 1) rfl (by omega)
                  · exfalso; omega
          exact L77 _ 0 rfl (by omega)
        · exfalso; omega
    · exfalso; omega
-- WheelLandModel.product(I)Z
theorem m269 {sc : List Int} (a : Int) (D0 : Nat) (pa : 0 ≤ a ∧ a ≤ 8) (HS : a < 8 → zPX sc D0 248 (a + 1)) : zPX sc (D0 + 21) 269 a := by
  intro h I hP pc pk
  have hP0 := hP
  unfold zP0 at hP0
  have bk := I.b (a1 := 37) (a2 := 37) (j1 := 45) (j2 := 46) (lo := 0) (hi := 400) (by decide +kernel) (r := 37) (j := 45) (by decide) (by decide) (by decide) (by decide)
  have bt := I.b (a1 := 37) (a2 := 37) (j1 := 41) (j2 := 42) (lo := 0) (hi := 400) (by decide +kernel) (r := 37) (j := 41) (by decide) (by decide) (by decide) (by decide)
  refine zwC_of (D := D0 + 20) 3 (by decide +kernel) rfl (ls := [(2, 37), (0, a), (9, 0)]) rfl ?_
  have R : zMR msP h h := zMR.rf _ _
  refine zwW_p [(1, 0, 2), (1, 1, 0)] (q := 2) (ls' := [(2, 37), (0, a), (9, 0)]) (st' := [(0, a), (2, 37)]) (by decide +kernel) rfl ?_
  refine zwW_cm I (op := 60) (k' := 285) (n := 1) (kd := 13) (m := 97) (nx := 5) (r := 37) (tl := [(0, a)]) (st' := []) (by decide +kernel) rfl (by decide +kernel) (Nat.ble_eq_true_of_le (by omega)) (m285 a D0 pa HS h I hP (by omega) (by omega)) ?_
  rintro x h1 ⟨Ih1, Qh1, f2, ⟨rfl, f3⟩ | ⟨rfl, f4⟩⟩
  · have Rh1 : zMR msP h h1 := R.tr Qh1 (by decide +kernel)
    have zf2 := f2; unfold zP0 at zf2
    have Sh1 := f3.k Qh1
    refine zwif_ne (q := 10) (nx := 8) (by decide +kernel) (fun c5 => ?_) (fun c5 => ?_)
    · have L6 : ∀ (n : Nat) (w2L6 : Vl) (hL6 : Hp), n = (fld hL6 37 41 - fld hL6 37 42).toNat → (zPS h hL6) → (zP0 hL6) → zI hL6 → zMR msP h hL6 → zwW sc (D0 + 20) 269 10 [(2, 37), (0, a), w2L6] [] hL6 (zwRt 0 (zPQ h)) := by
        intro n
        induction n using Nat.strongRecOn with
        | ind n IHL6 =>
          intro w2L6 hL6 hnL6 iL6_0 iL6_1 IhL6 RhL6
          have ShL6 := iL6_0.k RhL6
          have yhL6 := iL6_1; unfold zP0 at yhL6
          refine zwW_p [(1, 0, 2), (0, 42, 0)] (q := 13) (ls' := [(2, 37), (0, a), w2L6]) (st' := [(0, 42), (2, 37)]) (by decide +kernel) rfl ?_
          refine zwW_cm IhL6 (op := 60) (k' := 250) (n := 1) (kd := 13) (m := 97) (nx := 16) (r := 37) (tl := [(0, 42)]) (st' := []) (by decide +kernel) rfl (by decide +kernel) (Nat.ble_eq_true_of_le (by omega)) (m250 hL6 IhL6 42) ?_
          rintro x _ ⟨rfl, ⟨rfl, c7⟩ | ⟨rfl, c7⟩⟩
          · refine zwif_ne (q := 28) (nx := 19) (by decide +kernel) (fun c8 => ?_) (fun c8 => ?_)
            · refine zwW_p [(1, 0, 2)] (q := 29) (ls' := [(2, 37), (0, a), w2L6]) (st' := [(2, 37)]) (by decide +kernel) rfl ?_
              refine zwW_gc IhL6 (kd := 13) (bn := 40) (n := 97) (c := 98) (nx := 32) (by decide +kernel) ?_
              refine zwW_p [(1, 0, 2)] (q := 33) (ls' := [(2, 37), (0, a), w2L6]) (st' := [(2, 37), (2, 98)]) (by decide +kernel) rfl ?_
              refine zwW_gs IhL6 (kd := 13) (bn := 42) (n := 97) (t := 0) (lo := 0) (hi := 400) (nx := 36) (by decide +kernel) ?_
              intro v9 ev9 lv9 uv9
              have X36 : v9 = fld hL6 37 42 := by omega
              refine zwW_al IhL6 (a1 := 98) (a2 := 98) (kd := 21) (n := 400) (t := 0) (lo := -128) (hi := 127) (nx := 37) (by decide +kernel) (by first | decide | exact ⟨by decide, by decide⟩) (by first | omega | exact ⟨by omega, by omega⟩) ?_
              intro v10 ev10 lv10 uv10
              have G37 : v10 = fld hL6 98 (fld hL6 37 42).toNat := by rw [ev10, X36]
              refine zwW_p [(2, 2, 0), (1, 0, 2)] (q := 39) (ls' := [(2, 37), (0, a), (0, v10)]) (st' := [(2, 37)]) (by decide +kernel) rfl ?_
              refine zwW_cmv IhL6 (op := 60) (k' := 268) (n := 0) (kd := 13) (m := 97) (nx := 42) (r := 37) (tl := []) (st' := []) (by decide +kernel) rfl (by decide +kernel) (Nat.ble_eq_true_of_le (by omega)) (m268 hL6 IhL6 iL6_1) ?_
              rintro h13 ⟨Ih13, Qh13, f11, f12⟩
              have Rh13 : zMR msP h h13 := RhL6.tr Qh13 (by decide +kernel)
              have zf12 := f12; unfold zP0 at zf12
              have Kh13 := Qh13.kp (by decide +kernel)
              have N39 : zNu hL6 h13 := zNu.mr IhL6 (by omega) Qh13 (by decide +kernel) (Qh13.f1 44 (by decide +kernel)) (by omega)
              refine zwW_p [(1, 0, 2), (1, 1, 0)] (q := 44) (ls' := [(2, 37), (0, a), (0, v10)]) (st' := [(0, a), (2, 37)]) (by decide +kernel) rfl ?_
              refine zwW_cm Ih13 (op := 60) (k' := 285) (n := 1) (kd := 13) (m := 97) (nx := 47) (r := 37) (tl := [(0, a)]) (st' := []) (by decide +kernel) rfl (by decide +kernel) (Nat.ble_eq_true_of_le (by omega)) (m285 a D0 pa HS h13 Ih13 f12 (by omega) (by omega)) ?_
              rintro x h14 ⟨Ih14, Qh14, f15, ⟨rfl, f16⟩ | ⟨rfl, f17⟩⟩
              · have Rh14 : zMR msP h h14 := Rh13.tr Qh14 (by decide +kernel)
                have zf15 := f15; unfold zP0 at zf15
                have Sh14 := f16.k Qh14
                have W44 := f16
                refine zwif_ne (q := 52) (nx := 50) (by decide +kernel) (fun c18 => ?_) (fun c18 => ?_)
                · refine zwW_p [(1, 0, 2), (1, 2, 0), (0, 0, 0)] (q := 55) (ls' := [(2, 37), (0, a), (0, v10)]) (st' := [(0, 0), (0, v10), (2, 37)]) (by decide +kernel) rfl ?_
                  refine zwW_cm Ih14 (op := 60) (k' := 270) (n := 2) (kd := 13) (m := 97) (nx := 58) (r := 37) (tl := [(0, v10), (0, 0)]) (st' := []) (by decide +kernel) rfl (by decide +kernel) (Nat.ble_eq_true_of_le (by omega)) (m270 h14 Ih14 v10 0 (by omega) (by omega) (by omega) (by omega)) ?_
                  rintro x h22 ⟨Ih22, Qh22, rfl, f19, f20, f21⟩
                  have Rh22 : zMR msP h h22 := Rh14.tr Qh22 (by decide +kernel)
                  have Ph22 := f15.mr Qh22 (by decide +kernel)
                  have zPh22 := Ph22; unfold zP0 at zPh22
                  have Z55 : zPS h h22 := zPS_bin (by omega) (by omega) iL6_0 N39 (by omega) W44 (by omega) (zPu.of Qh22 f19 f20 f21) (by omega)
                  have Sh22 := Z55.k Rh22
                  have Th22 := Qh22.f1 42 (by decide +kernel)
                  refine zwW_p [(15, 0, 0), (24, 10, 0)] (q := 10) (ls' := [(2, 37), (0, a), (0, v10)]) (st' := []) (by decide +kernel) rfl ?_
                  exact IHL6 (fld h22 37 41 - fld h22 37 42).toNat (by omega) (0, v10) h22 rfl (Z55) (Ph22) Ih22 Rh22
                · exfalso; omega
              · have Rh14 : zMR msP h h14 := Rh13.tr Qh14 (by decide +kernel)
                have zf15 := f15; unfold zP0 at zf15
                refine zwif_ne (q := 52) (nx := 50) (by decide +kernel) (fun c23 => ?_) (fun c23 => ?_)
                · exfalso; omega
                · refine zwW_p [(0, 0, 0)] (q := 51) (ls' := [(2, 37), (0, a), (0, v10)]) (st' := [(0, 0)]) (by decide +kernel) rfl ?_
                  refine zwW_ret (nx := 52) (a := 1) (b := 0) (by decide +kernel) rfl (Or.inr (Or.inl ⟨rfl, Or.inl rfl⟩)) ?_
                  exact ⟨Ih14, Rh14, by exact f15, Or.inr ⟨rfl, by omega⟩⟩
            · exfalso; omega
          · refine zwif_ne (q := 28) (nx := 19) (by decide +kernel) (fun c24 => ?_) (fun c24 => ?_)
            · exfalso; omega
            · refine zwW_p [(1, 0, 2), (0, 47, 0)] (q := 22) (ls' := [(2, 37), (0, a), w2L6]) (st' := [(0, 47), (2, 37)]) (by decide +kernel) rfl ?_
              refine zwW_cm IhL6 (op := 60) (k' := 250) (n := 1) (kd := 13) (m := 97) (nx := 25) (r := 37) (tl := [(0, 47)]) (st' := []) (by decide +kernel) rfl (by decide +kernel) (Nat.ble_eq_true_of_le (by omega)) (m250 hL6 IhL6 47) ?_
              rintro x _ ⟨rfl, ⟨rfl, c25⟩ | ⟨rfl, c25⟩⟩
              · refine zwif_eq (q := 62) (nx := 28) (by decide +kernel) (fun c26 => ?_) (fun c26 => ?_)
                · exfalso; omega
                · refine zwW_p [(1, 0, 2)] (q := 29) (ls' := [(2, 37), (0, a), w2L6]) (st' := [(2, 37)]) (by decide +kernel) rfl ?_
                  refine zwW_gc IhL6 (kd := 13) (bn := 40) (n := 97) (c := 98) (nx := 32) (by decide +kernel) ?_
                  refine zwW_p [(1, 0, 2)] (q := 33) (ls' := [(2, 37), (0, a), w2L6]) (st' := [(2, 37), (2, 98)]) (by decide +kernel) rfl ?_
                  refine zwW_gs IhL6 (kd := 13) (bn := 42) (n := 97) (t := 0) (lo := 0) (hi := 400) (nx := 36) (by decide +kernel) ?_
                  intro v27 ev27 lv27 uv27
                  have X36 : v27 = fld hL6 37 42 := by omega
                  refine zwW_al IhL6 (a1 := 98) (a2 := 98) (kd := 21) (n := 400) (t := 0) (lo := -128) (hi := 127) (nx := 37) (by decide +kernel) (by first | decide | exact ⟨by decide, by decide⟩) (by first | omega | exact ⟨by omega, by omega⟩) ?_
                  intro v28 ev28 lv28 uv28
                  have G37 : v28 = fld hL6 98 (fld hL6 37 42).toNat := by rw [ev28, X36]
                  refine zwW_p [(2, 2, 0), (1, 0, 2)] (q := 39) (ls' := [(2, 37), (0, a), (0, v28)]) (st' := [(2, 37)]) (by decide +kernel) rfl ?_
                  refine zwW_cmv IhL6 (op := 60) (k' := 268) (n := 0) (kd := 13) (m := 97) (nx := 42) (r := 37) (tl := []) (st' := []) (by decide +kernel) rfl (by decide +kernel) (Nat.ble_eq_true_of_le (by omega)) (m268 hL6 IhL6 iL6_1) ?_
                  rintro h31 ⟨Ih31, Qh31, f29, f30⟩
                  have Rh31 : zMR msP h h31 := RhL6.tr Qh31 (by decide +kernel)
                  have zf30 := f30; unfold zP0 at zf30
                  have Kh31 := Qh31.kp (by decide +kernel)
                  have N39 : zNu hL6 h31 := zNu.mr IhL6 (by omega) Qh31 (by decide +kernel) (Qh31.f1 44 (by decide +kernel)) (by omega)
                  refine zwW_p [(1, 0, 2), (1, 1, 0)] (q := 44) (ls' := [(2, 37), (0, a), (0, v28)]) (st' := [(0, a), (2, 37)]) (by decide +kernel) rfl ?_
                  refine zwW_cm Ih31 (op := 60) (k' := 285) (n := 1) (kd := 13) (m := 97) (nx := 47) (r := 37) (tl := [(0, a)]) (st' := []) (by decide +kernel) rfl (by decide +kernel) (Nat.ble_eq_true_of_le (by omega)) (m285 a D0 pa HS h31 Ih31 f30 (by omega) (by omega)) ?_
                  rintro x h32 ⟨Ih32, Qh32, f33, ⟨rfl, f34⟩ | ⟨rfl, f35⟩⟩
                  · have Rh32 : zMR msP h h32 := Rh31.tr Qh32 (by decide +kernel)
                    have zf33 := f33; unfold zP0 at zf33
                    have Sh32 := f34.k Qh32
                    have W44 := f34
                    refine zwif_ne (q := 52) (nx := 50) (by decide +kernel) (fun c36 => ?_) (fun c36 => ?_)
                    · refine zwW_p [(1, 0, 2), (1, 2, 0), (0, 0, 0)] (q := 55) (ls' := [(2, 37), (0, a), (0, v28)]) (st' := [(0, 0), (0, v28), (2, 37)]) (by decide +kernel) rfl ?_
                      refine zwW_cm Ih32 (op := 60) (k' := 270) (n := 2) (kd := 13) (m := 97) (nx := 58) (r := 37) (tl := [(0, v28), (0, 0)]) (st' := []) (by decide +kernel) rfl (by decide +kernel) (Nat.ble_eq_true_of_le (by omega)) (m270 h32 Ih32 v28 0 (by omega) (by omega) (by omega) (by omega)) ?_
                      rintro x h40 ⟨Ih40, Qh40, rfl, f37, f38, f39⟩
                      have Rh40 : zMR msP h h40 := Rh32.tr Qh40 (by decide +kernel)
                      have Ph40 := f33.mr Qh40 (by decide +kernel)
                      have zPh40 := Ph40; unfold zP0 at zPh40
                      have Z55 : zPS h h40 := zPS_bin (by omega) (by omega) iL6_0 N39 (by omega) W44 (by omega) (zPu.of Qh40 f37 f38 f39) (by omega)
                      have Sh40 := Z55.k Rh40
                      have Th40 := Qh40.f1 42 (by decide +kernel)
                      refine zwW_p [(15, 0, 0), (24, 10, 0)] (q := 10) (ls' := [(2, 37), (0, a), (0, v28)]) (st' := []) (by decide +kernel) rfl ?_
                      exact IHL6 (fld h40 37 41 - fld h40 37 42).toNat (by omega) (0, v28) h40 rfl (Z55) (Ph40) Ih40 Rh40
                    · exfalso; omega
                  · have Rh32 : zMR msP h h32 := Rh31.tr Qh32 (by decide +kernel)
                    have zf33 := f33; unfold zP0 at zf33
                    refine zwif_ne (q := 52) (nx := 50) (by decide +kernel) (fun c41 => ?_) (fun c41 => ?_)
                    · exfalso; omega
                    · refine zwW_p [(0, 0, 0)] (q := 51) (ls' := [(2, 37), (0, a), (0, v28)]) (st' := [(0, 0)]) (by decide +kernel) rfl ?_
                      refine zwW_ret (nx := 52) (a := 1) (b := 0) (by decide +kernel) rfl (Or.inr (Or.inl ⟨rfl, Or.inl rfl⟩)) ?_
                      exact ⟨Ih32, Rh32, by exact f33, Or.inr ⟨rfl, by omega⟩⟩
              · refine zwif_eq (q := 62) (nx := 28) (by decide +kernel) (fun c42 => ?_) (fun c42 => ?_)
                · have Z := iL6_0
                  refine zwW_p [(0, 1, 0)] (q := 63) (ls' := [(2, 37), (0, a), w2L6]) (st' := [(0, 1)]) (by decide +kernel) rfl ?_
                  refine zwW_ret (nx := 64) (a := 1) (b := 0) (by decide +kernel) rfl (Or.inr (Or.inl ⟨rfl, Or.inr rfl⟩)) ?_
                  exact ⟨IhL6, RhL6, by exact iL6_1, Or.inl ⟨rfl, by exact Z⟩⟩
                · exfalso; omega
      exact L6 _ (9, 0) h1 rfl (f3) (f2) Ih1 Rh1
    · exfalso; omega
  · have Rh1 : zMR msP h h1 := R.tr Qh1 (by decide +kernel)
    have zf2 := f2; unfold zP0 at zf2
    refine zwif_ne (q := 10) (nx := 8) (by decide +kernel) (fun c43 => ?_) (fun c43 => ?_)
    · exfalso; omega
    · refine zwW_p [(0, 0, 0)] (q := 9) (ls' := [(2, 37), (0, a), (9, 0)]) (st' := [(0, 0)]) (by decide +kernel) rfl ?_
      refine zwW_ret (nx := 10) (a := 1) (b := 0) (by decide +kernel) rfl (Or.inr (Or.inl ⟨rfl, Or.inl rfl⟩)) ?_
      exact ⟨Ih1, Rh1, by exact f2, Or.inr ⟨rfl, by omega⟩⟩
-- WheelLandModel.sum(I)Z
theorem m248 {sc : List Int} (a : Int) (D0 : Nat) (pa : 0 ≤ a ∧ a ≤ 8) (HS : a < 8 → zPX sc D0 248 (a + 1)) : zPX sc (D0 + 22) 248 a := by
  intro h I hP pc pk
  have hP0 := hP
  unfold zP0 at hP0
  have bk := I.b (a1 := 37) (a2 := 37) (j1 := 45) (j2 := 46) (lo := 0) (hi := 400) (by decide +kernel) (r := 37) (j := 45) (by decide) (by decide) (by decide) (by decide)
  have bt := I.b (a1 := 37) (a2 := 37) (j1 := 41) (j2 := 42) (lo := 0) (hi := 400) (by decide +kernel) (r := 37) (j := 41) (by decide) (by decide) (by decide) (by decide)
  refine zwC_of (D := D0 + 21) 3 (by decide +kernel) rfl (ls := [(2, 37), (0, a), (9, 0)]) rfl ?_
  have R : zMR msP h h := zMR.rf _ _
  refine zwW_p [(1, 0, 2), (1, 1, 0)] (q := 2) (ls' := [(2, 37), (0, a), (9, 0)]) (st' := [(0, a), (2, 37)]) (by decide +kernel) rfl ?_
  refine zwW_cm I (op := 60) (k' := 269) (n := 1) (kd := 13) (m := 97) (nx := 5) (r := 37) (tl := [(0, a)]) (st' := []) (by decide +kernel) rfl (by decide +kernel) (Nat.ble_eq_true_of_le (by omega)) (m269 a D0 pa HS h I hP (by omega) (by omega)) ?_
  rintro x h1 ⟨Ih1, Qh1, f2, ⟨rfl, f3⟩ | ⟨rfl, f4⟩⟩
  · have Rh1 : zMR msP h h1 := R.tr Qh1 (by decide +kernel)
    have zf2 := f2; unfold zP0 at zf2
    have Sh1 := f3.k Qh1
    refine zwif_ne (q := 10) (nx := 8) (by decide +kernel) (fun c5 => ?_) (fun c5 => ?_)
    · have L6 : ∀ (n : Nat) (w2L6 : Vl) (hL6 : Hp), n = (fld hL6 37 41 - fld hL6 37 42).toNat → (zPS h hL6) → (zP0 hL6) → zI hL6 → zMR msP h hL6 → zwW sc (D0 + 21) 248 10 [(2, 37), (0, a), w2L6] [] hL6 (zwRt 0 (zPQ h)) := by
        intro n
        induction n using Nat.strongRecOn with
        | ind n IHL6 =>
          intro w2L6 hL6 hnL6 iL6_0 iL6_1 IhL6 RhL6
          have ShL6 := iL6_0.k RhL6
          have yhL6 := iL6_1; unfold zP0 at yhL6
          refine zwW_p [(1, 0, 2), (0, 43, 0)] (q := 13) (ls' := [(2, 37), (0, a), w2L6]) (st' := [(0, 43), (2, 37)]) (by decide +kernel) rfl ?_
          refine zwW_cm IhL6 (op := 60) (k' := 250) (n := 1) (kd := 13) (m := 97) (nx := 16) (r := 37) (tl := [(0, 43)]) (st' := []) (by decide +kernel) rfl (by decide +kernel) (Nat.ble_eq_true_of_le (by omega)) (m250 hL6 IhL6 43) ?_
          rintro x _ ⟨rfl, ⟨rfl, c7⟩ | ⟨rfl, c7⟩⟩
          · refine zwif_ne (q := 28) (nx := 19) (by decide +kernel) (fun c8 => ?_) (fun c8 => ?_)
            · refine zwW_p [(1, 0, 2)] (q := 29) (ls' := [(2, 37), (0, a), w2L6]) (st' := [(2, 37)]) (by decide +kernel) rfl ?_
              refine zwW_gc IhL6 (kd := 13) (bn := 40) (n := 97) (c := 98) (nx := 32) (by decide +kernel) ?_
              refine zwW_p [(1, 0, 2)] (q := 33) (ls' := [(2, 37), (0, a), w2L6]) (st' := [(2, 37), (2, 98)]) (by decide +kernel) rfl ?_
              refine zwW_gs IhL6 (kd := 13) (bn := 42) (n := 97) (t := 0) (lo := 0) (hi := 400) (nx := 36) (by decide +kernel) ?_
              intro v9 ev9 lv9 uv9
              have X36 : v9 = fld hL6 37 42 := by omega
              refine zwW_al IhL6 (a1 := 98) (a2 := 98) (kd := 21) (n := 400) (t := 0) (lo := -128) (hi := 127) (nx := 37) (by decide +kernel) (by first | decide | exact ⟨by decide, by decide⟩) (by first | omega | exact ⟨by omega, by omega⟩) ?_
              intro v10 ev10 lv10 uv10
              have G37 : v10 = fld hL6 98 (fld hL6 37 42).toNat := by rw [ev10, X36]
              refine zwW_p [(2, 2, 0), (1, 0, 2)] (q := 39) (ls' := [(2, 37), (0, a), (0, v10)]) (st' := [(2, 37)]) (by decide +kernel) rfl ?_
              refine zwW_cmv IhL6 (op := 60) (k' := 268) (n := 0) (kd := 13) (m := 97) (nx := 42) (r := 37) (tl := []) (st' := []) (by decide +kernel) rfl (by decide +kernel) (Nat.ble_eq_true_of_le (by omega)) (m268 hL6 IhL6 iL6_1) ?_
              rintro h13 ⟨Ih13, Qh13, f11, f12⟩
              have Rh13 : zMR msP h h13 := RhL6.tr Qh13 (by decide +kernel)
              have zf12 := f12; unfold zP0 at zf12
              have Kh13 := Qh13.kp (by decide +kernel)
              have N39 : zNu hL6 h13 := zNu.mr IhL6 (by omega) Qh13 (by decide +kernel) (Qh13.f1 44 (by decide +kernel)) (by omega)
              refine zwW_p [(1, 0, 2), (1, 1, 0)] (q := 44) (ls' := [(2, 37), (0, a), (0, v10)]) (st' := [(0, a), (2, 37)]) (by decide +kernel) rfl ?_
              refine zwW_cm Ih13 (op := 60) (k' := 269) (n := 1) (kd := 13) (m := 97) (nx := 47) (r := 37) (tl := [(0, a)]) (st' := []) (by decide +kernel) rfl (by decide +kernel) (Nat.ble_eq_true_of_le (by omega)) (m269 a D0 pa HS h13 Ih13 f12 (by omega) (by omega)) ?_
              rintro x h14 ⟨Ih14, Qh14, f15, ⟨rfl, f16⟩ | ⟨rfl, f17⟩⟩
              · have Rh14 : zMR msP h h14 := Rh13.tr Qh14 (by decide +kernel)
                have zf15 := f15; unfold zP0 at zf15
                have Sh14 := f16.k Qh14
                have W44 := f16
                refine zwif_ne (q := 52) (nx := 50) (by decide +kernel) (fun c18 => ?_) (fun c18 => ?_)
                · refine zwW_p [(1, 0, 2), (1, 2, 0), (0, 0, 0)] (q := 55) (ls' := [(2, 37), (0, a), (0, v10)]) (st' := [(0, 0), (0, v10), (2, 37)]) (by decide +kernel) rfl ?_
                  refine zwW_cm Ih14 (op := 60) (k' := 270) (n := 2) (kd := 13) (m := 97) (nx := 58) (r := 37) (tl := [(0, v10), (0, 0)]) (st' := []) (by decide +kernel) rfl (by decide +kernel) (Nat.ble_eq_true_of_le (by omega)) (m270 h14 Ih14 v10 0 (by omega) (by omega) (by omega) (by omega)) ?_
                  rintro x h22 ⟨Ih22, Qh22, rfl, f19, f20, f21⟩
                  have Rh22 : zMR msP h h22 := Rh14.tr Qh22 (by decide +kernel)
                  have Ph22 := f15.mr Qh22 (by decide +kernel)
                  have zPh22 := Ph22; unfold zP0 at zPh22
                  have Z55 : zPS h h22 := zPS_bin (by omega) (by omega) iL6_0 N39 (by omega) W44 (by omega) (zPu.of Qh22 f19 f20 f21) (by omega)
                  have Sh22 := Z55.k Rh22
                  have Th22 := Qh22.f1 42 (by decide +kernel)
                  refine zwW_p [(15, 0, 0), (24, 10, 0)] (q := 10) (ls' := [(2, 37), (0, a), (0, v10)]) (st' := []) (by decide +kernel) rfl ?_
                  exact IHL6 (fld h22 37 41 - fld h22 37 42).toNat (by omega) (0, v10) h22 rfl (Z55) (Ph22) Ih22 Rh22
                · exfalso; omega
              · have Rh14 : zMR msP h h14 := Rh13.tr Qh14 (by decide +kernel)
                have zf15 := f15; unfold zP0 at zf15
                refine zwif_ne (q := 52) (nx := 50) (by decide +kernel) (fun c23 => ?_) (fun c23 => ?_)
                · exfalso; omega
                · refine zwW_p [(0, 0, 0)] (q := 51) (ls' := [(2, 37), (0, a), (0, v10)]) (st' := [(0, 0)]) (by decide +kernel) rfl ?_
                  refine zwW_ret (nx := 52) (a := 1) (b := 0) (by decide +kernel) rfl (Or.inr (Or.inl ⟨rfl, Or.inl rfl⟩)) ?_
                  exact ⟨Ih14, Rh14, by exact f15, Or.inr ⟨rfl, by omega⟩⟩
            · exfalso; omega
          · refine zwif_ne (q := 28) (nx := 19) (by decide +kernel) (fun c24 => ?_) (fun c24 => ?_)
            · exfalso; omega
            · refine zwW_p [(1, 0, 2), (0, 45, 0)] (q := 22) (ls' := [(2, 37), (0, a), w2L6]) (st' := [(0, 45), (2, 37)]) (by decide +kernel) rfl ?_
              refine zwW_cm IhL6 (op := 60) (k' := 250) (n := 1) (kd := 13) (m := 97) (nx := 25) (r := 37) (tl := [(0, 45)]) (st' := []) (by decide +kernel) rfl (by decide +kernel) (Nat.ble_eq_true_of_le (by omega)) (m250 hL6 IhL6 45) ?_
              rintro x _ ⟨rfl, ⟨rfl, c25⟩ | ⟨rfl, c25⟩⟩
              · refine zwif_eq (q := 62) (nx := 28) (by decide +kernel) (fun c26 => ?_) (fun c26 => ?_)
                · exfalso; omega
                · refine zwW_p [(1, 0, 2)] (q := 29) (ls' := [(2, 37), (0, a), w2L6]) (st' := [(2, 37)]) (by decide +kernel) rfl ?_
                  refine zwW_gc IhL6 (kd := 13) (bn := 40) (n := 97) (c := 98) (nx := 32) (by decide +kernel) ?_
                  refine zwW_p [(1, 0, 2)] (q := 33) (ls' := [(2, 37), (0, a), w2L6]) (st' := [(2, 37), (2, 98)]) (by decide +kernel) rfl ?_
                  refine zwW_gs IhL6 (kd := 13) (bn := 42) (n := 97) (t := 0) (lo := 0) (hi := 400) (nx := 36) (by decide +kernel) ?_
                  intro v27 ev27 lv27 uv27
                  have X36 : v27 = fld hL6 37 42 := by omega
                  refine zwW_al IhL6 (a1 := 98) (a2 := 98) (kd := 21) (n := 400) (t := 0) (lo := -128) (hi := 127) (nx := 37) (by decide +kernel) (by first | decide | exact ⟨by decide, by decide⟩) (by first | omega | exact ⟨by omega, by omega⟩) ?_
                  intro v28 ev28 lv28 uv28
                  have G37 : v28 = fld hL6 98 (fld hL6 37 42).toNat := by rw [ev28, X36]
                  refine zwW_p [(2, 2, 0), (1, 0, 2)] (q := 39) (ls' := [(2, 37), (0, a), (0, v28)]) (st' := [(2, 37)]) (by decide +kernel) rfl ?_
                  refine zwW_cmv IhL6 (op := 60) (k' := 268) (n := 0) (kd := 13) (m := 97) (nx := 42) (r := 37) (tl := []) (st' := []) (by decide +kernel) rfl (by decide +kernel) (Nat.ble_eq_true_of_le (by omega)) (m268 hL6 IhL6 iL6_1) ?_
                  rintro h31 ⟨Ih31, Qh31, f29, f30⟩
                  have Rh31 : zMR msP h h31 := RhL6.tr Qh31 (by decide +kernel)
                  have zf30 := f30; unfold zP0 at zf30
                  have Kh31 := Qh31.kp (by decide +kernel)
                  have N39 : zNu hL6 h31 := zNu.mr IhL6 (by omega) Qh31 (by decide +kernel) (Qh31.f1 44 (by decide +kernel)) (by omega)
                  refine zwW_p [(1, 0, 2), (1, 1, 0)] (q := 44) (ls' := [(2, 37), (0, a), (0, v28)]) (st' := [(0, a), (2, 37)]) (by decide +kernel) rfl ?_
                  refine zwW_cm Ih31 (op := 60) (k' := 269) (n := 1) (kd := 13) (m := 97) (nx := 47) (r := 37) (tl := [(0, a)]) (st' := []) (by decide +kernel) rfl (by decide +kernel) (Nat.ble_eq_true_of_le (by omega)) (m269 a D0 pa HS h31 Ih31 f30 (by omega) (by omega)) ?_
                  rintro x h32 ⟨Ih32, Qh32, f33, ⟨rfl, f34⟩ | ⟨rfl, f35⟩⟩
                  · have Rh32 : zMR msP h h32 := Rh31.tr Qh32 (by decide +kernel)
                    have zf33 := f33; unfold zP0 at zf33
                    have Sh32 := f34.k Qh32
                    have W44 := f34
                    refine zwif_ne (q := 52) (nx := 50) (by decide +kernel) (fun c36 => ?_) (fun c36 => ?_)
                    · refine zwW_p [(1, 0, 2), (1, 2, 0), (0, 0, 0)] (q := 55) (ls' := [(2, 37), (0, a), (0, v28)]) (st' := [(0, 0), (0, v28), (2, 37)]) (by decide +kernel) rfl ?_
                      refine zwW_cm Ih32 (op := 60) (k' := 270) (n := 2) (kd := 13) (m := 97) (nx := 58) (r := 37) (tl := [(0, v28), (0, 0)]) (st' := []) (by decide +kernel) rfl (by decide +kernel) (Nat.ble_eq_true_of_le (by omega)) (m270 h32 Ih32 v28 0 (by omega) (by omega) (by omega) (by omega)) ?_
                      rintro x h40 ⟨Ih40, Qh40, rfl, f37, f38, f39⟩
                      have Rh40 : zMR msP h h40 := Rh32.tr Qh40 (by decide +kernel)
                      have Ph40 := f33.mr Qh40 (by decide +kernel)
                      have zPh40 := Ph40; unfold zP0 at zPh40
                      have Z55 : zPS h h40 := zPS_bin (by omega) (by omega) iL6_0 N39 (by omega) W44 (by omega) (zPu.of Qh40 f37 f38 f39) (by omega)
                      have Sh40 := Z55.k Rh40
                      have Th40 := Qh40.f1 42 (by decide +kernel)
                      refine zwW_p [(15, 0, 0), (24, 10, 0)] (q := 10) (ls' := [(2, 37), (0, a), (0, v28)]) (st' := []) (by decide +kernel) rfl ?_
                      exact IHL6 (fld h40 37 41 - fld h40 37 42).toNat (by omega) (0, v28) h40 rfl (Z55) (Ph40) Ih40 Rh40
                    · exfalso; omega
                  · have Rh32 : zMR msP h h32 := Rh31.tr Qh32 (by decide +kernel)
                    have zf33 := f33; unfold zP0 at zf33
                    refine zwif_ne (q := 52) (nx := 50) (by decide +kernel) (fun c41 => ?_) (fun c41 => ?_)
                    · exfalso; omega
                    · refine zwW_p [(0, 0, 0)] (q := 51) (ls' := [(2, 37), (0, a), (0, v28)]) (st' := [(0, 0)]) (by decide +kernel) rfl ?_
                      refine zwW_ret (nx := 52) (a := 1) (b := 0) (by decide +kernel) rfl (Or.inr (Or.inl ⟨rfl, Or.inl rfl⟩)) ?_
                      exact ⟨Ih32, Rh32, by exact f33, Or.inr ⟨rfl, by omega⟩⟩
              · refine zwif_eq (q := 62) (nx := 28) (by decide +kernel) (fun c42 => ?_) (fun c42 => ?_)
                · have Z := iL6_0
                  refine zwW_p [(0, 1, 0)] (q := 63) (ls' := [(2, 37), (0, a), w2L6]) (st' := [(0, 1)]) (by decide +kernel) rfl ?_
                  refine zwW_ret (nx := 64) (a := 1) (b := 0) (by decide +kernel) rfl (Or.inr (Or.inl ⟨rfl, Or.inr rfl⟩)) ?_
                  exact ⟨IhL6, RhL6, by exact iL6_1, Or.inl ⟨rfl, by exact Z⟩⟩
                · exfalso; omega
      exact L6 _ (9, 0) h1 rfl (f3) (f2) Ih1 Rh1
    · exfalso; omega
  · have Rh1 : zMR msP h h1 := R.tr Qh1 (by decide +kernel)
    have zf2 := f2; unfold zP0 at zf2
    refine zwif_ne (q := 10) (nx := 8) (by decide +kernel) (fun c43 => ?_) (fun c43 => ?_)
    · exfalso; omega
    · refine zwW_p [(0, 0, 0)] (q := 9) (ls' := [(2, 37), (0, a), (9, 0)]) (st' := [(0, 0)]) (by decide +kernel) rfl ?_
      refine zwW_ret (nx := 10) (a := 1) (b := 0) (by decide +kernel) rfl (Or.inr (Or.inl ⟨rfl, Or.inl rfl⟩)) ?_
      exact ⟨Ih1, Rh1, by exact f2, Or.inr ⟨rfl, by omega⟩⟩
-- WheelLandModel.test(I)Z
theorem m286 {sc : List Int} (a : Int) (D0 : Nat) (pa : 0 ≤ a ∧ a ≤ 8) (HS : a < 8 → zPX sc D0 248 (a + 1)) (HT : a < 8 → zPX sc D0 286 (a + 1)) (HE : a < 8 → zPX sc D0 249 (a + 1)) : zPX sc (D0 + 23) 286 a := by
  intro h I hP pc pk
  have hP0 := hP
  unfold zP0 at hP0
  have bk := I.b (a1 := 37) (a2 := 37) (j1 := 45) (j2 := 46) (lo := 0) (hi := 400) (by decide +kernel) (r := 37) (j := 45) (by decide) (by decide) (by decide) (by decide)
  have bt := I.b (a1 := 37) (a2 := 37) (j1 := 41) (j2 := 42) (lo := 0) (hi := 400) (by decide +kernel) (r := 37) (j := 41) (by decide) (by decide) (by decide) (by decide)
  refine zwC_of (D := D0 + 22) 3 (by decide +kernel) rfl (ls := [(2, 37), (0, a), (9, 0)]) rfl ?_
  have R : zMR msP h h := zMR.rf _ _
  refine zwW_p [(1, 0, 2), (0, -30, 2)] (q := 4) (ls' := [(2, 37), (0, a), (9, 0)]) (st' := [(2, -30), (2, 37)]) (by decide +kernel) rfl ?_
  refine zwW_cm I (op := 60) (k' := 246) (n := 1) (kd := 13) (m := 97) (nx := 7) (r := 37) (tl := [(2, -30)]) (st' := []) (by decide +kernel) rfl (by decide +kernel) (Nat.ble_eq_true_of_le (by omega)) (m246 h I (-30) (by omega) hP) ?_
  rintro x _ ⟨rfl, ⟨rfl, c1⟩ | ⟨rfl, c1⟩⟩
  · refine zwif_eq (q := 54) (nx := 10) (by decide +kernel) (fun c2 => ?_) (fun c2 => ?_)
    · exfalso; omega
    · refine zwW_p [(1, 0, 2), (1, 1, 0), (0, 8, 0)] (q := 14) (ls' := [(2, 37), (0, a), (9, 0)]) (st' := [(0, 8), (0, a), (2, 37)]) (by decide +kernel) rfl ?_
      refine zwic_ge (q := 21) (nx := 17) (by decide +kernel) (fun c3 => ?_) (fun c3 => ?_)
      · refine zwW_p [(0, 0, 0)] (q := 22) (ls' := [(2, 37), (0, a), (9, 0)]) (st' := [(0, 0), (2, 37)]) (by decide +kernel) rfl ?_
        refine zwW_cm I (op := 60) (k' := 247) (n := 1) (kd := 13) (m := 97) (nx := 25) (r := 37) (tl := [(0, 0)]) (st' := []) (by decide +kernel) rfl (by decide +kernel) (Nat.ble_eq_true_of_le (by omega)) (m247 h I 0 hP) ?_
        rintro x h4 ⟨Ih4, Qh4, ⟨rfl, f5, f6, f7, f8⟩ | ⟨rfl, f9, f10, f11⟩⟩
        · exfalso; omega
        · have Rh4 : zMR msP h h4 := R.tr Qh4 (by decide +kernel)
          have zf10 := f10; unfold zP0 at zf10
          refine zwif_eq (q := 52) (nx := 28) (by decide +kernel) (fun c12 => ?_) (fun c12 => ?_)
          · refine zwW_p [(0, 0, 0)] (q := 53) (ls' := [(2, 37), (0, a), (9, 0)]) (st' := [(0, 0)]) (by decide +kernel) rfl ?_
            refine zwW_ret (nx := 54) (a := 1) (b := 0) (by decide +kernel) rfl (Or.inr (Or.inl ⟨rfl, Or.inl rfl⟩)) ?_
            exact ⟨Ih4, Rh4, by exact f10, Or.inr ⟨rfl, by omega⟩⟩
          · exfalso; omega
      · refine zwW_p [(0, 1, 0), (24, 22, 0)] (q := 22) (ls' := [(2, 37), (0, a), (9, 0)]) (st' := [(0, 1), (2, 37)]) (by decide +kernel) rfl ?_
        refine zwW_cm I (op := 60) (k' := 247) (n := 1) (kd := 13) (m := 97) (nx := 25) (r := 37) (tl := [(0, 1)]) (st' := []) (by decide +kernel) rfl (by decide +kernel) (Nat.ble_eq_true_of_le (by omega)) (m247 h I 1 hP) ?_
        rintro x h13 ⟨Ih13, Qh13, ⟨rfl, f14, f15, f16, f17⟩ | ⟨rfl, f18, f19, f20⟩⟩
        · have Rh13 : zMR msP h h13 := R.tr Qh13 (by decide +kernel)
          have zf15 := f15; unfold zP0 at zf15
          have Kh13 := Qh13.kp (by decide +kernel)
          have N22 : zNu h h13 := zNu.mr I pc Qh13 (by decide +kernel) (by omega) (by omega)
          refine zwif_eq (q := 52) (nx := 28) (by decide +kernel) (fun c21 => ?_) (fun c21 => ?_)
          · exfalso; omega
          · refine zwW_p [(1, 0, 2), (1, 1, 0), (0, 1, 0)] (q := 31) (ls' := [(2, 37), (0, a), (9, 0)]) (st' := [(0, 1), (0, a), (2, 37)]) (by decide +kernel) rfl ?_
            refine zwW_add (nx := 32) (by decide +kernel) (by first | omega | exact ⟨by omega, by omega⟩) ?_
            refine zwW_cm Ih13 (op := 60) (k' := 286) (n := 1) (kd := 13) (m := 97) (nx := 35) (r := 37) (tl := [(0, (a + 1))]) (st' := []) (by decide +kernel) rfl (by decide +kernel) (Nat.ble_eq_true_of_le (by omega)) (HT (by omega) h13 Ih13 f15 (by omega) (by omega)) ?_
            rintro x h22 ⟨Ih22, Qh22, f23, ⟨rfl, f24⟩ | ⟨rfl, f25⟩⟩
            · have Rh22 : zMR msP h h22 := Rh13.tr Qh22 (by decide +kernel)
              have zf23 := f23; unfold zP0 at zf23
              have Sh22 := f24.k Qh22
              have W32 := f24
              refine zwif_eq (q := 52) (nx := 38) (by decide +kernel) (fun c26 => ?_) (fun c26 => ?_)
              · exfalso; omega
              · refine zwW_p [(1, 0, 2), (0, 33, 0), (0, 0, 0)] (q := 42) (ls' := [(2, 37), (0, a), (9, 0)]) (st' := [(0, 0), (0, 33), (2, 37)]) (by decide +kernel) rfl ?_
                refine zwW_cm Ih22 (op := 60) (k' := 270) (n := 2) (kd := 13) (m := 97) (nx := 45) (r := 37) (tl := [(0, 33), (0, 0)]) (st' := []) (by decide +kernel) rfl (by decide +kernel) (Nat.ble_eq_true_of_le (by omega)) (m270 h22 Ih22 33 0 (by omega) (by omega) (by omega) (by omega)) ?_
                rintro x h30 ⟨Ih30, Qh30, rfl, f27, f28, f29⟩
                have Rh30 : zMR msP h h30 := Rh22.tr Qh30 (by decide +kernel)
                have Ph30 := f23.mr Qh30 (by decide +kernel)
                have zPh30 := Ph30; unfold zP0 at zPh30
                have Z : zPS h h30 := zPS_not (by omega) N22 (by omega) W32 (by omega) (zPu.of Qh30 f27 f28 f29)
                refine zwif_eq (q := 52) (nx := 48) (by decide +kernel) (fun c31 => ?_) (fun c31 => ?_)
                · exfalso; omega
                · refine zwW_p [(0, 1, 0), (24, 53, 0)] (q := 53) (ls' := [(2, 37), (0, a), (9, 0)]) (st' := [(0, 1)]) (by decide +kernel) rfl ?_
                  refine zwW_ret (nx := 54) (a := 1) (b := 0) (by decide +kernel) rfl (Or.inr (Or.inl ⟨rfl, Or.inr rfl⟩)) ?_
                  exact ⟨Ih30, Rh30, by exact Ph30, Or.inl ⟨rfl, by exact Z⟩⟩
            · have Rh22 : zMR msP h h22 := Rh13.tr Qh22 (by decide +kernel)
              have zf23 := f23; unfold zP0 at zf23
              refine zwif_eq (q := 52) (nx := 38) (by decide +kernel) (fun c32 => ?_) (fun c32 => ?_)
              · refine zwW_p [(0, 0, 0)] (q := 53) (ls' := [(2, 37), (0, a), (9, 0)]) (st' := [(0, 0)]) (by decide +kernel) rfl ?_
                refine zwW_ret (nx := 54) (a := 1) (b := 0) (by decide +kernel) rfl (Or.inr (Or.inl ⟨rfl, Or.inl rfl⟩)) ?_
                exact ⟨Ih22, Rh22, by exact f23, Or.inr ⟨rfl, by omega⟩⟩
              · exfalso; omega
        · exfalso; omega
  · refine zwif_eq (q := 54) (nx := 10) (by decide +kernel) (fun c33 => ?_) (fun c33 => ?_)
    · refine zwW_p [(1, 0, 2), (0, 91, 0)] (q := 57) (ls' := [(2, 37), (0, a), (9, 0)]) (st' := [(0, 91), (2, 37)]) (by decide +kernel) rfl ?_
      refine zwW_cm I (op := 60) (k' := 250) (n := 1) (kd := 13) (m := 97) (nx := 60) (r := 37) (tl := [(0, 91)]) (st' := []) (by decide +kernel) rfl (by decide +kernel) (Nat.ble_eq_true_of_le (by omega)) (m250 h I 91) ?_
      rintro x _ ⟨rfl, ⟨rfl, c34⟩ | ⟨rfl, c34⟩⟩
      · refine zwif_eq (q := 110) (nx := 63) (by decide +kernel) (fun c35 => ?_) (fun c35 => ?_)
        · exfalso; omega
        · refine zwW_p [(1, 0, 2), (1, 1, 0), (0, 8, 0)] (q := 67) (ls' := [(2, 37), (0, a), (9, 0)]) (st' := [(0, 8), (0, a), (2, 37)]) (by decide +kernel) rfl ?_
          refine zwic_ge (q := 74) (nx := 70) (by decide +kernel) (fun c36 => ?_) (fun c36 => ?_)
          · refine zwW_p [(0, 0, 0)] (q := 75) (ls' := [(2, 37), (0, a), (9, 0)]) (st' := [(0, 0), (2, 37)]) (by decide +kernel) rfl ?_
            refine zwW_cm I (op := 60) (k' := 247) (n := 1) (kd := 13) (m := 97) (nx := 78) (r := 37) (tl := [(0, 0)]) (st' := []) (by decide +kernel) rfl (by decide +kernel) (Nat.ble_eq_true_of_le (by omega)) (m247 h I 0 hP) ?_
            rintro x h37 ⟨Ih37, Qh37, ⟨rfl, f38, f39, f40, f41⟩ | ⟨rfl, f42, f43, f44⟩⟩
            · exfalso; omega
            · have Rh37 : zMR msP h h37 := R.tr Qh37 (by decide +kernel)
              have zf43 := f43; unfold zP0 at zf43
              refine zwif_eq (q := 108) (nx := 81) (by decide +kernel) (fun c45 => ?_) (fun c45 => ?_)
              · refine zwW_p [(0, 0, 0)] (q := 109) (ls' := [(2, 37), (0, a), (9, 0)]) (st' := [(0, 0)]) (by decide +kernel) rfl ?_
                refine zwW_ret (nx := 110) (a := 1) (b := 0) (by decide +kernel) rfl (Or.inr (Or.inl ⟨rfl, Or.inl rfl⟩)) ?_
                exact ⟨Ih37, Rh37, by exact f43, Or.inr ⟨rfl, by omega⟩⟩
              · exfalso; omega
          · refine zwW_p [(0, 1, 0), (24, 75, 0)] (q := 75) (ls' := [(2, 37), (0, a), (9, 0)]) (st' := [(0, 1), (2, 37)]) (by decide +kernel) rfl ?_
            refine zwW_cm I (op := 60) (k' := 247) (n := 1) (kd := 13) (m := 97) (nx := 78) (r := 37) (tl := [(0, 1)]) (st' := []) (by decide +kernel) rfl (by decide +kernel) (Nat.ble_eq_true_of_le (by omega)) (m247 h I 1 hP) ?_
            rintro x h46 ⟨Ih46, Qh46, ⟨rfl, f47, f48, f49, f50⟩ | ⟨rfl, f51, f52, f53⟩⟩
            · have Rh46 : zMR msP h h46 := R.tr Qh46 (by decide +kernel)
              have zf48 := f48; unfold zP0 at zf48
              have Kh46 := Qh46.kp (by decide +kernel)
              have N75 : zNu h h46 := zNu.mr I pc Qh46 (by decide +kernel) (by omega) (by omega)
              refine zwif_eq (q := 108) (nx := 81) (by decide +kernel) (fun c54 => ?_) (fun c54 => ?_)
              · exfalso; omega
              · refine zwW_p [(1, 0, 2), (1, 1, 0), (0, 1, 0)] (q := 84) (ls' := [(2, 37), (0, a), (9, 0)]) (st' := [(0, 1), (0, a), (2, 37)]) (by decide +kernel) rfl ?_
                refine zwW_add (nx := 85) (by decide +kernel) (by first | omega | exact ⟨by omega, by omega⟩) ?_
                refine zwW_cm Ih46 (op := 60) (k' := 249) (n := 1) (kd := 13) (m := 97) (nx := 88) (r := 37) (tl := [(0, (a + 1))]) (st' := []) (by decide +kernel) rfl (by decide +kernel) (Nat.ble_eq_true_of_le (by omega)) (HE (by omega) h46 Ih46 f48 (by omega) (by omega)) ?_
                rintro x h55 ⟨Ih55, Qh55, f56, ⟨rfl, f57⟩ | ⟨rfl, f58⟩⟩
                · have Rh55 : zMR msP h h55 := Rh46.tr Qh55 (by decide +kernel)
                  have zf56 := f56; unfold zP0 at zf56
                  have Sh55 := f57.k Qh55
                  have W85 := f57
                  refine zwif_eq (q := 108) (nx := 91) (by decide +kernel) (fun c59 => ?_) (fun c59 => ?_)
                  · exfalso; omega
                  · refine zwW_p [(1, 0, 2), (1, 0, 2), (0, 93, 0)] (q := 95) (ls' := [(2, 37), (0, a), (9, 0)]) (st' := [(0, 93), (2, 37), (2, 37)]) (by decide +kernel) rfl ?_
                    refine zwW_cm Ih55 (op := 60) (k' := 250) (n := 1) (kd := 13) (m := 97) (nx := 98) (r := 37) (tl := [(0, 93)]) (st' := [(2, 37)]) (by decide +kernel) rfl (by decide +kernel) (Nat.ble_eq_true_of_le (by omega)) (m250 h55 Ih55 93) ?_
                    rintro x _ ⟨rfl, ⟨rfl, c60⟩ | ⟨rfl, c60⟩⟩
                    · refine zwW_cm Ih55 (op := 60) (k' := 247) (n := 1) (kd := 13) (m := 97) (nx := 101) (r := 37) (tl := [(0, 1)]) (st' := []) (by decide +kernel) rfl (by decide +kernel) (Nat.ble_eq_true_of_le (by omega)) (m247 h55 Ih55 1 f56) ?_
                      rintro x h61 ⟨Ih61, Qh61, ⟨rfl, f62, f63, f64, f65⟩ | ⟨rfl, f66, f67, f68⟩⟩
                      · have Rh61 : zMR msP h h61 := Rh55.tr Qh61 (by decide +kernel)
                        have zf63 := f63; unfold zP0 at zf63
                        have Kh61 := Qh61.kp (by decide +kernel)
                        have N98 : zNu h55 h61 := zNu.mr Ih55 (by omega) Qh61 (by decide +kernel) (by omega) (by omega)
                        have Z : zPS h h61 := (W85.pre N75).post (by omega) N98
                        refine zwif_eq (q := 108) (nx := 104) (by decide +kernel) (fun c69 => ?_) (fun c69 => ?_)
                        · exfalso; omega
                        · refine zwW_p [(0, 1, 0), (24, 109, 0)] (q := 109) (ls' := [(2, 37), (0, a), (9, 0)]) (st' := [(0, 1)]) (by decide +kernel) rfl ?_
                          refine zwW_ret (nx := 110) (a := 1) (b := 0) (by decide +kernel) rfl (Or.inr (Or.inl ⟨rfl, Or.inr rfl⟩)) ?_
                          exact ⟨Ih61, Rh61, by exact f63, Or.inl ⟨rfl, by exact Z⟩⟩
                      · exfalso; omega
                    · refine zwW_cm Ih55 (op := 60) (k' := 247) (n := 1) (kd := 13) (m := 97) (nx := 101) (r := 37) (tl := [(0, 0)]) (st' := []) (by decide +kernel) rfl (by decide +kernel) (Nat.ble_eq_true_of_le (by omega)) (m247 h55 Ih55 0 f56) ?_
                      rintro x h70 ⟨Ih70, Qh70, ⟨rfl, f71, f72, f73, f74⟩ | ⟨rfl, f75, f76, f77⟩⟩
                      · exfalso; omega
                      · have Rh70 : zMR msP h h70 := Rh55.tr Qh70 (by decide +kernel)
                        have zf76 := f76; unfold zP0 at zf76
                        refine zwif_eq (q := 108) (nx := 104) (by decide +kernel) (fun c78 => ?_) (fun c78 => ?_)
                        · refine zwW_p [(0, 0, 0)] (q := 109) (ls' := [(2, 37), (0, a), (9, 0)]) (st' := [(0, 0)]) (by decide +kernel) rfl ?_
                          refine zwW_ret (nx := 110) (a := 1) (b := 0) (by decide +kernel) rfl (Or.inr (Or.inl ⟨rfl, Or.inl rfl⟩)) ?_
                          exact ⟨Ih70, Rh70, by exact f76, Or.inr ⟨rfl, by omega⟩⟩
                        · exfalso; omega
                · have Rh55 : zMR msP h h55 := Rh46.tr Qh55 (by decide +kernel)
                  have zf56 := f56; unfold zP0 at zf56
                  refine zwif_eq (q := 108) (nx := 91) (by decide +kernel) (fun c79 => ?_) (fun c79 => ?_)
                  · refine zwW_p [(0, 0, 0)] (q := 109) (ls' := [(2, 37), (0, a), (9, 0)]) (st' := [(0, 0)]) (by decide +kernel) rfl ?_
                    refine zwW_ret (nx := 110) (a := 1) (b := 0) (by decide +kernel) rfl (Or.inr (Or.inl ⟨rfl, Or.inl rfl⟩)) ?_
                    exact ⟨Ih55, Rh55, by exact f56, Or.inr ⟨rfl, by omega⟩⟩
                  · exfalso; omega
            · exfalso; omega
      · refine zwif_eq (q := 110) (nx := 63) (by decide +kernel) (fun c80 => ?_) (fun c80 => ?_)
        · refine zwW_p [(1, 0, 2), (1, 1, 0)] (q := 112) (ls' := [(2, 37), (0, a), (9, 0)]) (st' := [(0, a), (2, 37)]) (by decide +kernel) rfl ?_
          refine zwW_cm I (op := 60) (k' := 248) (n := 1) (kd := 13) (m := 97) (nx := 115) (r := 37) (tl := [(0, a)]) (st' := []) (by decide +kernel) rfl (by decide +kernel) (Nat.ble_eq_true_of_le (by omega)) (m248 a D0 pa HS h I hP (by omega) (by omega)) ?_
          rintro x h81 ⟨Ih81, Qh81, f82, ⟨rfl, f83⟩ | ⟨rfl, f84⟩⟩
          · have Rh81 : zMR msP h h81 := R.tr Qh81 (by decide +kernel)
            have zf82 := f82; unfold zP0 at zf82
            have Sh81 := f83.k Qh81
            have W112 := f83
            refine zwif_ne (q := 120) (nx := 118) (by decide +kernel) (fun c85 => ?_) (fun c85 => ?_)
            · refine zwW_p [(1, 0, 2), (0, 60, 0)] (q := 123) (ls' := [(2, 37), (0, a), (9, 0)]) (st' := [(0, 60), (2, 37)]) (by decide +kernel) rfl ?_
              refine zwW_cm Ih81 (op := 60) (k' := 250) (n := 1) (kd := 13) (m := 97) (nx := 126) (r := 37) (tl := [(0, 60)]) (st' := []) (by decide +kernel) rfl (by decide +kernel) (Nat.ble_eq_true_of_le (by omega)) (m250 h81 Ih81 60) ?_
              rintro x _ ⟨rfl, ⟨rfl, c86⟩ | ⟨rfl, c86⟩⟩
              · refine zwif_ne (q := 152) (nx := 129) (by decide +kernel) (fun c87 => ?_) (fun c87 => ?_)
                · refine zwW_p [(1, 0, 2)] (q := 153) (ls' := [(2, 37), (0, a), (9, 0)]) (st' := [(2, 37)]) (by decide +kernel) rfl ?_
                  refine zwW_gc Ih81 (kd := 13) (bn := 40) (n := 97) (c := 98) (nx := 156) (by decide +kernel) ?_
                  refine zwW_p [(1, 0, 2)] (q := 157) (ls' := [(2, 37), (0, a), (9, 0)]) (st' := [(2, 37), (2, 98)]) (by decide +kernel) rfl ?_
                  refine zwW_gs Ih81 (kd := 13) (bn := 42) (n := 97) (t := 0) (lo := 0) (hi := 400) (nx := 160) (by decide +kernel) ?_
                  intro v88 ev88 lv88 uv88
                  have X160 : v88 = fld h81 37 42 := by omega
                  refine zwW_al Ih81 (a1 := 98) (a2 := 98) (kd := 21) (n := 400) (t := 0) (lo := -128) (hi := 127) (nx := 161) (by decide +kernel) (by first | decide | exact ⟨by decide, by decide⟩) (by first | omega | exact ⟨by omega, by omega⟩) ?_
                  intro v89 ev89 lv89 uv89
                  have G161 : v89 = fld h81 98 (fld h81 37 42).toNat := by rw [ev89, X160]
                  refine zwW_p [(2, 2, 0), (1, 0, 2)] (q := 163) (ls' := [(2, 37), (0, a), (0, v89)]) (st' := [(2, 37)]) (by decide +kernel) rfl ?_
                  refine zwW_cmv Ih81 (op := 60) (k' := 268) (n := 0) (kd := 13) (m := 97) (nx := 166) (r := 37) (tl := []) (st' := []) (by decide +kernel) rfl (by decide +kernel) (Nat.ble_eq_true_of_le (by omega)) (m268 h81 Ih81 f82) ?_
                  rintro h92 ⟨Ih92, Qh92, f90, f91⟩
                  have Rh92 : zMR msP h h92 := Rh81.tr Qh92 (by decide +kernel)
                  have zf91 := f91; unfold zP0 at zf91
                  have Kh92 := Qh92.kp (by decide +kernel)
                  have N163 : zNu h81 h92 := zNu.mr Ih81 (by omega) Qh92 (by decide +kernel) (Qh92.f1 44 (by decide +kernel)) (by omega)
                  refine zwW_p [(1, 0, 2), (1, 1, 0)] (q := 168) (ls' := [(2, 37), (0, a), (0, v89)]) (st' := [(0, a), (2, 37)]) (by decide +kernel) rfl ?_
                  refine zwW_cm Ih92 (op := 60) (k' := 248) (n := 1) (kd := 13) (m := 97) (nx := 171) (r := 37) (tl := [(0, a)]) (st' := []) (by decide +kernel) rfl (by decide +kernel) (Nat.ble_eq_true_of_le (by omega)) (m248 a D0 pa HS h92 Ih92 f91 (by omega) (by omega)) ?_
                  rintro x h93 ⟨Ih93, Qh93, f94, ⟨rfl, f95⟩ | ⟨rfl, f96⟩⟩
                  · have Rh93 : zMR msP h h93 := Rh92.tr Qh93 (by decide +kernel)
                    have zf94 := f94; unfold zP0 at zf94
                    have Sh93 := f95.k Qh93
                    have W168 := f95
                    refine zwif_eq (q := 187) (nx := 174) (by decide +kernel) (fun c97 => ?_) (fun c97 => ?_)
                    · exfalso; omega
                    · refine zwW_p [(1, 0, 2), (1, 2, 0), (0, 0, 0)] (q := 177) (ls' := [(2, 37), (0, a), (0, v89)]) (st' := [(0, 0), (0, v89), (2, 37)]) (by decide +kernel) rfl ?_
                      refine zwW_cm Ih93 (op := 60) (k' := 270) (n := 2) (kd := 13) (m := 97) (nx := 180) (r := 37) (tl := [(0, v89), (0, 0)]) (st' := []) (by decide +kernel) rfl (by decide +kernel) (Nat.ble_eq_true_of_le (by omega)) (m270 h93 Ih93 v89 0 (by omega) (by omega) (by omega) (by omega)) ?_
                      rintro x h101 ⟨Ih101, Qh101, rfl, f98, f99, f100⟩
                      have Rh101 : zMR msP h h101 := Rh93.tr Qh101 (by decide +kernel)
                      have Ph101 := f94.mr Qh101 (by decide +kernel)
                      have zPh101 := Ph101; unfold zP0 at zPh101
                      have Z : zPS h h101 := zPS_bin (by omega) (by omega) W112 N163 (by omega) W168 (by omega) (zPu.of Qh101 f98 f99 f100) (by omega)
                      refine zwif_eq (q := 187) (nx := 183) (by decide +kernel) (fun c102 => ?_) (fun c102 => ?_)
                      · exfalso; omega
                      · refine zwW_p [(0, 1, 0), (24, 188, 0)] (q := 188) (ls' := [(2, 37), (0, a), (0, v89)]) (st' := [(0, 1)]) (by decide +kernel) rfl ?_
                        refine zwW_ret (nx := 189) (a := 1) (b := 0) (by decide +kernel) rfl (Or.inr (Or.inl ⟨rfl, Or.inr rfl⟩)) ?_
                        exact ⟨Ih101, Rh101, by exact Ph101, Or.inl ⟨rfl, by exact Z⟩⟩
                  · have Rh93 : zMR msP h h93 := Rh92.tr Qh93 (by decide +kernel)
                    have zf94 := f94; unfold zP0 at zf94
                    refine zwif_eq (q := 187) (nx := 174) (by decide +kernel) (fun c103 => ?_) (fun c103 => ?_)
                    · refine zwW_p [(0, 0, 0)] (q := 188) (ls' := [(2, 37), (0, a), (0, v89)]) (st' := [(0, 0)]) (by decide +kernel) rfl ?_
                      refine zwW_ret (nx := 189) (a := 1) (b := 0) (by decide +kernel) rfl (Or.inr (Or.inl ⟨rfl, Or.inl rfl⟩)) ?_
                      exact ⟨Ih93, Rh93, by exact f94, Or.inr ⟨rfl, by omega⟩⟩
                    · exfalso; omega
                · exfalso; omega
              · refine zwif_ne (q := 152) (nx := 129) (by decide +kernel) (fun c104 => ?_) (fun c104 => ?_)
                · exfalso; omega
                · refine zwW_p [(1, 0, 2), (0, 62, 0)] (q := 132) (ls' := [(2, 37), (0, a), (9, 0)]) (st' := [(0, 62), (2, 37)]) (by decide +kernel) rfl ?_
                  refine zwW_cm Ih81 (op := 60) (k' := 250) (n := 1) (kd := 13) (m := 97) (nx := 135) (r := 37) (tl := [(0, 62)]) (st' := []) (by decide +kernel) rfl (by decide +kernel) (Nat.ble_eq_true_of_le (by omega)) (m250 h81 Ih81 62) ?_
                  rintro x _ ⟨rfl, ⟨rfl, c105⟩ | ⟨rfl, c105⟩⟩
                  · refine zwif_ne (q := 152) (nx := 138) (by decide +kernel) (fun c106 => ?_) (fun c106 => ?_)
                    · refine zwW_p [(1, 0, 2)] (q := 153) (ls' := [(2, 37), (0, a), (9, 0)]) (st' := [(2, 37)]) (by decide +kernel) rfl ?_
                      refine zwW_gc Ih81 (kd := 13) (bn := 40) (n := 97) (c := 98) (nx := 156) (by decide +kernel) ?_
                      refine zwW_p [(1, 0, 2)] (q := 157) (ls' := [(2, 37), (0, a), (9, 0)]) (st' := [(2, 37), (2, 98)]) (by decide +kernel) rfl ?_
                      refine zwW_gs Ih81 (kd := 13) (bn := 42) (n := 97) (t := 0) (lo := 0) (hi := 400) (nx := 160) (by decide +kernel) ?_
                      intro v107 ev107 lv107 uv107
                      have X160 : v107 = fld h81 37 42 := by omega
                      refine zwW_al Ih81 (a1 := 98) (a2 := 98) (kd := 21) (n := 400) (t := 0) (lo := -128) (hi := 127) (nx := 161) (by decide +kernel) (by first | decide | exact ⟨by decide, by decide⟩) (by first | omega | exact ⟨by omega, by omega⟩) ?_
                      intro v108 ev108 lv108 uv108
                      have G161 : v108 = fld h81 98 (fld h81 37 42).toNat := by rw [ev108, X160]
                      refine zwW_p [(2, 2, 0), (1, 0, 2)] (q := 163) (ls' := [(2, 37), (0, a), (0, v108)]) (st' := [(2, 37)]) (by decide +kernel) rfl ?_
                      refine zwW_cmv Ih81 (op := 60) (k' := 268) (n := 0) (kd := 13) (m := 97) (nx := 166) (r := 37) (tl := []) (st' := []) (by decide +kernel) rfl (by decide +kernel) (Nat.ble_eq_true_of_le (by omega)) (m268 h81 Ih81 f82) ?_
                      rintro h111 ⟨Ih111, Qh111, f109, f110⟩
                      have Rh111 : zMR msP h h111 := Rh81.tr Qh111 (by decide +kernel)
                      have zf110 := f110; unfold zP0 at zf110
                      have Kh111 := Qh111.kp (by decide +kernel)
                      have N163 : zNu h81 h111 := zNu.mr Ih81 (by omega) Qh111 (by decide +kernel) (Qh111.f1 44 (by decide +kernel)) (by omega)
                      refine zwW_p [(1, 0, 2), (1, 1, 0)] (q := 168) (ls' := [(2, 37), (0, a), (0, v108)]) (st' := [(0, a), (2, 37)]) (by decide +kernel) rfl ?_
                      refine zwW_cm Ih111 (op := 60) (k' := 248) (n := 1) (kd := 13) (m := 97) (nx := 171) (r := 37) (tl := [(0, a)]) (st' := []) (by decide +kernel) rfl (by decide +kernel) (Nat.ble_eq_true_of_le (by omega)) (m248 a D0 pa HS h111 Ih111 f110 (by omega) (by omega)) ?_
                      rintro x h112 ⟨Ih112, Qh112, f113, ⟨rfl, f114⟩ | ⟨rfl, f115⟩⟩
                      · have Rh112 : zMR msP h h112 := Rh111.tr Qh112 (by decide +kernel)
                        have zf113 := f113; unfold zP0 at zf113
                        have Sh112 := f114.k Qh112
                        have W168 := f114
                        refine zwif_eq (q := 187) (nx := 174) (by decide +kernel) (fun c116 => ?_) (fun c116 => ?_)
                        · exfalso; omega
                        · refine zwW_p [(1, 0, 2), (1, 2, 0), (0, 0, 0)] (q := 177) (ls' := [(2, 37), (0, a), (0, v108)]) (st' := [(0, 0), (0, v108), (2, 37)]) (by decide +kernel) rfl ?_
                          refine zwW_cm Ih112 (op := 60) (k' := 270) (n := 2) (kd := 13) (m := 97) (nx := 180) (r := 37) (tl := [(0, v108), (0, 0)]) (st' := []) (by decide +kernel) rfl (by decide +kernel) (Nat.ble_eq_true_of_le (by omega)) (m270 h112 Ih112 v108 0 (by omega) (by omega) (by omega) (by omega)) ?_
                          rintro x h120 ⟨Ih120, Qh120, rfl, f117, f118, f119⟩
                          have Rh120 : zMR msP h h120 := Rh112.tr Qh120 (by decide +kernel)
                          have Ph120 := f113.mr Qh120 (by decide +kernel)
                          have zPh120 := Ph120; unfold zP0 at zPh120
                          have Z : zPS h h120 := zPS_bin (by omega) (by omega) W112 N163 (by omega) W168 (by omega) (zPu.of Qh120 f117 f118 f119) (by omega)
                          refine zwif_eq (q := 187) (nx := 183) (by decide +kernel) (fun c121 => ?_) (fun c121 => ?_)
                          · exfalso; omega
                          · refine zwW_p [(0, 1, 0), (24, 188, 0)] (q := 188) (ls' := [(2, 37), (0, a), (0, v108)]) (st' := [(0, 1)]) (by decide +kernel) rfl ?_
                            refine zwW_ret (nx := 189) (a := 1) (b := 0) (by decide +kernel) rfl (Or.inr (Or.inl ⟨rfl, Or.inr rfl⟩)) ?_
                            exact ⟨Ih120, Rh120, by exact Ph120, Or.inl ⟨rfl, by exact Z⟩⟩
                      · have Rh112 : zMR msP h h112 := Rh111.tr Qh112 (by decide +kernel)
                        have zf113 := f113; unfold zP0 at zf113
                        refine zwif_eq (q := 187) (nx := 174) (by decide +kernel) (fun c122 => ?_) (fun c122 => ?_)
                        · refine zwW_p [(0, 0, 0)] (q := 188) (ls' := [(2, 37), (0, a), (0, v108)]) (st' := [(0, 0)]) (by decide +kernel) rfl ?_
                          refine zwW_ret (nx := 189) (a := 1) (b := 0) (by decide +kernel) rfl (Or.inr (Or.inl ⟨rfl, Or.inl rfl⟩)) ?_
                          exact ⟨Ih112, Rh112, by exact f113, Or.inr ⟨rfl, by omega⟩⟩
                        · exfalso; omega
                    · exfalso; omega
                  · refine zwif_ne (q := 152) (nx := 138) (by decide +kernel) (fun c123 => ?_) (fun c123 => ?_)
                    · exfalso; omega
                    · refine zwW_p [(1, 0, 2), (0, 61, 0)] (q := 141) (ls' := [(2, 37), (0, a), (9, 0)]) (st' := [(0, 61), (2, 37)]) (by decide +kernel) rfl ?_
                      refine zwW_cm Ih81 (op := 60) (k' := 250) (n := 1) (kd := 13) (m := 97) (nx := 144) (r := 37) (tl := [(0, 61)]) (st' := []) (by decide +kernel) rfl (by decide +kernel) (Nat.ble_eq_true_of_le (by omega)) (m250 h81 Ih81 61) ?_
                      rintro x _ ⟨rfl, ⟨rfl, c124⟩ | ⟨rfl, c124⟩⟩
                      · refine zwif_ne (q := 152) (nx := 147) (by decide +kernel) (fun c125 => ?_) (fun c125 => ?_)
                        · refine zwW_p [(1, 0, 2)] (q := 153) (ls' := [(2, 37), (0, a), (9, 0)]) (st' := [(2, 37)]) (by decide +kernel) rfl ?_
                          refine zwW_gc Ih81 (kd := 13) (bn := 40) (n := 97) (c := 98) (nx := 156) (by decide +kernel) ?_
                          refine zwW_p [(1, 0, 2)] (q := 157) (ls' := [(2, 37), (0, a), (9, 0)]) (st' := [(2, 37), (2, 98)]) (by decide +kernel) rfl ?_
                          refine zwW_gs Ih81 (kd := 13) (bn := 42) (n := 97) (t := 0) (lo := 0) (hi := 400) (nx := 160) (by decide +kernel) ?_
                          intro v126 ev126 lv126 uv126
                          have X160 : v126 = fld h81 37 42 := by omega
                          refine zwW_al Ih81 (a1 := 98) (a2 := 98) (kd := 21) (n := 400) (t := 0) (lo := -128) (hi := 127) (nx := 161) (by decide +kernel) (by first | decide | exact ⟨by decide, by decide⟩) (by first | omega | exact ⟨by omega, by omega⟩) ?_
                          intro v127 ev127 lv127 uv127
                          have G161 : v127 = fld h81 98 (fld h81 37 42).toNat := by rw [ev127, X160]
                          refine zwW_p [(2, 2, 0), (1, 0, 2)] (q := 163) (ls' := [(2, 37), (0, a), (0, v127)]) (st' := [(2, 37)]) (by decide +kernel) rfl ?_
                          refine zwW_cmv Ih81 (op := 60) (k' := 268) (n := 0) (kd := 13) (m := 97) (nx := 166) (r := 37) (tl := []) (st' := []) (by decide +kernel) rfl (by decide +kernel) (Nat.ble_eq_true_of_le (by omega)) (m268 h81 Ih81 f82) ?_
                          rintro h130 ⟨Ih130, Qh130, f128, f129⟩
                          have Rh130 : zMR msP h h130 := Rh81.tr Qh130 (by decide +kernel)
                          have zf129 := f129; unfold zP0 at zf129
                          have Kh130 := Qh130.kp (by decide +kernel)
                          have N163 : zNu h81 h130 := zNu.mr Ih81 (by omega) Qh130 (by decide +kernel) (Qh130.f1 44 (by decide +kernel)) (by omega)
                          refine zwW_p [(1, 0, 2), (1, 1, 0)] (q := 168) (ls' := [(2, 37), (0, a), (0, v127)]) (st' := [(0, a), (2, 37)]) (by decide +kernel) rfl ?_
                          refine zwW_cm Ih130 (op := 60) (k' := 248) (n := 1) (kd := 13) (m := 97) (nx := 171) (r := 37) (tl := [(0, a)]) (st' := []) (by decide +kernel) rfl (by decide +kernel) (Nat.ble_eq_true_of_le (by omega)) (m248 a D0 pa HS h130 Ih130 f129 (by omega) (by omega)) ?_
                          rintro x h131 ⟨Ih131, Qh131, f132, ⟨rfl, f133⟩ | ⟨rfl, f134⟩⟩
                          · have Rh131 : zMR msP h h131 := Rh130.tr Qh131 (by decide +kernel)
                            have zf132 := f132; unfold zP0 at zf132
                            have Sh131 := f133.k Qh131
                            have W168 := f133
                            refine zwif_eq (q := 187) (nx := 174) (by decide +kernel) (fun c135 => ?_) (fun c135 => ?_)
                            · exfalso; omega
                            · refine zwW_p [(1, 0, 2), (1, 2, 0), (0, 0, 0)] (q := 177) (ls' := [(2, 37), (0, a), (0, v127)]) (st' := [(0, 0), (0, v127), (2, 37)]) (by decide +kernel) rfl ?_
                              refine zwW_cm Ih131 (op := 60) (k' := 270) (n := 2) (kd := 13) (m := 97) (nx := 180) (r := 37) (tl := [(0, v127), (0, 0)]) (st' := []) (by decide +kernel) rfl (by decide +kernel) (Nat.ble_eq_true_of_le (by omega)) (m270 h131 Ih131 v127 0 (by omega) (by omega) (by omega) (by omega)) ?_
                              rintro x h139 ⟨Ih139, Qh139, rfl, f136, f137, f138⟩
                              have Rh139 : zMR msP h h139 := Rh131.tr Qh139 (by decide +kernel)
                              have Ph139 := f132.mr Qh139 (by decide +kernel)
                              have zPh139 := Ph139; unfold zP0 at zPh139
                              have Z : zPS h h139 := zPS_bin (by omega) (by omega) W112 N163 (by omega) W168 (by omega) (zPu.of Qh139 f136 f137 f138) (by omega)
                              refine zwif_eq (q := 187) (nx := 183) (by decide +kernel) (fun c140 => ?_) (fun c140 => ?_)
                              · exfalso; omega
                              · refine zwW_p [(0, 1, 0), (24, 188, 0)] (q := 188) (ls' := [(2, 37), (0, a), (0, v127)]) (st' := [(0, 1)]) (by decide +kernel) rfl ?_
                                refine zwW_ret (nx := 189) (a := 1) (b := 0) (by decide +kernel) rfl (Or.inr (Or.inl ⟨rfl, Or.inr rfl⟩)) ?_
                                exact ⟨Ih139, Rh139, by exact Ph139, Or.inl ⟨rfl, by exact Z⟩⟩
                          · have Rh131 : zMR msP h h131 := Rh130.tr Qh131 (by decide +kernel)
                            have zf132 := f132; unfold zP0 at zf132
                            refine zwif_eq (q := 187) (nx := 174) (by decide +kernel) (fun c141 => ?_) (fun c141 => ?_)
                            · refine zwW_p [(0, 0, 0)] (q := 188) (ls' := [(2, 37), (0, a), (0, v127)]) (st' := [(0, 0)]) (by decide +kernel) rfl ?_
                              refine zwW_ret (nx := 189) (a := 1) (b := 0) (by decide +kernel) rfl (Or.inr (Or.inl ⟨rfl, Or.inl rfl⟩)) ?_
                              exact ⟨Ih131, Rh131, by exact f132, Or.inr ⟨rfl, by omega⟩⟩
                            · exfalso; omega
                        · exfalso; omega
                      · refine zwif_ne (q := 152) (nx := 147) (by decide +kernel) (fun c142 => ?_) (fun c142 => ?_)
                        · exfalso; omega
                        · refine zwW_p [(1, 0, 2)] (q := 148) (ls' := [(2, 37), (0, a), (9, 0)]) (st' := [(2, 37)]) (by decide +kernel) rfl ?_
                          refine zwW_cm Ih81 (op := 60) (k' := 267) (n := 0) (kd := 13) (m := 97) (nx := 151) (r := 37) (tl := []) (st' := []) (by decide +kernel) rfl (by decide +kernel) (Nat.ble_eq_true_of_le (by omega)) (m267 h81 Ih81) ?_
                          rintro x h144 ⟨Ih144, Qh144, rfl, f143⟩
                          have Rh144 : zMR msP h h144 := Rh81.tr Qh144 (by decide +kernel)
                          have Ph144 := f82.mr Qh144 (by decide +kernel)
                          have zPh144 := Ph144; unfold zP0 at zPh144
                          refine zwW_ret (nx := 152) (a := 1) (b := 0) (by decide +kernel) rfl (Or.inr (Or.inl ⟨rfl, by omega⟩)) ?_
                          exact ⟨Ih144, Rh144, by exact Ph144, Or.inr ⟨rfl, by omega⟩⟩
            · exfalso; omega
          · have Rh81 : zMR msP h h81 := R.tr Qh81 (by decide +kernel)
            have zf82 := f82; unfold zP0 at zf82
            refine zwif_ne (q := 120) (nx := 118) (by decide +kernel) (fun c145 => ?_) (fun c145 => ?_)
            · exfalso; omega
            · refine zwW_p [(0, 0, 0)] (q := 119) (ls' := [(2, 37), (0, a), (9, 0)]) (st' := [(0, 0)]) (by decide +kernel) rfl ?_
              refine zwW_ret (nx := 120) (a := 1) (b := 0) (by decide +kernel) rfl (Or.inr (Or.inl ⟨rfl, Or.inl rfl⟩)) ?_
              exact ⟨Ih81, Rh81, by exact f82, Or.inr ⟨rfl, by omega⟩⟩
        · exfalso; omega
    · exfalso; omega
-- WheelLandModel.each(I)Z
theorem m271 {sc : List Int} (a : Int) (D0 : Nat) (pa : 0 ≤ a ∧ a ≤ 8) (HS : a < 8 → zPX sc D0 248 (a + 1)) (HT : a < 8 → zPX sc D0 286 (a + 1)) (HE : a < 8 → zPX sc D0 249 (a + 1)) : zPX sc (D0 + 24) 271 a := by
  intro h I hP pc pk
  have hP0 := hP
  unfold zP0 at hP0
  have bk := I.b (a1 := 37) (a2 := 37) (j1 := 45) (j2 := 46) (lo := 0) (hi := 400) (by decide +kernel) (r := 37) (j := 45) (by decide) (by decide) (by decide) (by decide)
  have bt := I.b (a1 := 37) (a2 := 37) (j1 := 41) (j2 := 42) (lo := 0) (hi := 400) (by decide +kernel) (r := 37) (j := 41) (by decide) (by decide) (by decide) (by decide)
  refine zwC_of (D := D0 + 23) 2 (by decide +kernel) rfl (ls := [(2, 37), (0, a)]) rfl ?_
  have R : zMR msP h h := zMR.rf _ _
  refine zwW_p [(1, 0, 2), (1, 1, 0)] (q := 2) (ls' := [(2, 37), (0, a)]) (st' := [(0, a), (2, 37)]) (by decide +kernel) rfl ?_
  refine zwW_cm I (op := 60) (k' := 286) (n := 1) (kd := 13) (m := 97) (nx := 5) (r := 37) (tl := [(0, a)]) (st' := []) (by decide +kernel) rfl (by decide +kernel) (Nat.ble_eq_true_of_le (by omega)) (m286 a D0 pa HS HT HE h I hP (by omega) (by omega)) ?_
  rintro x h1 ⟨Ih1, Qh1, f2, ⟨rfl, f3⟩ | ⟨rfl, f4⟩⟩
  · have Rh1 : zMR msP h h1 := R.tr Qh1 (by decide +kernel)
    have zf2 := f2; unfold zP0 at zf2
    have Sh1 := f3.k Qh1
    refine zwif_ne (q := 10) (nx := 8) (by decide +kernel) (fun c5 => ?_) (fun c5 => ?_)
    · have L6 : ∀ (n : Nat) (hL6 : Hp), n = (fld hL6 37 41 - fld hL6 37 42).toNat → (zPS h hL6) → (zP0 hL6) → zI hL6 → zMR msP h hL6 → zwW sc (D0 + 23) 271 10 [(2, 37), (0, a)] [] hL6 (zwRt 0 (zPQ h)) := by
        intro n
        induction n using Nat.strongRecOn with
        | ind n IHL6 =>
          intro hL6 hnL6 iL6_0 iL6_1 IhL6 RhL6
          have ShL6 := iL6_0.k RhL6
          have yhL6 := iL6_1; unfold zP0 at yhL6
          refine zwW_p [(1, 0, 2), (0, -31, 2)] (q := 14) (ls' := [(2, 37), (0, a)]) (st' := [(2, -31), (2, 37)]) (by decide +kernel) rfl ?_
          refine zwW_cm IhL6 (op := 60) (k' := 246) (n := 1) (kd := 13) (m := 97) (nx := 17) (r := 37) (tl := [(2, -31)]) (st' := []) (by decide +kernel) rfl (by decide +kernel) (Nat.ble_eq_true_of_le (by omega)) (m246 hL6 IhL6 (-31) (by omega) iL6_1) ?_
          rintro x _ ⟨rfl, ⟨rfl, c7⟩ | ⟨rfl, c7⟩⟩
          · refine zwif_eq (q := 45) (nx := 20) (by decide +kernel) (fun c8 => ?_) (fun c8 => ?_)
            · exfalso; omega
            · refine zwW_p [(1, 0, 2)] (q := 21) (ls' := [(2, 37), (0, a)]) (st' := [(2, 37)]) (by decide +kernel) rfl ?_
              refine zwW_cmv IhL6 (op := 60) (k' := 268) (n := 0) (kd := 13) (m := 97) (nx := 24) (r := 37) (tl := []) (st' := []) (by decide +kernel) rfl (by decide +kernel) (Nat.ble_eq_true_of_le (by omega)) (m268 hL6 IhL6 iL6_1) ?_
              rintro h11 ⟨Ih11, Qh11, f9, f10⟩
              have Rh11 : zMR msP h h11 := RhL6.tr Qh11 (by decide +kernel)
              have zf10 := f10; unfold zP0 at zf10
              have Kh11 := Qh11.kp (by decide +kernel)
              have N21 : zNu hL6 h11 := zNu.mr IhL6 (by omega) Qh11 (by decide +kernel) (Qh11.f1 44 (by decide +kernel)) (by omega)
              refine zwW_p [(1, 0, 2), (1, 1, 0)] (q := 26) (ls' := [(2, 37), (0, a)]) (st' := [(0, a), (2, 37)]) (by decide +kernel) rfl ?_
              refine zwW_cm Ih11 (op := 60) (k' := 286) (n := 1) (kd := 13) (m := 97) (nx := 29) (r := 37) (tl := [(0, a)]) (st' := []) (by decide +kernel) rfl (by decide +kernel) (Nat.ble_eq_true_of_le (by omega)) (m286 a D0 pa HS HT HE h11 Ih11 f10 (by omega) (by omega)) ?_
              rintro x h12 ⟨Ih12, Qh12, f13, ⟨rfl, f14⟩ | ⟨rfl, f15⟩⟩
              · have Rh12 : zMR msP h h12 := Rh11.tr Qh12 (by decide +kernel)
                have zf13 := f13; unfold zP0 at zf13
                have Sh12 := f14.k Qh12
                have W26 := f14
                refine zwif_ne (q := 34) (nx := 32) (by decide +kernel) (fun c16 => ?_) (fun c16 => ?_)
                · refine zwW_p [(1, 0, 2), (0, 38, 0), (0, 0, 0)] (q := 38) (ls' := [(2, 37), (0, a)]) (st' := [(0, 0), (0, 38), (2, 37)]) (by decide +kernel) rfl ?_
                  refine zwW_cm Ih12 (op := 60) (k' := 270) (n := 2) (kd := 13) (m := 97) (nx := 41) (r := 37) (tl := [(0, 38), (0, 0)]) (st' := []) (by decide +kernel) rfl (by decide +kernel) (Nat.ble_eq_true_of_le (by omega)) (m270 h12 Ih12 38 0 (by omega) (by omega) (by omega) (by omega)) ?_
                  rintro x h20 ⟨Ih20, Qh20, rfl, f17, f18, f19⟩
                  have Rh20 : zMR msP h h20 := Rh12.tr Qh20 (by decide +kernel)
                  have Ph20 := f13.mr Qh20 (by decide +kernel)
                  have zPh20 := Ph20; unfold zP0 at zPh20
                  have Z38 : zPS h h20 := zPS_bin (by omega) (by omega) iL6_0 N21 (by omega) W26 (by omega) (zPu.of Qh20 f17 f18 f19) (by omega)
                  have Sh20 := Z38.k Rh20
                  have Th20 := Qh20.f1 42 (by decide +kernel)
                  refine zwW_p [(15, 0, 0), (24, 10, 0)] (q := 10) (ls' := [(2, 37), (0, a)]) (st' := []) (by decide +kernel) rfl ?_
                  exact IHL6 (fld h20 37 41 - fld h20 37 42).toNat (by omega) h20 rfl (Z38) (Ph20) Ih20 Rh20
                · exfalso; omega
              · have Rh12 : zMR msP h h12 := Rh11.tr Qh12 (by decide +kernel)
                have zf13 := f13; unfold zP0 at zf13
                refine zwif_ne (q := 34) (nx := 32) (by decide +kernel) (fun c21 => ?_) (fun c21 => ?_)
                · exfalso; omega
                · refine zwW_p [(0, 0, 0)] (q := 33) (ls' := [(2, 37), (0, a)]) (st' := [(0, 0)]) (by decide +kernel) rfl ?_
                  refine zwW_ret (nx := 34) (a := 1) (b := 0) (by decide +kernel) rfl (Or.inr (Or.inl ⟨rfl, Or.inl rfl⟩)) ?_
                  exact ⟨Ih12, Rh12, by exact f13, Or.inr ⟨rfl, by omega⟩⟩
          · refine zwif_eq (q := 45) (nx := 20) (by decide +kernel) (fun c22 => ?_) (fun c22 => ?_)
            · have Z := iL6_0
              refine zwW_p [(0, 1, 0)] (q := 46) (ls' := [(2, 37), (0, a)]) (st' := [(0, 1)]) (by decide +kernel) rfl ?_
              refine zwW_ret (nx := 47) (a := 1) (b := 0) (by decide +kernel) rfl (Or.inr (Or.inl ⟨rfl, Or.inr rfl⟩)) ?_
              exact ⟨IhL6, RhL6, by exact iL6_1, Or.inl ⟨rfl, by exact Z⟩⟩
            · exfalso; omega
      exact L6 _ h1 rfl (f3) (f2) Ih1 Rh1
    · exfalso; omega
  · have Rh1 : zMR msP h h1 := R.tr Qh1 (by decide +kernel)
    have zf2 := f2; unfold zP0 at zf2
    refine zwif_ne (q := 10) (nx := 8) (by decide +kernel) (fun c23 => ?_) (fun c23 => ?_)
    · exfalso; omega
    · refine zwW_p [(0, 0, 0)] (q := 9) (ls' := [(2, 37), (0, a)]) (st' := [(0, 0)]) (by decide +kernel) rfl ?_
      refine zwW_ret (nx := 10) (a := 1) (b := 0) (by decide +kernel) rfl (Or.inr (Or.inl ⟨rfl, Or.inl rfl⟩)) ?_
      exact ⟨Ih1, Rh1, by exact f2, Or.inr ⟨rfl, by omega⟩⟩
-- WheelLandModel.either(I)Z
theorem m249 {sc : List Int} (a : Int) (D0 : Nat) (pa : 0 ≤ a ∧ a ≤ 8) (HS : a < 8 → zPX sc D0 248 (a + 1)) (HT : a < 8 → zPX sc D0 286 (a + 1)) (HE : a < 8 → zPX sc D0 249 (a + 1)) : zPX sc (D0 + 25) 249 a := by
  intro h I hP pc pk
  have hP0 := hP
  unfold zP0 at hP0
  have bk := I.b (a1 := 37) (a2 := 37) (j1 := 45) (j2 := 46) (lo := 0) (hi := 400) (by decide +kernel) (r := 37) (j := 45) (by decide) (by decide) (by decide) (by decide)
  have bt := I.b (a1 := 37) (a2 := 37) (j1 := 41) (j2 := 42) (lo := 0) (hi := 400) (by decide +kernel) (r := 37) (j := 41) (by decide) (by decide) (by decide) (by decide)
  refine zwC_of (D := D0 + 24) 2 (by decide +kernel) rfl (ls := [(2, 37), (0, a)]) rfl ?_
  have R : zMR msP h h := zMR.rf _ _
  refine zwW_p [(1, 0, 2), (1, 1, 0)] (q := 2) (ls' := [(2, 37), (0, a)]) (st' := [(0, a), (2, 37)]) (by decide +kernel) rfl ?_
  refine zwW_cm I (op := 60) (k' := 271) (n := 1) (kd := 13) (m := 97) (nx := 5) (r := 37) (tl := [(0, a)]) (st' := []) (by decide +kernel) rfl (by decide +kernel) (Nat.ble_eq_true_of_le (by omega)) (m271 a D0 pa HS HT HE h I hP (by omega) (by omega)) ?_
  rintro x h1 ⟨Ih1, Qh1, f2, ⟨rfl, f3⟩ | ⟨rfl, f4⟩⟩
  · have Rh1 : zMR msP h h1 := R.tr Qh1 (by decide +kernel)
    have zf2 := f2; unfold zP0 at zf2
    have Sh1 := f3.k Qh1
    refine zwif_ne (q := 10) (nx := 8) (by decide +kernel) (fun c5 => ?_) (fun c5 => ?_)
    · have L6 : ∀ (n : Nat) (hL6 : Hp), n = (fld hL6 37 41 - fld hL6 37 42).toNat → (zPS h hL6) → (zP0 hL6) → zI hL6 → zMR msP h hL6 → zwW sc (D0 + 24) 249 10 [(2, 37), (0, a)] [] hL6 (zwRt 0 (zPQ h)) := by
        intro n
        induction n using Nat.strongRecOn with
        | ind n IHL6 =>
          intro hL6 hnL6 iL6_0 iL6_1 IhL6 RhL6
          have ShL6 := iL6_0.k RhL6
          have yhL6 := iL6_1; unfold zP0 at yhL6
          refine zwW_p [(1, 0, 2), (0, -32, 2)] (q := 14) (ls' := [(2, 37), (0, a)]) (st' := [(2, -32), (2, 37)]) (by decide +kernel) rfl ?_
          refine zwW_cm IhL6 (op := 60) (k' := 246) (n := 1) (kd := 13) (m := 97) (nx := 17) (r := 37) (tl := [(2, -32)]) (st' := []) (by decide +kernel) rfl (by decide +kernel) (Nat.ble_eq_true_of_le (by omega)) (m246 hL6 IhL6 (-32) (by omega) iL6_1) ?_
          rintro x _ ⟨rfl, ⟨rfl, c7⟩ | ⟨rfl, c7⟩⟩
          · refine zwif_eq (q := 45) (nx := 20) (by decide +kernel) (fun c8 => ?_) (fun c8 => ?_)
            · exfalso; omega
            · refine zwW_p [(1, 0, 2)] (q := 21) (ls' := [(2, 37), (0, a)]) (st' := [(2, 37)]) (by decide +kernel) rfl ?_
              refine zwW_cmv IhL6 (op := 60) (k' := 268) (n := 0) (kd := 13) (m := 97) (nx := 24) (r := 37) (tl := []) (st' := []) (by decide +kernel) rfl (by decide +kernel) (Nat.ble_eq_true_of_le (by omega)) (m268 hL6 IhL6 iL6_1) ?_
              rintro h11 ⟨Ih11, Qh11, f9, f10⟩
              have Rh11 : zMR msP h h11 := RhL6.tr Qh11 (by decide +kernel)
              have zf10 := f10; unfold zP0 at zf10
              have Kh11 := Qh11.kp (by decide +kernel)
              have N21 : zNu hL6 h11 := zNu.mr IhL6 (by omega) Qh11 (by decide +kernel) (Qh11.f1 44 (by decide +kernel)) (by omega)
              refine zwW_p [(1, 0, 2), (1, 1, 0)] (q := 26) (ls' := [(2, 37), (0, a)]) (st' := [(0, a), (2, 37)]) (by decide +kernel) rfl ?_
              refine zwW_cm Ih11 (op := 60) (k' := 271) (n := 1) (kd := 13) (m := 97) (nx := 29) (r := 37) (tl := [(0, a)]) (st' := []) (by decide +kernel) rfl (by decide +kernel) (Nat.ble_eq_true_of_le (by omega)) (m271 a D0 pa HS HT HE h11 Ih11 f10 (by omega) (by omega)) ?_
              rintro x h12 ⟨Ih12, Qh12, f13, ⟨rfl, f14⟩ | ⟨rfl, f15⟩⟩
              · have Rh12 : zMR msP h h12 := Rh11.tr Qh12 (by decide +kernel)
                have zf13 := f13; unfold zP0 at zf13
                have Sh12 := f14.k Qh12
                have W26 := f14
                refine zwif_ne (q := 34) (nx := 32) (by decide +kernel) (fun c16 => ?_) (fun c16 => ?_)
                · refine zwW_p [(1, 0, 2), (0, 124, 0), (0, 0, 0)] (q := 38) (ls' := [(2, 37), (0, a)]) (st' := [(0, 0), (0, 124), (2, 37)]) (by decide +kernel) rfl ?_
                  refine zwW_cm Ih12 (op := 60) (k' := 270) (n := 2) (kd := 13) (m := 97) (nx := 41) (r := 37) (tl := [(0, 124), (0, 0)]) (st' := []) (by decide +kernel) rfl (by decide +kernel) (Nat.ble_eq_true_of_le (by omega)) (m270 h12 Ih12 124 0 (by omega) (by omega) (by omega) (by omega)) ?_
                  rintro x h20 ⟨Ih20, Qh20, rfl, f17, f18, f19⟩
                  have Rh20 : zMR msP h h20 := Rh12.tr Qh20 (by decide +kernel)
                  have Ph20 := f13.mr Qh20 (by decide +kernel)
                  have zPh20 := Ph20; unfold zP0 at zPh20
                  have Z38 : zPS h h20 := zPS_bin (by omega) (by omega) iL6_0 N21 (by omega) W26 (by omega) (zPu.of Qh20 f17 f18 f19) (by omega)
                  have Sh20 := Z38.k Rh20
                  have Th20 := Qh20.f1 42 (by decide +kernel)
                  refine zwW_p [(15, 0, 0), (24, 10, 0)] (q := 10) (ls' := [(2, 37), (0, a)]) (st' := []) (by decide +kernel) rfl ?_
                  exact IHL6 (fld h20 37 41 - fld h20 37 42).toNat (by omega) h20 rfl (Z38) (Ph20) Ih20 Rh20
                · exfalso; omega
              · have Rh12 : zMR msP h h12 := Rh11.tr Qh12 (by decide +kernel)
                have zf13 := f13; unfold zP0 at zf13
                refine zwif_ne (q := 34) (nx := 32) (by decide +kernel) (fun c21 => ?_) (fun c21 => ?_)
                · exfalso; omega
                · refine zwW_p [(0, 0, 0)] (q := 33) (ls' := [(2, 37), (0, a)]) (st' := [(0, 0)]) (by decide +kernel) rfl ?_
                  refine zwW_ret (nx := 34) (a := 1) (b := 0) (by decide +kernel) rfl (Or.inr (Or.inl ⟨rfl, Or.inl rfl⟩)) ?_
                  exact ⟨Ih12, Rh12, by exact f13, Or.inr ⟨rfl, by omega⟩⟩
          · refine zwif_eq (q := 45) (nx := 20) (by decide +kernel) (fun c22 => ?_) (fun c22 => ?_)
            · have Z := iL6_0
              refine zwW_p [(0, 1, 0)] (q := 46) (ls' := [(2, 37), (0, a)]) (st' := [(0, 1)]) (by decide +kernel) rfl ?_
              refine zwW_ret (nx := 47) (a := 1) (b := 0) (by decide +kernel) rfl (Or.inr (Or.inl ⟨rfl, Or.inr rfl⟩)) ?_
              exact ⟨IhL6, RhL6, by exact iL6_1, Or.inl ⟨rfl, by exact Z⟩⟩
            · exfalso; omega
      exact L6 _ h1 rfl (f3) (f2) Ih1 Rh1
    · exfalso; omega
  · have Rh1 : zMR msP h h1 := R.tr Qh1 (by decide +kernel)
    have zf2 := f2; unfold zP0 at zf2
    refine zwif_ne (q := 10) (nx := 8) (by decide +kernel) (fun c23 => ?_) (fun c23 => ?_)
    · exfalso; omega
    · refine zwW_p [(0, 0, 0)] (q := 9) (ls' := [(2, 37), (0, a)]) (st' := [(0, 0)]) (by decide +kernel) rfl ?_
      refine zwW_ret (nx := 10) (a := 1) (b := 0) (by decide +kernel) rfl (Or.inr (Or.inl ⟨rfl, Or.inl rfl⟩)) ?_
      exact ⟨Ih1, Rh1, by exact f2, Or.inr ⟨rfl, by omega⟩⟩
end
section
/-! the grammar of the model, all depths -/
section ZG
theorem zPX.up {sc : List Int} {D D' y : Nat} {a : Int} (hD : D ≤ D') (H : zPX sc D y a) : zPX sc D' y a := fun h I hP pc pk => zwC_up hD (H h I hP pc pk)
theorem zgram (sc : List Int) : ∀ (n : Nat) (a : Int), n ≤ 8 → a = 8 - (n : Int) → zPX sc (25 * n + 22) 248 a ∧ zPX sc (25 * n + 23) 286 a ∧ zPX sc (25 * n + 25) 249 a
  | 0, a, _, ha => by
    have ha : a = 8 := by omega
    subst ha
    exact ⟨m248 8 0 (by omega) (fun h => by omega), m286 8 0 (by omega) (fun h => by omega) (fun h => by omega) (fun h => by omega), m249 8 0 (by omega) (fun h => by omega) (fun h => by omega) (fun h => by omega)⟩
  | n + 1, a, hn, ha => by
    obtain ⟨k1, k2, k3⟩ := zgram sc n (a + 1) (by omega) (by omega)
    have q1 := zPX.up (show 25 * n + 22 ≤ 25 * (n + 1) by omega) k1
    have q2 := zPX.up (show 25 * n + 23 ≤ 25 * (n + 1) by omega) k2
    have q3 := zPX.up (show 25 * n + 25 ≤ 25 * (n + 1) by omega) k3
    exact ⟨m248 a (25 * (n + 1)) (by omega) (fun _ => q1), m286 a (25 * (n + 1)) (by omega) (fun _ => q1) (fun _ => q2) (fun _ => q3), m249 a (25 * (n + 1)) (by omega) (fun _ => q1) (fun _ => q2) (fun _ => q3)⟩
theorem zg_sum (sc : List Int) : zPX sc 230 248 0 := zPX.up (by decide) (zgram sc 8 0 (by decide) (by decide)).1
theorem zg_either (sc : List Int) : zPX sc 230 249 0 := zPX.up (by decide) (zgram sc 8 0 (by decide) (by decide)).2.2
/-- the codes of the clauses that were read -/
def zRD (h : Hp) : Prop := ∀ c : Nat, c < 5 → 0 < fld h 163 c → zok (fld h (149 + (c : Int))) (fld h 163 c).toNat
theorem zRD.mr {h g : Hp} {ms : Zms} (H : zRD h) (R : zMR ms h g) (e : (zqN ms 163 163 0 5 && ms.all (fun q => Nat.blt q.2.1 149 || Nat.blt 153 q.1)) = true) : zRD g := by
  rw [Bool.and_eq_true] at e
  intro c hc hp
  rw [R.f e.1 (r := 163) (j := c) (by first | decide | exact ⟨by decide, by decide⟩) ⟨by omega, by omega⟩] at hp ⊢
  have q : fld g (149 + (c : Int)) = fld h (149 + (c : Int)) := by
    refine funext (fun j => R.2.2.2 _ j (fun f hf hz => ?_))
    have e := List.all_eq_true.mp e.2 f hf
    rw [Bool.or_eq_true] at e
    rcases e with e | e
    · have := Nat.le_of_ble_eq_true e
      omega
    · have := Nat.le_of_ble_eq_true e
      omega
  rw [q]
  exact H c hc hp
/-- one more clause -/
theorem zRD.put {h h1 h2 g : Hp} {c k : Int} (H : zRD h) (hc : 0 ≤ c ∧ c ≤ 4) (e0 : fld h1 37 45 = 0) (e1 : fld h1 37 47 = c) (er : ∀ r : Int, 149 ≤ r → r ≤ 153 → fld h1 r = fld h r) (el : fld h2 163 = fld h 163) (S : zPS h1 h2) (hk : fld h2 37 45 = k) (e : g = wr h2 163 c.toNat k) (hs : sh h2 163 = some (20, 5)) : zRD g := by
  obtain ⟨b1, b2, b3, b4, b5, b6⟩ := S
  rw [e1] at b4 b6
  rw [e0, hk] at b4
  intro j hj hp
  have er2 : fld g (149 + (j : Int)) = fld h2 (149 + (j : Int)) := funext (fun i => by rw [e]; exact fld_wr (Or.inl (by omega)))
  rw [er2]
  by_cases hq : (j : Int) = c
  · have hj2 : j = c.toNat := by omega
    have e9 : fld g 163 j = k := by rw [e, hj2]; exact fld_wr_eq hs (by omega)
    rw [e9, hq]
    exact zsg_ok b4
  · have e9 : fld g 163 j = fld h 163 j := by rw [e, fld_wr (Or.inr (by omega)), el]
    rw [e9] at hp ⊢
    rw [b6 _ (by omega) (by omega) (by omega), er _ (by omega) (by omega)]
    exact H j hj hp
end ZG
section ZH
variable {h h1 g hr : Hp}
theorem zMR.one {r : Int} {j : Nat} {x : Int} {a1 a2 j1 j2 : Nat} (k1 : (a1 : Int) ≤ r ∧ r ≤ (a2 : Int)) (k2 : j1 ≤ j ∧ j < j2) (e : g = wr h r j x) : zMR [(a1, a2, j1, j2)] h g :=
  (zMR.rf _ _).w (a1 := a1) (a2 := a2) (j1 := j1) (j2 := j2) (by unfold zqM; simp) k1 k2 e
/-- sheets: all rows but those of sheet s are as they were at hr -/
def zSH (hr h : Hp) (s : Int) : Prop := ∀ r : Int, 101 ≤ r → r ≤ 163 → r ≠ 155 + s → ¬ (101 + 6 * s ≤ r ∧ r ≤ 105 + 6 * s) → fld h r = fld hr r
theorem zSH.w {s r x : Int} {j : Nat} (H : zSH hr h s) (e : g = wr h r j x) (hq : r = 155 + s ∨ (101 + 6 * s ≤ r ∧ r ≤ 105 + 6 * s) ∨ r = 37) : zSH hr g s := by
  intro q k1 k2 k3 k4
  rw [← H q k1 k2 k3 k4]
  funext i
  rw [e]
  refine fld_wr (Or.inl ?_)
  intro hz
  subst hz
  omega
/-- row c of sheet s: the first n are those that were read -/
def zSC (hr h : Hp) (s c n : Int) : Prop := ∀ i : Nat, (i : Int) < n → fld h (101 + 6 * s + c) i = fld hr (149 + c) i
def zSA (hr h : Hp) (s c : Int) : Prop := ∀ q : Nat, (q : Int) < c → fld h (155 + s) q = fld hr 163 q ∧ zSC hr h s q (2 * fld hr 163 q)
theorem zSA.w {s c r x : Int} {j : Nat} (H : zSA hr h s c) (e : g = wr h r j x) (hq : (r = 155 + s ∧ (j : Int) = c) ∨ r = 101 + 6 * s + c ∨ r = 37) (hs : 0 ≤ s ∧ s ≤ 7) (hc : 0 ≤ c ∧ c ≤ 5) : zSA hr g s c := by
  intro q k1
  obtain ⟨a1, a2⟩ := H q k1
  refine ⟨?_, fun i hi => ?_⟩
  · rw [e, fld_wr (by omega)]
    exact a1
  · rw [e, fld_wr (by omega)]
    exact a2 i hi
theorem zSC.w {s c r x : Int} {j : Nat} {n : Int} (H : zSC hr h s c n) (e : g = wr h r j x) (hq : r ≠ 101 + 6 * s + c) : zSC hr g s c n := fun i hi => by
  rw [e, fld_wr (Or.inl (Ne.symm hq))]
  exact H i hi
theorem zSC.s {s c x : Int} {j : Nat} {n : Int} (H : zSC hr h s c n) (e : g = wr h (101 + 6 * s + c) j x) (hn : (j : Int) = n) (hx : x = fld hr (149 + c) j) (hs : sh h (101 + 6 * s + c) = some (20, 840)) (hj : j < 840) : zSC hr g s c (n + 1) := by
  intro i hi
  rw [e]
  by_cases hq : i = j
  · rw [hq, fld_wr_eq hs hj, hx]
  · rw [fld_wr (Or.inr hq)]
    exact H i (by omega)
theorem zSA.s {s c : Int} (H : zSA hr h s c) (hc : 0 ≤ c) (hl : fld h (155 + s) c.toNat = fld hr 163 c.toNat) (S : zSC hr h s c (2 * fld hr 163 c.toNat)) : zSA hr h s (c + 1) := by
  intro q k1
  by_cases hq : (q : Int) < c
  · exact H q hq
  · have e1 : (q : Int) = c := by omega
    have e2 : q = c.toNat := by omega
    rw [e1, e2]
    exact ⟨hl, S⟩
/-- a sheet more -/
theorem zCW.sh {s : Int} (H : zCW hr) (RD : zRD hr) (I : zI hr) (S : zSH hr h s) (A : zSA hr h s 5) (hs : 0 ≤ s ∧ s ≤ 7) (e0 : fld hr 37 52 = s) (e1 : fld h 37 52 = s) (e2 : fld h 37 53 = fld hr 37 53) (e3 : fld h 164 = fld hr 164) (e : g = wr h 37 52 (s + 1)) (hsh : sh h 37 = some (13, 97)) : zCW g := by
  have f1 : fld g 37 52 = s + 1 := by rw [e]; exact fld_wr_eq hsh (by decide)
  have fo : ∀ (r : Int) (j : Nat), r ≠ 37 → fld g r j = fld h r j := fun r j hr => by rw [e]; exact fld_wr (Or.inl hr)
  have f2 : fld g 37 53 = fld hr 37 53 := by rw [e, fld_wr (Or.inr (by decide))]; exact e2
  refine ⟨fun q c hq hc hp => ?_, fun k hk => ?_⟩
  · rw [f1] at hq
    have w : fld g (101 + 6 * (q : Int) + (c : Int)) = fld h (101 + 6 * (q : Int) + (c : Int)) := funext (fun j => fo _ j (by omega))
    rw [w]
    rw [fo _ c (by omega)] at hp ⊢
    by_cases hqs : (q : Int) = s
    · rw [hqs] at hp ⊢
      obtain ⟨a1, a2⟩ := A c (by omega)
      rw [a1] at hp ⊢
      refine zok_c (RD c hc hp) (fun j hj => ?_)
      exact (a2 j (by omega)).symm
    · have z1 := S (155 + (q : Int)) (by omega) (by omega) (by omega) (by omega)
      have z2 := S (101 + 6 * (q : Int) + (c : Int)) (by omega) (by omega) (by omega) (by omega)
      rw [z1] at hp ⊢
      rw [z2]
      exact H.1 q c (by omega) hc hp
  · rw [f2] at hk
    rw [f1, fo _ k (by decide), e3]
    have := H.2 k hk
    omega
end ZH
end
section
/-! contracts of methods -/
def ms201 : Zms := [(37, 37, 42, 47), (37, 37, 47, 48), (149, 153, 0, 840), (163, 163, 0, 5)]
-- WheelLandModel.clauses()Z
theorem m201 {sc : List Int} (h : Hp) (I : zI h) (hP : zP0 h) (hR : zRD h) (pa : fld h 37 42 < fld h 37 41) (pf : fld h 37 44 = -1) : zwC sc 231 201 [(2, 37)] h (zwRt 0 (fun x g => zI g ∧ zMR ms201 h g ∧ (zP0 g) ∧ ((x = 1 ∧ (zRD g) ∧ (fld g 37 44 = -1) ∧ (fld h 37 42 < fld g 37 42)) ∨ (x = 0 ∧ (0 ≤ fld g 37 44))))) := by
  refine zwC_of (D := 230) 2 (by decide +kernel) rfl (ls := [(2, 37), (9, 0)]) rfl ?_
  have R : zMR ms201 h h := zMR.rf _ _
  have hP0 := hP
  unfold zP0 at hP0
  refine zwW_p [(1, 0, 2), (0, -1, 0)] (q := 2) (ls' := [(2, 37), (9, 0)]) (st' := [(0, -1), (2, 37)]) (by decide +kernel) rfl ?_
  refine zwW_ps I (kd := 13) (bn := 47) (n := 97) (lo := -1) (hi := 4) (nx := 5) (by decide +kernel) (by first | decide | exact ⟨by decide, by decide⟩) ?_
  intro h1 eh1 Ih1
  have th1_37_41 : fld h1 37 41 = fld h 37 41 := by rw [eh1]; exact fld_wr (by decide)
  have th1_37_42 : fld h1 37 42 = fld h 37 42 := by rw [eh1]; exact fld_wr (by decide)
  have th1_37_43 : fld h1 37 43 = fld h 37 43 := by rw [eh1]; exact fld_wr (by decide)
  have th1_37_44 : fld h1 37 44 = fld h 37 44 := by rw [eh1]; exact fld_wr (by decide)
  have th1_37_45 : fld h1 37 45 = fld h 37 45 := by rw [eh1]; exact fld_wr (by decide)
  have th1_37_47 : fld h1 37 47 = -1 := by rw [eh1]; exact fld_wr_eq (I.s (a1 := 37) (a2 := 37) (k := 13) (n := 97) (by decide +kernel) (by decide) (by decide)) (by decide)
  have Oh1 : zMR [(37, 37, 47, 48)] h h1 := zMR.one (by first | decide | exact ⟨by decide, by decide⟩) (by first | decide | exact ⟨by decide, by decide⟩) eh1
  have Ph1 := hP.mr Oh1 (by decide +kernel)
  have zPh1 := Ph1; unfold zP0 at zPh1
  have RDh1 := hR.mr Oh1 (by decide +kernel)
  have Rh1 : zMR ms201 h h1 := R.w (a1 := 37) (a2 := 37) (j1 := 47) (j2 := 48) (by decide +kernel) (by first | decide | exact ⟨by decide, by decide⟩) (by first | decide | exact ⟨by decide, by decide⟩) eh1
  refine zwW_p [(0, 0, 0), (2, 1, 0)] (q := 7) (ls' := [(2, 37), (0, 0)]) (st' := []) (by decide +kernel) rfl ?_
  have L2 : ∀ (n : Nat) (kL2 : Int) (hL2 : Hp), n = ((1000 - kL2)).toNat → (0 ≤ kL2 ∧ kL2 ≤ 5) → (zP0 hL2) → (zRD hL2) → (fld hL2 37 41 = fld h 37 41 ∧ fld hL2 37 42 = fld h 37 42 ∧ fld hL2 37 43 = fld h 37 43 ∧ fld hL2 37 44 = fld h 37 44) → zI hL2 → zMR ms201 h hL2 → zwW sc (230) 201 7 [(2, 37), (0, kL2)] [] hL2 (zwRt 0 (fun x g => zI g ∧ zMR ms201 h g ∧ (zP0 g) ∧ ((x = 1 ∧ (zRD g) ∧ (fld g 37 44 = -1) ∧ (fld h 37 42 < fld g 37 42)) ∨ (x = 0 ∧ (0 ≤ fld g 37 44))))) := by
    intro n
    induction n using Nat.strongRecOn with
    | ind n IHL2 =>
      intro kL2 hL2 hnL2 iL2_0 iL2_1 iL2_2 iL2_3 IhL2 RhL2
      refine zwW_p [(1, 1, 0), (0, 5, 0)] (q := 9) (ls' := [(2, 37), (0, kL2)]) (st' := [(0, 5), (0, kL2)]) (by decide +kernel) rfl ?_
      refine zwic_ge (q := 36) (nx := 12) (by decide +kernel) (fun c3 => ?_) (fun c3 => ?_)
      · refine zwW_p [(1, 0, 2), (1, 0, 2)] (q := 38) (ls' := [(2, 37), (0, kL2)]) (st' := [(2, 37), (2, 37)]) (by decide +kernel) rfl ?_
        refine zwW_gs IhL2 (kd := 13) (bn := 47) (n := 97) (t := 0) (lo := -1) (hi := 4) (nx := 41) (by decide +kernel) ?_
        intro v4 ev4 lv4 uv4
        refine zwW_p [(0, -1, 0)] (q := 42) (ls' := [(2, 37), (0, kL2)]) (st' := [(0, -1), (0, v4), (2, 37)]) (by decide +kernel) rfl ?_
        refine zwic_eq (q := 64) (nx := 45) (by decide +kernel) (fun c5 => ?_) (fun c5 => ?_)
        · refine zwW_p [(0, 0, 0)] (q := 65) (ls' := [(2, 37), (0, kL2)]) (st' := [(0, 0), (2, 37)]) (by decide +kernel) rfl ?_
          refine zwW_cm IhL2 (op := 60) (k' := 247) (n := 1) (kd := 13) (m := 97) (nx := 68) (r := 37) (tl := [(0, 0)]) (st' := []) (by decide +kernel) rfl (by decide +kernel) rfl (m247 hL2 IhL2 0 iL2_1) ?_
          rintro x h6 ⟨Ih6, Qh6, ⟨rfl, f7, f8, f9, f10⟩ | ⟨rfl, f11, f12, f13⟩⟩
          · exfalso; omega
          · have Rh6 : zMR ms201 h h6 := RhL2.tr Qh6 (by decide +kernel)
            have zf12 := f12; unfold zP0 at zf12
            have RDh6 := iL2_2.mr Qh6 (by decide +kernel)
            have th6_37_41 : fld h6 37 41 = fld hL2 37 41 := Qh6.f (a1 := 37) (a2 := 37) (j1 := 41) (j2 := 42) (by decide +kernel) (by first | decide | exact ⟨by decide, by decide⟩) (by first | decide | exact ⟨by decide, by decide⟩)
            have th6_37_45 : fld h6 37 45 = fld hL2 37 45 := Qh6.f (a1 := 37) (a2 := 37) (j1 := 45) (j2 := 46) (by decide +kernel) (by first | decide | exact ⟨by decide, by decide⟩) (by first | decide | exact ⟨by decide, by decide⟩)
            have th6_37_47 : fld h6 37 47 = fld hL2 37 47 := Qh6.f (a1 := 37) (a2 := 37) (j1 := 47) (j2 := 48) (by decide +kernel) (by first | decide | exact ⟨by decide, by decide⟩) (by first | decide | exact ⟨by decide, by decide⟩)
            refine zwif_ne (q := 73) (nx := 71) (by decide +kernel) (fun c14 => ?_) (fun c14 => ?_)
            · exfalso; omega
            · refine zwW_p [(0, 0, 0)] (q := 72) (ls' := [(2, 37), (0, kL2)]) (st' := [(0, 0)]) (by decide +kernel) rfl ?_
              refine zwW_ret (nx := 73) (a := 1) (b := 0) (by decide +kernel) rfl (Or.inr (Or.inl ⟨rfl, Or.inl rfl⟩)) ?_
              exact ⟨Ih6, Rh6, by exact f12, Or.inr ⟨rfl, by omega⟩⟩
        · refine zwW_p [(1, 0, 2)] (q := 46) (ls' := [(2, 37), (0, kL2)]) (st' := [(2, 37), (2, 37)]) (by decide +kernel) rfl ?_
          refine zwW_gc IhL2 (kd := 13) (bn := 49) (n := 97) (c := 154) (nx := 49) (by decide +kernel) ?_
          refine zwW_p [(0, 8, 0)] (q := 51) (ls' := [(2, 37), (0, kL2)]) (st' := [(0, 8), (2, 154), (2, 37)]) (by decide +kernel) rfl ?_
          refine zwW_ro IhL2 (a := 154) (n := 9) (kd := 26) (base := 155) (step := 1) (nx := 52) (by decide +kernel) rfl (by first | decide | exact ⟨by decide, by decide⟩) ?_
          rw [show ((155 : Nat) : Int) + ((1 : Nat) : Int) * 8 = 163 from rfl]
          refine zwW_p [(1, 0, 2)] (q := 53) (ls' := [(2, 37), (0, kL2)]) (st' := [(2, 37), (2, 163), (2, 37)]) (by decide +kernel) rfl ?_
          refine zwW_gs IhL2 (kd := 13) (bn := 47) (n := 97) (t := 0) (lo := -1) (hi := 4) (nx := 56) (by decide +kernel) ?_
          intro v15 ev15 lv15 uv15
          refine zwW_al IhL2 (a1 := 155) (a2 := 163) (kd := 20) (n := 5) (t := 0) (lo := 0) (hi := 400) (nx := 57) (by decide +kernel) (by first | decide | exact ⟨by decide, by decide⟩) (by first | omega | exact ⟨by omega, by omega⟩) ?_
          intro v16 ev16 lv16 uv16
          refine zwif_ne (q := 64) (nx := 60) (by decide +kernel) (fun c17 => ?_) (fun c17 => ?_)
          · refine zwW_p [(0, 0, 0)] (q := 65) (ls' := [(2, 37), (0, kL2)]) (st' := [(0, 0), (2, 37)]) (by decide +kernel) rfl ?_
            refine zwW_cm IhL2 (op := 60) (k' := 247) (n := 1) (kd := 13) (m := 97) (nx := 68) (r := 37) (tl := [(0, 0)]) (st' := []) (by decide +kernel) rfl (by decide +kernel) rfl (m247 hL2 IhL2 0 iL2_1) ?_
            rintro x h18 ⟨Ih18, Qh18, ⟨rfl, f19, f20, f21, f22⟩ | ⟨rfl, f23, f24, f25⟩⟩
            · exfalso; omega
            · have Rh18 : zMR ms201 h h18 := RhL2.tr Qh18 (by decide +kernel)
              have zf24 := f24; unfold zP0 at zf24
              have RDh18 := iL2_2.mr Qh18 (by decide +kernel)
              have th18_37_41 : fld h18 37 41 = fld hL2 37 41 := Qh18.f (a1 := 37) (a2 := 37) (j1 := 41) (j2 := 42) (by decide +kernel) (by first | decide | exact ⟨by decide, by decide⟩) (by first | decide | exact ⟨by decide, by decide⟩)
              have th18_37_45 : fld h18 37 45 = fld hL2 37 45 := Qh18.f (a1 := 37) (a2 := 37) (j1 := 45) (j2 := 46) (by decide +kernel) (by first | decide | exact ⟨by decide, by decide⟩) (by first | decide | exact ⟨by decide, by decide⟩)
              have th18_37_47 : fld h18 37 47 = fld hL2 37 47 := Qh18.f (a1 := 37) (a2 := 37) (j1 := 47) (j2 := 48) (by decide +kernel) (by first | decide | exact ⟨by decide, by decide⟩) (by first | decide | exact ⟨by decide, by decide⟩)
              refine zwif_ne (q := 73) (nx := 71) (by decide +kernel) (fun c26 => ?_) (fun c26 => ?_)
              · exfalso; omega
              · refine zwW_p [(0, 0, 0)] (q := 72) (ls' := [(2, 37), (0, kL2)]) (st' := [(0, 0)]) (by decide +kernel) rfl ?_
                refine zwW_ret (nx := 73) (a := 1) (b := 0) (by decide +kernel) rfl (Or.inr (Or.inl ⟨rfl, Or.inl rfl⟩)) ?_
                exact ⟨Ih18, Rh18, by exact f24, Or.inr ⟨rfl, by omega⟩⟩
          · refine zwW_p [(0, 1, 0), (24, 65, 0)] (q := 65) (ls' := [(2, 37), (0, kL2)]) (st' := [(0, 1), (2, 37)]) (by decide +kernel) rfl ?_
            refine zwW_cm IhL2 (op := 60) (k' := 247) (n := 1) (kd := 13) (m := 97) (nx := 68) (r := 37) (tl := [(0, 1)]) (st' := []) (by decide +kernel) rfl (by decide +kernel) rfl (m247 hL2 IhL2 1 iL2_1) ?_
            rintro x h27 ⟨Ih27, Qh27, ⟨rfl, f28, f29, f30, f31⟩ | ⟨rfl, f32, f33, f34⟩⟩
            · have Rh27 : zMR ms201 h h27 := RhL2.tr Qh27 (by decide +kernel)
              have zf29 := f29; unfold zP0 at zf29
              have RDh27 := iL2_2.mr Qh27 (by decide +kernel)
              have th27_37_41 : fld h27 37 41 = fld hL2 37 41 := Qh27.f (a1 := 37) (a2 := 37) (j1 := 41) (j2 := 42) (by decide +kernel) (by first | decide | exact ⟨by decide, by decide⟩) (by first | decide | exact ⟨by decide, by decide⟩)
              have th27_37_45 : fld h27 37 45 = fld hL2 37 45 := Qh27.f (a1 := 37) (a2 := 37) (j1 := 45) (j2 := 46) (by decide +kernel) (by first | decide | exact ⟨by decide, by decide⟩) (by first | decide | exact ⟨by decide, by decide⟩)
              have th27_37_47 : fld h27 37 47 = fld hL2 37 47 := Qh27.f (a1 := 37) (a2 := 37) (j1 := 47) (j2 := 48) (by decide +kernel) (by first | decide | exact ⟨by decide, by decide⟩) (by first | decide | exact ⟨by decide, by decide⟩)
              refine zwif_ne (q := 73) (nx := 71) (by decide +kernel) (fun c35 => ?_) (fun c35 => ?_)
              · refine zwW_p [(1, 0, 2), (0, 0, 0)] (q := 75) (ls' := [(2, 37), (0, kL2)]) (st' := [(0, 0), (2, 37)]) (by decide +kernel) rfl ?_
                refine zwW_ps Ih27 (kd := 13) (bn := 45) (n := 97) (lo := 0) (hi := 400) (nx := 78) (by decide +kernel) (by first | decide | exact ⟨by decide, by decide⟩) ?_
                intro h36 eh36 Ih36
                have th36_37_41 : fld h36 37 41 = fld h27 37 41 := by rw [eh36]; exact fld_wr (by decide)
                have th36_37_42 : fld h36 37 42 = fld h27 37 42 := by rw [eh36]; exact fld_wr (by decide)
                have th36_37_43 : fld h36 37 43 = fld h27 37 43 := by rw [eh36]; exact fld_wr (by decide)
                have th36_37_44 : fld h36 37 44 = fld h27 37 44 := by rw [eh36]; exact fld_wr (by decide)
                have th36_37_45 : fld h36 37 45 = 0 := by rw [eh36]; exact fld_wr_eq (Ih27.s (a1 := 37) (a2 := 37) (k := 13) (n := 97) (by decide +kernel) (by decide) (by decide)) (by decide)
                have th36_37_47 : fld h36 37 47 = fld h27 37 47 := by rw [eh36]; exact fld_wr (by decide)
                have Oh36 : zMR [(37, 37, 45, 46)] h27 h36 := zMR.one (by first | decide | exact ⟨by decide, by decide⟩) (by first | decide | exact ⟨by decide, by decide⟩) eh36
                have Ph36 := f29.mr Oh36 (by decide +kernel)
                have zPh36 := Ph36; unfold zP0 at zPh36
                have RDh36 := RDh27.mr Oh36 (by decide +kernel)
                have Rh36 : zMR ms201 h h36 := Rh27.w (a1 := 37) (a2 := 37) (j1 := 45) (j2 := 46) (by decide +kernel) (by first | decide | exact ⟨by decide, by decide⟩) (by first | decide | exact ⟨by decide, by decide⟩) eh36
                refine zwW_p [(1, 0, 2)] (q := 79) (ls' := [(2, 37), (0, kL2)]) (st' := [(2, 37)]) (by decide +kernel) rfl ?_
                refine zwW_gs Ih36 (kd := 13) (bn := 47) (n := 97) (t := 0) (lo := -1) (hi := 4) (nx := 82) (by decide +kernel) ?_
                intro v37 ev37 lv37 uv37
                refine zwW_p [(0, 3, 0)] (q := 83) (ls' := [(2, 37), (0, kL2)]) (st' := [(0, 3), (0, v37)]) (by decide +kernel) rfl ?_
                refine zwic_ge (q := 97) (nx := 86) (by decide +kernel) (fun c38 => ?_) (fun c38 => ?_)
                · refine zwW_p [(1, 0, 2), (0, 0, 0)] (q := 99) (ls' := [(2, 37), (0, kL2)]) (st' := [(0, 0), (2, 37)]) (by decide +kernel) rfl ?_
                  have RD4 := RDh36
                  have b42 := Ih36.b (a1 := 37) (a2 := 37) (j1 := 42) (j2 := 43) (lo := 0) (hi := 400) (by decide +kernel) (r := 37) (j := 42) (by decide) (by decide) (by decide) (by decide)
                  refine zwW_cm Ih36 (op := 60) (k' := 249) (n := 1) (kd := 13) (m := 97) (nx := 102) (r := 37) (tl := [(0, 0)]) (st' := []) (by decide +kernel) rfl (by decide +kernel) rfl (zg_either sc h36 Ih36 Ph36 (by omega) (by omega)) ?_
                  rintro x h39 ⟨Ih39, Qh39, f40, ⟨rfl, f41⟩ | ⟨rfl, f42⟩⟩
                  · have Rh39 : zMR ms201 h h39 := Rh36.tr Qh39 (by decide +kernel)
                    have zf40 := f40; unfold zP0 at zf40
                    have th39_37_41 : fld h39 37 41 = fld h36 37 41 := Qh39.f (a1 := 37) (a2 := 37) (j1 := 41) (j2 := 42) (by decide +kernel) (by first | decide | exact ⟨by decide, by decide⟩) (by first | decide | exact ⟨by decide, by decide⟩)
                    have th39_37_47 : fld h39 37 47 = fld h36 37 47 := Qh39.f (a1 := 37) (a2 := 37) (j1 := 47) (j2 := 48) (by decide +kernel) (by first | decide | exact ⟨by decide, by decide⟩) (by first | decide | exact ⟨by decide, by decide⟩)
                    have S88 := f41
                    have K88 := f41.k Qh39
                    have F88 : fld h39 163 = fld h36 163 := Qh39.fa (a := 163) (by decide +kernel) rfl
                    refine zwif_ne (q := 107) (nx := 105) (by decide +kernel) (fun c43 => ?_) (fun c43 => ?_)
                    · refine zwW_p [(1, 0, 2)] (q := 108) (ls' := [(2, 37), (0, kL2)]) (st' := [(2, 37)]) (by decide +kernel) rfl ?_
                      refine zwW_gc Ih39 (kd := 13) (bn := 49) (n := 97) (c := 154) (nx := 111) (by decide +kernel) ?_
                      refine zwW_p [(0, 8, 0)] (q := 113) (ls' := [(2, 37), (0, kL2)]) (st' := [(0, 8), (2, 154)]) (by decide +kernel) rfl ?_
                      refine zwW_ro Ih39 (a := 154) (n := 9) (kd := 26) (base := 155) (step := 1) (nx := 114) (by decide +kernel) rfl (by first | decide | exact ⟨by decide, by decide⟩) ?_
                      rw [show ((155 : Nat) : Int) + ((1 : Nat) : Int) * 8 = 163 from rfl]
                      refine zwW_p [(1, 0, 2)] (q := 115) (ls' := [(2, 37), (0, kL2)]) (st' := [(2, 37), (2, 163)]) (by decide +kernel) rfl ?_
                      refine zwW_gs Ih39 (kd := 13) (bn := 47) (n := 97) (t := 0) (lo := -1) (hi := 4) (nx := 118) (by decide +kernel) ?_
                      intro v44 ev44 lv44 uv44
                      refine zwW_p [(1, 0, 2)] (q := 119) (ls' := [(2, 37), (0, kL2)]) (st' := [(2, 37), (0, v44), (2, 163)]) (by decide +kernel) rfl ?_
                      refine zwW_gs Ih39 (kd := 13) (bn := 45) (n := 97) (t := 0) (lo := 0) (hi := 400) (nx := 122) (by decide +kernel) ?_
                      intro v45 ev45 lv45 uv45
                      refine zwW_as Ih39 (a1 := 155) (a2 := 163) (n := 5) (lo := 0) (hi := 400) (nx := 123) (by decide +kernel) (by first | decide | exact ⟨by decide, by decide⟩) (by first | omega | exact ⟨by omega, by omega⟩) (by first | omega | exact ⟨by omega, by omega⟩) ?_
                      intro h46 eh46 Ih46
                      have th46_37_41 : fld h46 37 41 = fld h39 37 41 := by rw [eh46]; exact fld_wr (by omega)
                      have th46_37_42 : fld h46 37 42 = fld h39 37 42 := by rw [eh46]; exact fld_wr (by omega)
                      have th46_37_43 : fld h46 37 43 = fld h39 37 43 := by rw [eh46]; exact fld_wr (by omega)
                      have th46_37_44 : fld h46 37 44 = fld h39 37 44 := by rw [eh46]; exact fld_wr (by omega)
                      have th46_37_45 : fld h46 37 45 = fld h39 37 45 := by rw [eh46]; exact fld_wr (by omega)
                      have th46_37_47 : fld h46 37 47 = fld h39 37 47 := by rw [eh46]; exact fld_wr (by omega)
                      have Oh46 : zMR [(163, 163, 0, 5)] h39 h46 := zMR.one (by first | decide | exact ⟨by decide, by decide⟩) (by first | omega | exact ⟨by omega, by omega⟩) eh46
                      have Ph46 := f40.mr Oh46 (by decide +kernel)
                      have zPh46 := Ph46; unfold zP0 at zPh46
                      have RDh46 : zRD h46 := RD4.put (c := v44) (k := v45) (by omega) (by omega) (by omega) (fun _ _ _ => rfl) F88 S88 (by omega) eh46 (Ih39.s (a1 := 155) (a2 := 163) (by decide +kernel) (by decide) (by decide))
                      have Rh46 : zMR ms201 h h46 := Rh39.w (a1 := 163) (a2 := 163) (j1 := 0) (j2 := 5) (by decide +kernel) (by first | decide | exact ⟨by decide, by decide⟩) (by first | omega | exact ⟨by omega, by omega⟩) eh46
                      refine zwW_p [(1, 0, 2), (1, 0, 2), (0, 59, 0)] (q := 127) (ls' := [(2, 37), (0, kL2)]) (st' := [(0, 59), (2, 37), (2, 37)]) (by decide +kernel) rfl ?_
                      refine zwW_cm Ih46 (op := 60) (k' := 250) (n := 1) (kd := 13) (m := 97) (nx := 130) (r := 37) (tl := [(0, 59)]) (st' := [(2, 37)]) (by decide +kernel) rfl (by decide +kernel) rfl (m250 h46 Ih46 59) ?_
                      rintro x _ ⟨rfl, ⟨rfl, c47⟩ | ⟨rfl, c47⟩⟩
                      · refine zwW_cm Ih46 (op := 60) (k' := 247) (n := 1) (kd := 13) (m := 97) (nx := 133) (r := 37) (tl := [(0, 1)]) (st' := []) (by decide +kernel) rfl (by decide +kernel) rfl (m247 h46 Ih46 1 Ph46) ?_
                        rintro x h48 ⟨Ih48, Qh48, ⟨rfl, f49, f50, f51, f52⟩ | ⟨rfl, f53, f54, f55⟩⟩
                        · have Rh48 : zMR ms201 h h48 := Rh46.tr Qh48 (by decide +kernel)
                          have zf50 := f50; unfold zP0 at zf50
                          have RDh48 := RDh46.mr Qh48 (by decide +kernel)
                          have th48_37_41 : fld h48 37 41 = fld h46 37 41 := Qh48.f (a1 := 37) (a2 := 37) (j1 := 41) (j2 := 42) (by decide +kernel) (by first | decide | exact ⟨by decide, by decide⟩) (by first | decide | exact ⟨by decide, by decide⟩)
                          have th48_37_45 : fld h48 37 45 = fld h46 37 45 := Qh48.f (a1 := 37) (a2 := 37) (j1 := 45) (j2 := 46) (by decide +kernel) (by first | decide | exact ⟨by decide, by decide⟩) (by first | decide | exact ⟨by decide, by decide⟩)
                          have th48_37_47 : fld h48 37 47 = fld h46 37 47 := Qh48.f (a1 := 37) (a2 := 37) (j1 := 47) (j2 := 48) (by decide +kernel) (by first | decide | exact ⟨by decide, by decide⟩) (by first | decide | exact ⟨by decide, by decide⟩)
                          refine zwW_ret (nx := 134) (a := 1) (b := 0) (by decide +kernel) rfl (Or.inr (Or.inl ⟨rfl, by omega⟩)) ?_
                          exact ⟨Ih48, Rh48, by exact f50, Or.inl ⟨rfl, by exact RDh48, by omega, by omega⟩⟩
                        · exfalso; omega
                      · refine zwW_cm Ih46 (op := 60) (k' := 247) (n := 1) (kd := 13) (m := 97) (nx := 133) (r := 37) (tl := [(0, 0)]) (st' := []) (by decide +kernel) rfl (by decide +kernel) rfl (m247 h46 Ih46 0 Ph46) ?_
                        rintro x h56 ⟨Ih56, Qh56, ⟨rfl, f57, f58, f59, f60⟩ | ⟨rfl, f61, f62, f63⟩⟩
                        · exfalso; omega
                        · have Rh56 : zMR ms201 h h56 := Rh46.tr Qh56 (by decide +kernel)
                          have zf62 := f62; unfold zP0 at zf62
                          have RDh56 := RDh46.mr Qh56 (by decide +kernel)
                          have th56_37_41 : fld h56 37 41 = fld h46 37 41 := Qh56.f (a1 := 37) (a2 := 37) (j1 := 41) (j2 := 42) (by decide +kernel) (by first | decide | exact ⟨by decide, by decide⟩) (by first | decide | exact ⟨by decide, by decide⟩)
                          have th56_37_45 : fld h56 37 45 = fld h46 37 45 := Qh56.f (a1 := 37) (a2 := 37) (j1 := 45) (j2 := 46) (by decide +kernel) (by first | decide | exact ⟨by decide, by decide⟩) (by first | decide | exact ⟨by decide, by decide⟩)
                          have th56_37_47 : fld h56 37 47 = fld h46 37 47 := Qh56.f (a1 := 37) (a2 := 37) (j1 := 47) (j2 := 48) (by decide +kernel) (by first | decide | exact ⟨by decide, by decide⟩) (by first | decide | exact ⟨by decide, by decide⟩)
                          refine zwW_ret (nx := 134) (a := 1) (b := 0) (by decide +kernel) rfl (Or.inr (Or.inl ⟨rfl, by omega⟩)) ?_
                          exact ⟨Ih56, Rh56, by exact f62, Or.inr ⟨rfl, by omega⟩⟩
                    · exfalso; omega
                  · have Rh39 : zMR ms201 h h39 := Rh36.tr Qh39 (by decide +kernel)
                    have zf40 := f40; unfold zP0 at zf40
                    have th39_37_41 : fld h39 37 41 = fld h36 37 41 := Qh39.f (a1 := 37) (a2 := 37) (j1 := 41) (j2 := 42) (by decide +kernel) (by first | decide | exact ⟨by decide, by decide⟩) (by first | decide | exact ⟨by decide, by decide⟩)
                    have th39_37_47 : fld h39 37 47 = fld h36 37 47 := Qh39.f (a1 := 37) (a2 := 37) (j1 := 47) (j2 := 48) (by decide +kernel) (by first | decide | exact ⟨by decide, by decide⟩) (by first | decide | exact ⟨by decide, by decide⟩)
                    refine zwif_ne (q := 107) (nx := 105) (by decide +kernel) (fun c64 => ?_) (fun c64 => ?_)
                    · exfalso; omega
                    · refine zwW_p [(0, 0, 0)] (q := 106) (ls' := [(2, 37), (0, kL2)]) (st' := [(0, 0)]) (by decide +kernel) rfl ?_
                      refine zwW_ret (nx := 107) (a := 1) (b := 0) (by decide +kernel) rfl (Or.inr (Or.inl ⟨rfl, Or.inl rfl⟩)) ?_
                      exact ⟨Ih39, Rh39, by exact f40, Or.inr ⟨rfl, by omega⟩⟩
                · refine zwW_p [(1, 0, 2), (0, 0, 0)] (q := 88) (ls' := [(2, 37), (0, kL2)]) (st' := [(0, 0), (2, 37)]) (by decide +kernel) rfl ?_
                  have RD4 := RDh36
                  have b42 := Ih36.b (a1 := 37) (a2 := 37) (j1 := 42) (j2 := 43) (lo := 0) (hi := 400) (by decide +kernel) (r := 37) (j := 42) (by decide) (by decide) (by decide) (by decide)
                  refine zwW_cm Ih36 (op := 60) (k' := 248) (n := 1) (kd := 13) (m := 97) (nx := 91) (r := 37) (tl := [(0, 0)]) (st' := []) (by decide +kernel) rfl (by decide +kernel) rfl (zg_sum sc h36 Ih36 Ph36 (by omega) (by omega)) ?_
                  rintro x h65 ⟨Ih65, Qh65, f66, ⟨rfl, f67⟩ | ⟨rfl, f68⟩⟩
                  · have Rh65 : zMR ms201 h h65 := Rh36.tr Qh65 (by decide +kernel)
                    have zf66 := f66; unfold zP0 at zf66
                    have th65_37_41 : fld h65 37 41 = fld h36 37 41 := Qh65.f (a1 := 37) (a2 := 37) (j1 := 41) (j2 := 42) (by decide +kernel) (by first | decide | exact ⟨by decide, by decide⟩) (by first | decide | exact ⟨by decide, by decide⟩)
                    have th65_37_47 : fld h65 37 47 = fld h36 37 47 := Qh65.f (a1 := 37) (a2 := 37) (j1 := 47) (j2 := 48) (by decide +kernel) (by first | decide | exact ⟨by decide, by decide⟩) (by first | decide | exact ⟨by decide, by decide⟩)
                    have S88 := f67
                    have K88 := f67.k Qh65
                    have F88 : fld h65 163 = fld h36 163 := Qh65.fa (a := 163) (by decide +kernel) rfl
                    refine zwif_ne (q := 107) (nx := 94) (by decide +kernel) (fun c69 => ?_) (fun c69 => ?_)
                    · refine zwW_p [(1, 0, 2)] (q := 108) (ls' := [(2, 37), (0, kL2)]) (st' := [(2, 37)]) (by decide +kernel) rfl ?_
                      refine zwW_gc Ih65 (kd := 13) (bn := 49) (n := 97) (c := 154) (nx := 111) (by decide +kernel) ?_
                      refine zwW_p [(0, 8, 0)] (q := 113) (ls' := [(2, 37), (0, kL2)]) (st' := [(0, 8), (2, 154)]) (by decide +kernel) rfl ?_
                      refine zwW_ro Ih65 (a := 154) (n := 9) (kd := 26) (base := 155) (step := 1) (nx := 114) (by decide +kernel) rfl (by first | decide | exact ⟨by decide, by decide⟩) ?_
                      rw [show ((155 : Nat) : Int) + ((1 : Nat) : Int) * 8 = 163 from rfl]
                      refine zwW_p [(1, 0, 2)] (q := 115) (ls' := [(2, 37), (0, kL2)]) (st' := [(2, 37), (2, 163)]) (by decide +kernel) rfl ?_
                      refine zwW_gs Ih65 (kd := 13) (bn := 47) (n := 97) (t := 0) (lo := -1) (hi := 4) (nx := 118) (by decide +kernel) ?_
                      intro v70 ev70 lv70 uv70
                      refine zwW_p [(1, 0, 2)] (q := 119) (ls' := [(2, 37), (0, kL2)]) (st' := [(2, 37), (0, v70), (2, 163)]) (by decide +kernel) rfl ?_
                      refine zwW_gs Ih65 (kd := 13) (bn := 45) (n := 97) (t := 0) (lo := 0) (hi := 400) (nx := 122) (by decide +kernel) ?_
                      intro v71 ev71 lv71 uv71
                      refine zwW_as Ih65 (a1 := 155) (a2 := 163) (n := 5) (lo := 0) (hi := 400) (nx := 123) (by decide +kernel) (by first | decide | exact ⟨by decide, by decide⟩) (by first | omega | exact ⟨by omega, by omega⟩) (by first | omega | exact ⟨by omega, by omega⟩) ?_
                      intro h72 eh72 Ih72
                      have th72_37_41 : fld h72 37 41 = fld h65 37 41 := by rw [eh72]; exact fld_wr (by omega)
                      have th72_37_42 : fld h72 37 42 = fld h65 37 42 := by rw [eh72]; exact fld_wr (by omega)
                      have th72_37_43 : fld h72 37 43 = fld h65 37 43 := by rw [eh72]; exact fld_wr (by omega)
                      have th72_37_44 : fld h72 37 44 = fld h65 37 44 := by rw [eh72]; exact fld_wr (by omega)
                      have th72_37_45 : fld h72 37 45 = fld h65 37 45 := by rw [eh72]; exact fld_wr (by omega)
                      have th72_37_47 : fld h72 37 47 = fld h65 37 47 := by rw [eh72]; exact fld_wr (by omega)
                      have Oh72 : zMR [(163, 163, 0, 5)] h65 h72 := zMR.one (by first | decide | exact ⟨by decide, by decide⟩) (by first | omega | exact ⟨by omega, by omega⟩) eh72
                      have Ph72 := f66.mr Oh72 (by decide +kernel)
                      have zPh72 := Ph72; unfold zP0 at zPh72
                      have RDh72 : zRD h72 := RD4.put (c := v70) (k := v71) (by omega) (by omega) (by omega) (fun _ _ _ => rfl) F88 S88 (by omega) eh72 (Ih65.s (a1 := 155) (a2 := 163) (by decide +kernel) (by decide) (by decide))
                      have Rh72 : zMR ms201 h h72 := Rh65.w (a1 := 163) (a2 := 163) (j1 := 0) (j2 := 5) (by decide +kernel) (by first | decide | exact ⟨by decide, by decide⟩) (by first | omega | exact ⟨by omega, by omega⟩) eh72
                      refine zwW_p [(1, 0, 2), (1, 0, 2), (0, 59, 0)] (q := 127) (ls' := [(2, 37), (0, kL2)]) (st' := [(0, 59), (2, 37), (2, 37)]) (by decide +kernel) rfl ?_
                      refine zwW_cm Ih72 (op := 60) (k' := 250) (n := 1) (kd := 13) (m := 97) (nx := 130) (r := 37) (tl := [(0, 59)]) (st' := [(2, 37)]) (by decide +kernel) rfl (by decide +kernel) rfl (m250 h72 Ih72 59) ?_
                      rintro x _ ⟨rfl, ⟨rfl, c73⟩ | ⟨rfl, c73⟩⟩
                      · refine zwW_cm Ih72 (op := 60) (k' := 247) (n := 1) (kd := 13) (m := 97) (nx := 133) (r := 37) (tl := [(0, 1)]) (st' := []) (by decide +kernel) rfl (by decide +kernel) rfl (m247 h72 Ih72 1 Ph72) ?_
                        rintro x h74 ⟨Ih74, Qh74, ⟨rfl, f75, f76, f77, f78⟩ | ⟨rfl, f79, f80, f81⟩⟩
                        · have Rh74 : zMR ms201 h h74 := Rh72.tr Qh74 (by decide +kernel)
                          have zf76 := f76; unfold zP0 at zf76
                          have RDh74 := RDh72.mr Qh74 (by decide +kernel)
                          have th74_37_41 : fld h74 37 41 = fld h72 37 41 := Qh74.f (a1 := 37) (a2 := 37) (j1 := 41) (j2 := 42) (by decide +kernel) (by first | decide | exact ⟨by decide, by decide⟩) (by first | decide | exact ⟨by decide, by decide⟩)
                          have th74_37_45 : fld h74 37 45 = fld h72 37 45 := Qh74.f (a1 := 37) (a2 := 37) (j1 := 45) (j2 := 46) (by decide +kernel) (by first | decide | exact ⟨by decide, by decide⟩) (by first | decide | exact ⟨by decide, by decide⟩)
                          have th74_37_47 : fld h74 37 47 = fld h72 37 47 := Qh74.f (a1 := 37) (a2 := 37) (j1 := 47) (j2 := 48) (by decide +kernel) (by first | decide | exact ⟨by decide, by decide⟩) (by first | decide | exact ⟨by decide, by decide⟩)
                          refine zwW_ret (nx := 134) (a := 1) (b := 0) (by decide +kernel) rfl (Or.inr (Or.inl ⟨rfl, by omega⟩)) ?_
                          exact ⟨Ih74, Rh74, by exact f76, Or.inl ⟨rfl, by exact RDh74, by omega, by omega⟩⟩
                        · exfalso; omega
                      · refine zwW_cm Ih72 (op := 60) (k' := 247) (n := 1) (kd := 13) (m := 97) (nx := 133) (r := 37) (tl := [(0, 0)]) (st' := []) (by decide +kernel) rfl (by decide +kernel) rfl (m247 h72 Ih72 0 Ph72) ?_
                        rintro x h82 ⟨Ih82, Qh82, ⟨rfl, f83, f84, f85, f86⟩ | ⟨rfl, f87, f88, f89⟩⟩
                        · exfalso; omega
                        · have Rh82 : zMR ms201 h h82 := Rh72.tr Qh82 (by decide +kernel)
                          have zf88 := f88; unfold zP0 at zf88
                          have RDh82 := RDh72.mr Qh82 (by decide +kernel)
                          have th82_37_41 : fld h82 37 41 = fld h72 37 41 := Qh82.f (a1 := 37) (a2 := 37) (j1 := 41) (j2 := 42) (by decide +kernel) (by first | decide | exact ⟨by decide, by decide⟩) (by first | decide | exact ⟨by decide, by decide⟩)
                          have th82_37_45 : fld h82 37 45 = fld h72 37 45 := Qh82.f (a1 := 37) (a2 := 37) (j1 := 45) (j2 := 46) (by decide +kernel) (by first | decide | exact ⟨by decide, by decide⟩) (by first | decide | exact ⟨by decide, by decide⟩)
                          have th82_37_47 : fld h82 37 47 = fld h72 37 47 := Qh82.f (a1 := 37) (a2 := 37) (j1 := 47) (j2 := 48) (by decide +kernel) (by first | decide | exact ⟨by decide, by decide⟩) (by first | decide | exact ⟨by decide, by decide⟩)
                          refine zwW_ret (nx := 134) (a := 1) (b := 0) (by decide +kernel) rfl (Or.inr (Or.inl ⟨rfl, by omega⟩)) ?_
                          exact ⟨Ih82, Rh82, by exact f88, Or.inr ⟨rfl, by omega⟩⟩
                    · exfalso; omega
                  · have Rh65 : zMR ms201 h h65 := Rh36.tr Qh65 (by decide +kernel)
                    have zf66 := f66; unfold zP0 at zf66
                    have th65_37_41 : fld h65 37 41 = fld h36 37 41 := Qh65.f (a1 := 37) (a2 := 37) (j1 := 41) (j2 := 42) (by decide +kernel) (by first | decide | exact ⟨by decide, by decide⟩) (by first | decide | exact ⟨by decide, by decide⟩)
                    have th65_37_47 : fld h65 37 47 = fld h36 37 47 := Qh65.f (a1 := 37) (a2 := 37) (j1 := 47) (j2 := 48) (by decide +kernel) (by first | decide | exact ⟨by decide, by decide⟩) (by first | decide | exact ⟨by decide, by decide⟩)
                    refine zwif_ne (q := 107) (nx := 94) (by decide +kernel) (fun c90 => ?_) (fun c90 => ?_)
                    · exfalso; omega
                    · refine zwW_p [(24, 105, 0), (0, 0, 0)] (q := 106) (ls' := [(2, 37), (0, kL2)]) (st' := [(0, 0)]) (by decide +kernel) rfl ?_
                      refine zwW_ret (nx := 107) (a := 1) (b := 0) (by decide +kernel) rfl (Or.inr (Or.inl ⟨rfl, Or.inl rfl⟩)) ?_
                      exact ⟨Ih65, Rh65, by exact f66, Or.inr ⟨rfl, by omega⟩⟩
              · exfalso; omega
            · exfalso; omega
      · refine zwW_p [(1, 0, 2), (1, 0, 2)] (q := 14) (ls' := [(2, 37), (0, kL2)]) (st' := [(2, 37), (2, 37)]) (by decide +kernel) rfl ?_
        refine zwW_gc IhL2 (kd := 13) (bn := 54) (n := 97) (c := 166) (nx := 17) (by decide +kernel) ?_
        refine zwW_p [(1, 1, 0)] (q := 18) (ls' := [(2, 37), (0, kL2)]) (st' := [(0, kL2), (2, 166), (2, 37)]) (by decide +kernel) rfl ?_
        refine zwW_wd5 IhL2 (nx := 19) (by decide +kernel) (by first | omega | exact ⟨by omega, by omega⟩) ?_
        refine zwW_cm IhL2 (op := 60) (k' := 246) (n := 1) (kd := 13) (m := 97) (nx := 22) (r := 37) (tl := [(2, (-12 - kL2))]) (st' := []) (by decide +kernel) rfl (by decide +kernel) rfl (m246 hL2 IhL2 (-12 - kL2) (by omega) iL2_1) ?_
        rintro x _ ⟨rfl, ⟨rfl, c91⟩ | ⟨rfl, c91⟩⟩
        · refine zwif_eq (q := 30) (nx := 25) (by decide +kernel) (fun c92 => ?_) (fun c92 => ?_)
          · exfalso; omega
          · refine zwW_p [(1, 0, 2), (1, 1, 0)] (q := 27) (ls' := [(2, 37), (0, kL2)]) (st' := [(0, kL2), (2, 37)]) (by decide +kernel) rfl ?_
            refine zwW_ps IhL2 (kd := 13) (bn := 47) (n := 97) (lo := -1) (hi := 4) (nx := 30) (by decide +kernel) (by first | omega | exact ⟨by omega, by omega⟩) ?_
            intro h93 eh93 Ih93
            have th93_37_41 : fld h93 37 41 = fld hL2 37 41 := by rw [eh93]; exact fld_wr (by decide)
            have th93_37_42 : fld h93 37 42 = fld hL2 37 42 := by rw [eh93]; exact fld_wr (by decide)
            have th93_37_43 : fld h93 37 43 = fld hL2 37 43 := by rw [eh93]; exact fld_wr (by decide)
            have th93_37_44 : fld h93 37 44 = fld hL2 37 44 := by rw [eh93]; exact fld_wr (by decide)
            have th93_37_45 : fld h93 37 45 = fld hL2 37 45 := by rw [eh93]; exact fld_wr (by decide)
            have th93_37_47 : fld h93 37 47 = kL2 := by rw [eh93]; exact fld_wr_eq (IhL2.s (a1 := 37) (a2 := 37) (k := 13) (n := 97) (by decide +kernel) (by decide) (by decide)) (by decide)
            have Oh93 : zMR [(37, 37, 47, 48)] hL2 h93 := zMR.one (by first | decide | exact ⟨by decide, by decide⟩) (by first | decide | exact ⟨by decide, by decide⟩) eh93
            have Ph93 := iL2_1.mr Oh93 (by decide +kernel)
            have zPh93 := Ph93; unfold zP0 at zPh93
            have RDh93 := iL2_2.mr Oh93 (by decide +kernel)
            have Rh93 : zMR ms201 h h93 := RhL2.w (a1 := 37) (a2 := 37) (j1 := 47) (j2 := 48) (by decide +kernel) (by first | decide | exact ⟨by decide, by decide⟩) (by first | decide | exact ⟨by decide, by decide⟩) eh93
            refine zwW_inc (i := 1) (c := 1) (x := kL2) (nx := 33) (by decide +kernel) rfl (by first | omega | exact ⟨by omega, by omega⟩) (ls' := [(2, 37), (0, (kL2 + 1))]) rfl ?_
            refine zwW_p [(24, 7, 0)] (q := 7) (ls' := [(2, 37), (0, (kL2 + 1))]) (st' := []) (by decide +kernel) rfl ?_
            exact IHL2 ((1000 - (kL2 + 1))).toNat (by omega) (kL2 + 1) h93 rfl (by omega) (Ph93) (RDh93) (by omega) Ih93 Rh93
        · refine zwif_eq (q := 30) (nx := 25) (by decide +kernel) (fun c94 => ?_) (fun c94 => ?_)
          · refine zwW_inc (i := 1) (c := 1) (x := kL2) (nx := 33) (by decide +kernel) rfl (by first | omega | exact ⟨by omega, by omega⟩) (ls' := [(2, 37), (0, (kL2 + 1))]) rfl ?_
            refine zwW_p [(24, 7, 0)] (q := 7) (ls' := [(2, 37), (0, (kL2 + 1))]) (st' := []) (by decide +kernel) rfl ?_
            exact IHL2 ((1000 - (kL2 + 1))).toNat (by omega) (kL2 + 1) hL2 rfl (by omega) (iL2_1) (iL2_2) (by omega) IhL2 RhL2
          · exfalso; omega
  exact L2 _ 0 h1 rfl (by omega) (Ph1) (RDh1) (by omega) Ih1 Rh1
def ms121 : Zms := [(37, 37, 42, 47), (37, 37, 47, 48), (149, 153, 0, 840), (163, 163, 0, 5)]
-- WheelLandModel.reads()V
theorem m121 {sc : List Int} (h : Hp) (I : zI h) : zwC sc 232 121 [(2, 37)] h (zwRv (fun g => zI g ∧ zMR ms121 h g ∧ (zP0 g) ∧ (fld g 37 44 = -1 → zRD g))) := by
  refine zwC_of (D := 231) 2 (by decide +kernel) rfl (ls := [(2, 37), (9, 0)]) rfl ?_
  have R : zMR ms121 h h := zMR.rf _ _
  refine zwW_p [(1, 0, 2), (0, -1, 0)] (q := 2) (ls' := [(2, 37), (9, 0)]) (st' := [(0, -1), (2, 37)]) (by decide +kernel) rfl ?_
  refine zwW_ps I (kd := 13) (bn := 44) (n := 97) (lo := -1) (hi := 400) (nx := 5) (by decide +kernel) (by first | decide | exact ⟨by decide, by decide⟩) ?_
  intro h1 eh1 Ih1
  have th1_37_41 : fld h1 37 41 = fld h 37 41 := by rw [eh1]; exact fld_wr (by decide)
  have th1_37_42 : fld h1 37 42 = fld h 37 42 := by rw [eh1]; exact fld_wr (by decide)
  have th1_37_44 : fld h1 37 44 = -1 := by rw [eh1]; exact fld_wr_eq (I.s (a1 := 37) (a2 := 37) (k := 13) (n := 97) (by decide +kernel) (by decide) (by decide)) (by decide)
  have Oh1 : zMR [(37, 37, 44, 45)] h h1 := zMR.one (by first | decide | exact ⟨by decide, by decide⟩) (by first | decide | exact ⟨by decide, by decide⟩) eh1
  have Rh1 : zMR ms121 h h1 := R.w (a1 := 37) (a2 := 37) (j1 := 44) (j2 := 45) (by decide +kernel) (by first | decide | exact ⟨by decide, by decide⟩) (by first | decide | exact ⟨by decide, by decide⟩) eh1
  refine zwW_p [(0, 0, 0), (2, 1, 0)] (q := 7) (ls' := [(2, 37), (0, 0)]) (st' := []) (by decide +kernel) rfl ?_
  have L2 : ∀ (n : Nat) (kL2 : Int) (hL2 : Hp), n = ((1000 - kL2)).toNat → (0 ≤ kL2 ∧ kL2 ≤ 5) → (∀ c : Nat, (c : Int) < kL2 → fld hL2 163 c = 0) → (fld hL2 37 44 = -1 ∧ fld hL2 37 41 = fld h 37 41) → zI hL2 → zMR ms121 h hL2 → zwW sc (231) 121 7 [(2, 37), (0, kL2)] [] hL2 (zwRv (fun g => zI g ∧ zMR ms121 h g ∧ (zP0 g) ∧ (fld g 37 44 = -1 → zRD g))) := by
    intro n
    induction n using Nat.strongRecOn with
    | ind n IHL2 =>
      intro kL2 hL2 hnL2 iL2_0 iL2_1 iL2_2 IhL2 RhL2
      refine zwW_p [(1, 1, 0), (0, 5, 0)] (q := 9) (ls' := [(2, 37), (0, kL2)]) (st' := [(0, 5), (0, kL2)]) (by decide +kernel) rfl ?_
      refine zwic_ge (q := 28) (nx := 12) (by decide +kernel) (fun c3 => ?_) (fun c3 => ?_)
      · have RD28 : zRD hL2 := fun c hc hp => absurd (iL2_1 c (by omega)) (by omega)
        refine zwW_p [(1, 0, 2), (0, 0, 0)] (q := 30) (ls' := [(2, 37), (0, kL2)]) (st' := [(0, 0), (2, 37)]) (by decide +kernel) rfl ?_
        refine zwW_ps IhL2 (kd := 13) (bn := 42) (n := 97) (lo := 0) (hi := 400) (nx := 33) (by decide +kernel) (by first | decide | exact ⟨by decide, by decide⟩) ?_
        intro h4 eh4 Ih4
        have th4_37_41 : fld h4 37 41 = fld hL2 37 41 := by rw [eh4]; exact fld_wr (by decide)
        have th4_37_42 : fld h4 37 42 = 0 := by rw [eh4]; exact fld_wr_eq (IhL2.s (a1 := 37) (a2 := 37) (k := 13) (n := 97) (by decide +kernel) (by decide) (by decide)) (by decide)
        have th4_37_44 : fld h4 37 44 = fld hL2 37 44 := by rw [eh4]; exact fld_wr (by decide)
        have Oh4 : zMR [(37, 37, 42, 43)] hL2 h4 := zMR.one (by first | decide | exact ⟨by decide, by decide⟩) (by first | decide | exact ⟨by decide, by decide⟩) eh4
        have RDh4 := RD28.mr Oh4 (by decide +kernel)
        have Rh4 : zMR ms121 h h4 := RhL2.w (a1 := 37) (a2 := 37) (j1 := 42) (j2 := 43) (by decide +kernel) (by first | decide | exact ⟨by decide, by decide⟩) (by first | decide | exact ⟨by decide, by decide⟩) eh4
        refine zwW_p [(1, 0, 2)] (q := 34) (ls' := [(2, 37), (0, kL2)]) (st' := [(2, 37)]) (by decide +kernel) rfl ?_
        have b41 := Ih4.b (a1 := 37) (a2 := 37) (j1 := 41) (j2 := 42) (lo := 0) (hi := 400) (by decide +kernel) (r := 37) (j := 41) (by decide) (by decide) (by decide) (by decide)
        refine zwW_cmv Ih4 (op := 60) (k' := 200) (n := 0) (kd := 13) (m := 97) (nx := 37) (r := 37) (tl := []) (st' := []) (by decide +kernel) rfl (by decide +kernel) rfl (m200 h4 Ih4 (by omega)) ?_
        rintro h7 ⟨Ih7, Qh7, f5, f6⟩
        have Rh7 : zMR ms121 h h7 := Rh4.tr Qh7 (by decide +kernel)
        have zf6 := f6; unfold zP0 at zf6
        have RDh7 := RDh4.mr Qh7 (by decide +kernel)
        have th7_37_41 : fld h7 37 41 = fld h4 37 41 := Qh7.f (a1 := 37) (a2 := 37) (j1 := 41) (j2 := 42) (by decide +kernel) (by first | decide | exact ⟨by decide, by decide⟩) (by first | decide | exact ⟨by decide, by decide⟩)
        have th7_37_44 : fld h7 37 44 = fld h4 37 44 := Qh7.f (a1 := 37) (a2 := 37) (j1 := 44) (j2 := 45) (by decide +kernel) (by first | decide | exact ⟨by decide, by decide⟩) (by first | decide | exact ⟨by decide, by decide⟩)
        refine zwW_p [(0, 1, 0), (2, 1, 0)] (q := 39) (ls' := [(2, 37), (0, 1)]) (st' := []) (by decide +kernel) rfl ?_
        have L8 : ∀ (n : Nat) (hL8 : Hp), n = (fld hL8 37 41 - fld hL8 37 42).toNat → (zP0 hL8) → (zRD hL8) → (fld hL8 37 44 = -1) → (fld hL8 37 41 = fld h 37 41) → zI hL8 → zMR ms121 h hL8 → zwW sc (231) 121 39 [(2, 37), (0, 1)] [] hL8 (zwRv (fun g => zI g ∧ zMR ms121 h g ∧ (zP0 g) ∧ (fld g 37 44 = -1 → zRD g))) := by
          intro n
          induction n using Nat.strongRecOn with
          | ind n IHL8 =>
            intro hL8 hnL8 iL8_0 iL8_1 iL8_2 iL8_3 IhL8 RhL8
            refine zwW_p [(1, 1, 0)] (q := 40) (ls' := [(2, 37), (0, 1)]) (st' := [(0, 1)]) (by decide +kernel) rfl ?_
            refine zwif_eq (q := 62) (nx := 43) (by decide +kernel) (fun c9 => ?_) (fun c9 => ?_)
            · exfalso; omega
            · refine zwW_p [(1, 0, 2)] (q := 44) (ls' := [(2, 37), (0, 1)]) (st' := [(2, 37)]) (by decide +kernel) rfl ?_
              refine zwW_gs IhL8 (kd := 13) (bn := 42) (n := 97) (t := 0) (lo := 0) (hi := 400) (nx := 47) (by decide +kernel) ?_
              intro v10 ev10 lv10 uv10
              refine zwW_p [(1, 0, 2)] (q := 48) (ls' := [(2, 37), (0, 1)]) (st' := [(2, 37), (0, v10)]) (by decide +kernel) rfl ?_
              refine zwW_gs IhL8 (kd := 13) (bn := 41) (n := 97) (t := 0) (lo := 0) (hi := 400) (nx := 51) (by decide +kernel) ?_
              intro v11 ev11 lv11 uv11
              refine zwic_ge (q := 62) (nx := 54) (by decide +kernel) (fun c12 => ?_) (fun c12 => ?_)
              · refine zwW_retv (nx := 63) (a := 0) (b := 0) (by decide +kernel) ?_
                exact ⟨IhL8, RhL8, by exact iL8_0, by first | exact fun _ => iL8_1 | exact fun hq => (by omega)⟩
              · refine zwW_p [(1, 0, 2)] (q := 55) (ls' := [(2, 37), (0, 1)]) (st' := [(2, 37)]) (by decide +kernel) rfl ?_
                refine zwW_cm IhL8 (op := 60) (k' := 201) (n := 0) (kd := 13) (m := 97) (nx := 58) (r := 37) (tl := []) (st' := []) (by decide +kernel) rfl (by decide +kernel) rfl (m201 hL8 IhL8 iL8_0 iL8_1 (by omega) (by omega)) ?_
                rintro x h13 ⟨Ih13, Qh13, f14, ⟨rfl, f15, f16, f17⟩ | ⟨rfl, f18⟩⟩
                · have Rh13 : zMR ms121 h h13 := RhL8.tr Qh13 (by decide +kernel)
                  have zf14 := f14; unfold zP0 at zf14
                  have th13_37_41 : fld h13 37 41 = fld hL8 37 41 := Qh13.f (a1 := 37) (a2 := 37) (j1 := 41) (j2 := 42) (by decide +kernel) (by first | decide | exact ⟨by decide, by decide⟩) (by first | decide | exact ⟨by decide, by decide⟩)
                  refine zwW_p [(2, 1, 0), (24, 39, 0)] (q := 39) (ls' := [(2, 37), (0, 1)]) (st' := []) (by decide +kernel) rfl ?_
                  exact IHL8 (fld h13 37 41 - fld h13 37 42).toNat (by omega) h13 rfl (f14) (f15) (by omega) (by omega) Ih13 Rh13
                · have Rh13 : zMR ms121 h h13 := RhL8.tr Qh13 (by decide +kernel)
                  have zf14 := f14; unfold zP0 at zf14
                  have th13_37_41 : fld h13 37 41 = fld hL8 37 41 := Qh13.f (a1 := 37) (a2 := 37) (j1 := 41) (j2 := 42) (by decide +kernel) (by first | decide | exact ⟨by decide, by decide⟩) (by first | decide | exact ⟨by decide, by decide⟩)
                  refine zwW_p [(2, 1, 0), (24, 39, 0)] (q := 39) (ls' := [(2, 37), (0, 0)]) (st' := []) (by decide +kernel) rfl ?_
                  refine zwW_p [(1, 1, 0)] (q := 40) (ls' := [(2, 37), (0, 0)]) (st' := [(0, 0)]) (by decide +kernel) rfl ?_
                  refine zwif_eq (q := 62) (nx := 43) (by decide +kernel) (fun c19 => ?_) (fun c19 => ?_)
                  · refine zwW_retv (nx := 63) (a := 0) (b := 0) (by decide +kernel) ?_
                    exact ⟨Ih13, Rh13, by exact f14, by first | exact fun _ => iL8_1 | exact fun hq => (by omega)⟩
                  · exfalso; omega
        exact L8 _ h7 rfl (f6) (RDh7) (by omega) (by omega) Ih7 Rh7
      · refine zwW_p [(1, 0, 2)] (q := 13) (ls' := [(2, 37), (0, kL2)]) (st' := [(2, 37)]) (by decide +kernel) rfl ?_
        refine zwW_gc IhL2 (kd := 13) (bn := 49) (n := 97) (c := 154) (nx := 16) (by decide +kernel) ?_
        refine zwW_p [(0, 8, 0)] (q := 18) (ls' := [(2, 37), (0, kL2)]) (st' := [(0, 8), (2, 154)]) (by decide +kernel) rfl ?_
        refine zwW_ro IhL2 (a := 154) (n := 9) (kd := 26) (base := 155) (step := 1) (nx := 19) (by decide +kernel) rfl (by first | decide | exact ⟨by decide, by decide⟩) ?_
        rw [show ((155 : Nat) : Int) + ((1 : Nat) : Int) * 8 = 163 from rfl]
        refine zwW_p [(1, 1, 0), (0, 0, 0)] (q := 21) (ls' := [(2, 37), (0, kL2)]) (st' := [(0, 0), (0, kL2), (2, 163)]) (by decide +kernel) rfl ?_
        refine zwW_as IhL2 (a1 := 155) (a2 := 163) (n := 5) (lo := 0) (hi := 400) (nx := 22) (by decide +kernel) (by first | decide | exact ⟨by decide, by decide⟩) (by first | omega | exact ⟨by omega, by omega⟩) (by first | decide | exact ⟨by decide, by decide⟩) ?_
        intro h20 eh20 Ih20
        have th20_37_41 : fld h20 37 41 = fld hL2 37 41 := by rw [eh20]; exact fld_wr (by omega)
        have th20_37_42 : fld h20 37 42 = fld hL2 37 42 := by rw [eh20]; exact fld_wr (by omega)
        have th20_37_44 : fld h20 37 44 = fld hL2 37 44 := by rw [eh20]; exact fld_wr (by omega)
        have Oh20 : zMR [(163, 163, 0, 5)] hL2 h20 := zMR.one (by first | decide | exact ⟨by decide, by decide⟩) (by first | omega | exact ⟨by omega, by omega⟩) eh20
        have W21 : ∀ c : Nat, (c : Int) < kL2 + 1 → fld h20 163 c = 0 := by
          intro c hc
          by_cases hq : c = (kL2).toNat
          · rw [hq, eh20]; exact fld_wr_eq (IhL2.s (a1 := 155) (a2 := 163) (k := 20) (n := 5) (by decide +kernel) (by decide) (by decide)) (by omega)
          · rw [eh20, fld_wr (Or.inr hq)]; exact iL2_1 c (by omega)
        have Rh20 : zMR ms121 h h20 := RhL2.w (a1 := 163) (a2 := 163) (j1 := 0) (j2 := 5) (by decide +kernel) (by first | decide | exact ⟨by decide, by decide⟩) (by first | omega | exact ⟨by omega, by omega⟩) eh20
        refine zwW_inc (i := 1) (c := 1) (x := kL2) (nx := 25) (by decide +kernel) rfl (by first | omega | exact ⟨by omega, by omega⟩) (ls' := [(2, 37), (0, (kL2 + 1))]) rfl ?_
        refine zwW_p [(24, 7, 0)] (q := 7) (ls' := [(2, 37), (0, (kL2 + 1))]) (st' := []) (by decide +kernel) rfl ?_
        exact IHL2 ((1000 - (kL2 + 1))).toNat (by omega) (kL2 + 1) h20 rfl (by omega) (W21) (by omega) Ih20 Rh20
  exact L2 _ 0 h1 rfl (by omega) (fun c hc => by omega) (by omega) Ih1 Rh1
def ms28 : Zms := [(37, 37, 42, 47), (37, 37, 47, 48), (149, 153, 0, 840), (163, 163, 0, 5)]
-- WheelLandModel.fault()I
theorem m28 {sc : List Int} (h : Hp) (I : zI h) : zwC sc 233 28 [(2, 37)] h (zwRt 0 (fun x g => zI g ∧ zMR ms28 h g ∧ (-2147483648 ≤ x ∧ x ≤ 2147483647))) := by
  refine zwC_of (D := 232) 1 (by decide +kernel) rfl (ls := [(2, 37)]) rfl ?_
  have R : zMR ms28 h h := zMR.rf _ _
  refine zwW_p [(1, 0, 2)] (q := 1) (ls' := [(2, 37)]) (st' := [(2, 37)]) (by decide +kernel) rfl ?_
  refine zwW_cmv I (op := 60) (k' := 121) (n := 0) (kd := 13) (m := 97) (nx := 4) (r := 37) (tl := []) (st' := []) (by decide +kernel) rfl (by decide +kernel) rfl (m121 h I) ?_
  rintro h3 ⟨Ih3, Qh3, f1, f2⟩
  have Rh3 : zMR ms28 h h3 := R.tr Qh3 (by decide +kernel)
  refine zwW_p [(1, 0, 2)] (q := 5) (ls' := [(2, 37)]) (st' := [(2, 37)]) (by decide +kernel) rfl ?_
  refine zwW_gs Ih3 (kd := 13) (bn := 44) (n := 97) (t := 0) (lo := -1) (hi := 400) (nx := 8) (by decide +kernel) ?_
  intro v4 ev4 lv4 uv4
  refine zwW_ret (nx := 9) (a := 0) (b := 0) (by decide +kernel) rfl (Or.inl rfl) ?_
  exact ⟨Ih3, Rh3, by omega⟩
def ms30 : Zms := [(37, 37, 41, 42), (37, 37, 42, 47), (37, 37, 47, 48), (37, 37, 52, 53), (101, 153, 0, 840), (155, 163, 0, 5)]
-- WheelLandModel.sheet()I
theorem m30 {sc : List Int} (h : Hp) (I : zI h) (hW : zCW h) : zwC sc 233 30 [(2, 37)] h (zwRt 0 (fun x g => zI g ∧ zMR ms30 h g ∧ (-2147483648 ≤ x ∧ x ≤ 2147483647) ∧ (zCW g))) := by
  refine zwC_of (D := 232) 3 (by decide +kernel) rfl (ls := [(2, 37), (9, 0), (9, 0)]) rfl ?_
  have R : zMR ms30 h h := zMR.rf _ _
  refine zwW_p [(1, 0, 2)] (q := 1) (ls' := [(2, 37), (9, 0), (9, 0)]) (st' := [(2, 37)]) (by decide +kernel) rfl ?_
  refine zwW_gs I (kd := 13) (bn := 52) (n := 97) (t := 0) (lo := 0) (hi := 8) (nx := 4) (by decide +kernel) ?_
  intro v1 ev1 lv1 uv1
  refine zwW_p [(0, 8, 0)] (q := 6) (ls' := [(2, 37), (9, 0), (9, 0)]) (st' := [(0, 8), (0, v1)]) (by decide +kernel) rfl ?_
  refine zwic_ne (q := 11) (nx := 9) (by decide +kernel) (fun c2 => ?_) (fun c2 => ?_)
  · refine zwW_p [(1, 0, 2)] (q := 12) (ls' := [(2, 37), (9, 0), (9, 0)]) (st' := [(2, 37)]) (by decide +kernel) rfl ?_
    refine zwW_cmv I (op := 60) (k' := 121) (n := 0) (kd := 13) (m := 97) (nx := 15) (r := 37) (tl := []) (st' := []) (by decide +kernel) rfl (by decide +kernel) rfl (m121 h I) ?_
    rintro h5 ⟨Ih5, Qh5, f3, f4⟩
    have Rh5 : zMR ms30 h h5 := R.tr Qh5 (by decide +kernel)
    have th5_37_52 : fld h5 37 52 = fld h 37 52 := Qh5.f (a1 := 37) (a2 := 37) (j1 := 52) (j2 := 53) (by decide +kernel) (by first | decide | exact ⟨by decide, by decide⟩) (by first | decide | exact ⟨by decide, by decide⟩)
    have th5_37_53 : fld h5 37 53 = fld h 37 53 := Qh5.f (a1 := 37) (a2 := 37) (j1 := 53) (j2 := 54) (by decide +kernel) (by first | decide | exact ⟨by decide, by decide⟩) (by first | decide | exact ⟨by decide, by decide⟩)
    refine zwW_p [(1, 0, 2)] (q := 16) (ls' := [(2, 37), (9, 0), (9, 0)]) (st' := [(2, 37)]) (by decide +kernel) rfl ?_
    refine zwW_gs Ih5 (kd := 13) (bn := 44) (n := 97) (t := 0) (lo := -1) (hi := 400) (nx := 19) (by decide +kernel) ?_
    intro v6 ev6 lv6 uv6
    refine zwW_p [(0, -1, 0)] (q := 20) (ls' := [(2, 37), (9, 0), (9, 0)]) (st' := [(0, -1), (0, v6)]) (by decide +kernel) rfl ?_
    refine zwic_eq (q := 25) (nx := 23) (by decide +kernel) (fun c7 => ?_) (fun c7 => ?_)
    · have W25 : zCW h5 := hW.mr I Qh5 (by decide +kernel)
      have I25 := Ih5
      have RD25 : zRD h5 := f4 (by omega)
      refine zwW_p [(1, 0, 2), (0, 0, 0)] (q := 27) (ls' := [(2, 37), (9, 0), (9, 0)]) (st' := [(0, 0), (2, 37)]) (by decide +kernel) rfl ?_
      refine zwW_ps Ih5 (kd := 13) (bn := 41) (n := 97) (lo := 0) (hi := 400) (nx := 30) (by decide +kernel) (by first | decide | exact ⟨by decide, by decide⟩) ?_
      intro h8 eh8 Ih8
      have th8_37_52 : fld h8 37 52 = fld h5 37 52 := by rw [eh8]; exact fld_wr (by decide)
      have th8_37_53 : fld h8 37 53 = fld h5 37 53 := by rw [eh8]; exact fld_wr (by decide)
      have Kh8_164 : fld h8 164 = fld h5 164 := (funext fun j => fld_oth eh8 (Or.inl (by omega))).trans rfl
      have Rh8 : zMR ms30 h h8 := Rh5.w (a1 := 37) (a2 := 37) (j1 := 41) (j2 := 42) (by decide +kernel) (by first | decide | exact ⟨by decide, by decide⟩) (by first | decide | exact ⟨by decide, by decide⟩) eh8
      refine zwW_p [(0, 0, 0), (2, 1, 0)] (q := 32) (ls' := [(2, 37), (0, 0), (9, 0)]) (st' := []) (by decide +kernel) rfl ?_
      have L9 : ∀ (n : Nat) (cL9 : Int) (w2L9 : Vl) (hL9 : Hp), n = ((100 - cL9)).toNat → (0 ≤ cL9 ∧ cL9 ≤ 5) → (fld hL9 37 52 = fld h 37 52) → (fld hL9 37 53 = fld h5 37 53) → (zSH h5 hL9 (fld h 37 52)) → (zSA h5 hL9 (fld h 37 52) cL9) → (fld hL9 164 = fld h5 164) → zI hL9 → zMR ms30 h hL9 → zwW sc (232) 30 32 [(2, 37), (0, cL9), w2L9] [] hL9 (zwRt 0 (fun x g => zI g ∧ zMR ms30 h g ∧ (-2147483648 ≤ x ∧ x ≤ 2147483647) ∧ (zCW g))) := by
        intro n
        induction n using Nat.strongRecOn with
        | ind n IHL9 =>
          intro cL9 w2L9 hL9 hnL9 iL9_0 iL9_1 iL9_2 iL9_3 iL9_4 iL9_5 IhL9 RhL9
          refine zwW_p [(1, 1, 0), (0, 5, 0)] (q := 34) (ls' := [(2, 37), (0, cL9), w2L9]) (st' := [(0, 5), (0, cL9)]) (by decide +kernel) rfl ?_
          refine zwic_ge (q := 110) (nx := 37) (by decide +kernel) (fun c10 => ?_) (fun c10 => ?_)
          · have K110 := iL9_5
            refine zwW_p [(1, 0, 2), (12, 0, 0)] (q := 112) (ls' := [(2, 37), (0, cL9), w2L9]) (st' := [(2, 37), (2, 37)]) (by decide +kernel) rfl ?_
            refine zwW_gs IhL9 (kd := 13) (bn := 52) (n := 97) (t := 0) (lo := 0) (hi := 8) (nx := 115) (by decide +kernel) ?_
            intro v11 ev11 lv11 uv11
            refine zwW_p [(0, 1, 0)] (q := 116) (ls' := [(2, 37), (0, cL9), w2L9]) (st' := [(0, 1), (0, v11), (2, 37)]) (by decide +kernel) rfl ?_
            refine zwW_add (nx := 117) (by decide +kernel) (by first | omega | exact ⟨by omega, by omega⟩) ?_
            refine zwW_ps IhL9 (kd := 13) (bn := 52) (n := 97) (lo := 0) (hi := 8) (nx := 120) (by decide +kernel) (by first | omega | exact ⟨by omega, by omega⟩) ?_
            intro h12 eh12 Ih12
            have th12_37_52 : fld h12 37 52 = (v11 + 1) := by rw [eh12]; exact fld_wr_eq (IhL9.s (a1 := 37) (a2 := 37) (k := 13) (n := 97) (by decide +kernel) (by decide) (by decide)) (by decide)
            have th12_37_53 : fld h12 37 53 = fld hL9 37 53 := by rw [eh12]; exact fld_wr (by decide)
            have Kh12_164 : fld h12 164 = fld h5 164 := (funext fun j => fld_oth eh12 (Or.inl (by omega))).trans iL9_5
            have E117 : h12 = wr hL9 37 52 (fld h 37 52 + 1) := by rw [eh12, show (v11 + 1) = fld h 37 52 + 1 by omega]
            have I117 := IhL9
            have Rh12 : zMR ms30 h h12 := RhL9.w (a1 := 37) (a2 := 37) (j1 := 52) (j2 := 53) (by decide +kernel) (by first | decide | exact ⟨by decide, by decide⟩) (by first | decide | exact ⟨by decide, by decide⟩) eh12
            refine zwW_p [(1, 0, 2)] (q := 121) (ls' := [(2, 37), (0, cL9), w2L9]) (st' := [(2, 37)]) (by decide +kernel) rfl ?_
            refine zwW_gs Ih12 (kd := 13) (bn := 52) (n := 97) (t := 0) (lo := 0) (hi := 8) (nx := 124) (by decide +kernel) ?_
            intro v13 ev13 lv13 uv13
            refine zwW_p [(0, 1, 0)] (q := 125) (ls' := [(2, 37), (0, cL9), w2L9]) (st' := [(0, 1), (0, v13)]) (by decide +kernel) rfl ?_
            refine zwW_sub (nx := 126) (by decide +kernel) (by first | omega | exact ⟨by omega, by omega⟩) ?_
            refine zwW_ret (nx := 127) (a := 0) (b := 0) (by decide +kernel) rfl (Or.inl rfl) ?_
            have A5 : zSA h5 hL9 (fld h 37 52) 5 := by have := iL9_4; rw [show cL9 = 5 by omega] at this; exact this
            exact ⟨Ih12, Rh12, by omega, zCW.sh W25 RD25 I25 iL9_3 A5 (by omega) (by omega) (by omega) (by omega) K110 E117 (I117.s (a1 := 37) (a2 := 37) (by decide +kernel) (by decide) (by decide))⟩
          · refine zwW_p [(1, 0, 2)] (q := 38) (ls' := [(2, 37), (0, cL9), w2L9]) (st' := [(2, 37)]) (by decide +kernel) rfl ?_
            refine zwW_gc IhL9 (kd := 13) (bn := 49) (n := 97) (c := 154) (nx := 41) (by decide +kernel) ?_
            refine zwW_p [(1, 0, 2)] (q := 42) (ls' := [(2, 37), (0, cL9), w2L9]) (st' := [(2, 37), (2, 154)]) (by decide +kernel) rfl ?_
            refine zwW_gs IhL9 (kd := 13) (bn := 52) (n := 97) (t := 0) (lo := 0) (hi := 8) (nx := 45) (by decide +kernel) ?_
            intro v14 ev14 lv14 uv14
            refine zwW_ro IhL9 (a := 154) (n := 9) (kd := 26) (base := 155) (step := 1) (nx := 46) (by decide +kernel) rfl (by first | omega | exact ⟨by omega, by omega⟩) ?_
            rw [show ((155 : Nat) : Int) + ((1 : Nat) : Int) * v14 = (155 + v14) by omega]
            refine zwW_p [(1, 1, 0), (1, 0, 2)] (q := 48) (ls' := [(2, 37), (0, cL9), w2L9]) (st' := [(2, 37), (0, cL9), (2, (155 + v14))]) (by decide +kernel) rfl ?_
            refine zwW_gc IhL9 (kd := 13) (bn := 49) (n := 97) (c := 154) (nx := 51) (by decide +kernel) ?_
            refine zwW_p [(0, 8, 0)] (q := 53) (ls' := [(2, 37), (0, cL9), w2L9]) (st' := [(0, 8), (2, 154), (0, cL9), (2, (155 + v14))]) (by decide +kernel) rfl ?_
            refine zwW_ro IhL9 (a := 154) (n := 9) (kd := 26) (base := 155) (step := 1) (nx := 54) (by decide +kernel) rfl (by first | decide | exact ⟨by decide, by decide⟩) ?_
            rw [show ((155 : Nat) : Int) + ((1 : Nat) : Int) * 8 = 163 from rfl]
            refine zwW_p [(1, 1, 0)] (q := 55) (ls' := [(2, 37), (0, cL9), w2L9]) (st' := [(0, cL9), (2, 163), (0, cL9), (2, (155 + v14))]) (by decide +kernel) rfl ?_
            refine zwW_al IhL9 (a1 := 155) (a2 := 163) (kd := 20) (n := 5) (t := 0) (lo := 0) (hi := 400) (nx := 56) (by decide +kernel) (by first | decide | exact ⟨by decide, by decide⟩) (by first | omega | exact ⟨by omega, by omega⟩) ?_
            intro v15 ev15 lv15 uv15
            refine zwW_as IhL9 (a1 := 155) (a2 := 163) (n := 5) (lo := 0) (hi := 400) (nx := 57) (by decide +kernel) (by first | omega | exact ⟨by omega, by omega⟩) (by first | omega | exact ⟨by omega, by omega⟩) (by first | omega | exact ⟨by omega, by omega⟩) ?_
            intro h16 eh16 Ih16
            have th16_37_52 : fld h16 37 52 = fld hL9 37 52 := by rw [eh16]; exact fld_wr (by omega)
            have th16_37_53 : fld h16 37 53 = fld hL9 37 53 := by rw [eh16]; exact fld_wr (by omega)
            have Kh16_164 : fld h16 164 = fld h5 164 := (funext fun j => fld_oth eh16 (Or.inl (by omega))).trans iL9_5
            have E56 : h16 = wr hL9 (155 + fld h 37 52) (cL9).toNat v15 := by rw [eh16, show (155 + v14) = 155 + fld h 37 52 by omega]
            have H56 := (iL9_3).w E56 (Or.inl rfl)
            have A56 := (iL9_4).w E56 (Or.inl ⟨rfl, by omega⟩) (by omega) (by omega)
            have L56 : fld h16 (155 + fld h 37 52) (cL9).toNat = fld h5 163 (cL9).toNat := by rw [E56, fld_wr_eq (IhL9.s (a1 := 155) (a2 := 163) (k := 20) (n := 5) (by decide +kernel) (by omega) (by omega)) (by omega), ev15, iL9_3 163 (by omega) (by omega) (by omega) (by omega)]
            have Rh16 : zMR ms30 h h16 := RhL9.w (a1 := 155) (a2 := 163) (j1 := 0) (j2 := 5) (by decide +kernel) (by first | omega | exact ⟨by omega, by omega⟩) (by first | omega | exact ⟨by omega, by omega⟩) eh16
            have b57 := I25.b (a1 := 155) (a2 := 163) (j1 := 0) (j2 := 5) (lo := 0) (hi := 400) (by decide +kernel) (r := 163) (j := (cL9).toNat) (by decide) (by decide) (by omega) (by omega)
            refine zwW_p [(0, 0, 0), (2, 2, 0)] (q := 59) (ls' := [(2, 37), (0, cL9), (0, 0)]) (st' := []) (by decide +kernel) rfl ?_
            have L17 : ∀ (n : Nat) (iL17 : Int) (hL17 : Hp), n = ((1000 - iL17)).toNat → (0 ≤ iL17 ∧ iL17 ≤ 2 * fld h5 163 (cL9).toNat) → (fld hL17 37 52 = fld h 37 52) → (fld hL17 37 53 = fld h5 37 53) → (zSH h5 hL17 (fld h 37 52)) → (zSA h5 hL17 (fld h 37 52) cL9) → (fld hL17 164 = fld h5 164) → (fld hL17 (155 + fld h 37 52) (cL9).toNat = fld h5 163 (cL9).toNat) → (zSC h5 hL17 (fld h 37 52) cL9 iL17) → zI hL17 → zMR ms30 h hL17 → zwW sc (232) 30 59 [(2, 37), (0, cL9), (0, iL17)] [] hL17 (zwRt 0 (fun x g => zI g ∧ zMR ms30 h g ∧ (-2147483648 ≤ x ∧ x ≤ 2147483647) ∧ (zCW g))) := by
              intro n
              induction n using Nat.strongRecOn with
              | ind n IHL17 =>
                intro iL17 hL17 hnL17 iL17_0 iL17_1 iL17_2 iL17_3 iL17_4 iL17_5 iL17_6 iL17_7 IhL17 RhL17
                refine zwW_p [(1, 2, 0), (0, 2, 0), (1, 0, 2)] (q := 62) (ls' := [(2, 37), (0, cL9), (0, iL17)]) (st' := [(2, 37), (0, 2), (0, iL17)]) (by decide +kernel) rfl ?_
                refine zwW_gc IhL17 (kd := 13) (bn := 49) (n := 97) (c := 154) (nx := 65) (by decide +kernel) ?_
                refine zwW_p [(0, 8, 0)] (q := 67) (ls' := [(2, 37), (0, cL9), (0, iL17)]) (st' := [(0, 8), (2, 154), (0, 2), (0, iL17)]) (by decide +kernel) rfl ?_
                refine zwW_ro IhL17 (a := 154) (n := 9) (kd := 26) (base := 155) (step := 1) (nx := 68) (by decide +kernel) rfl (by first | decide | exact ⟨by decide, by decide⟩) ?_
                rw [show ((155 : Nat) : Int) + ((1 : Nat) : Int) * 8 = 163 from rfl]
                refine zwW_p [(1, 1, 0)] (q := 69) (ls' := [(2, 37), (0, cL9), (0, iL17)]) (st' := [(0, cL9), (2, 163), (0, 2), (0, iL17)]) (by decide +kernel) rfl ?_
                refine zwW_al IhL17 (a1 := 155) (a2 := 163) (kd := 20) (n := 5) (t := 0) (lo := 0) (hi := 400) (nx := 70) (by decide +kernel) (by first | decide | exact ⟨by decide, by decide⟩) (by first | omega | exact ⟨by omega, by omega⟩) ?_
                intro v18 ev18 lv18 uv18
                refine zwW_mul (nx := 71) (by decide +kernel) (by first | omega | exact ⟨by omega, by omega⟩) ?_
                refine zwic_ge (q := 104) (nx := 74) (by decide +kernel) (fun c19 => ?_) (fun c19 => ?_)
                · have J104 := congrFun (iL17_3 163 (by omega) (by omega) (by omega) (by omega)) (cL9).toNat
                  have Y104 : zSC h5 hL17 (fld h 37 52) cL9 (2 * fld h5 163 (cL9).toNat) := by have := iL17_7; rw [show iL17 = 2 * fld h5 163 (cL9).toNat by omega] at this; exact this
                  have Z104 := (iL17_4).s (by omega) iL17_6 Y104
                  refine zwW_inc (i := 1) (c := 1) (x := cL9) (nx := 107) (by decide +kernel) rfl (by first | omega | exact ⟨by omega, by omega⟩) (ls' := [(2, 37), (0, (cL9 + 1)), (0, iL17)]) rfl ?_
                  refine zwW_p [(24, 32, 0)] (q := 32) (ls' := [(2, 37), (0, (cL9 + 1)), (0, iL17)]) (st' := []) (by decide +kernel) rfl ?_
                  exact IHL9 ((100 - (cL9 + 1))).toNat (by omega) (cL9 + 1) (0, iL17) hL17 rfl (by omega) (by omega) (by omega) (iL17_3) (Z104) (iL17_5) IhL17 RhL17
                · have J74 := congrFun (iL17_3 163 (by omega) (by omega) (by omega) (by omega)) (cL9).toNat
                  refine zwW_p [(1, 0, 2)] (q := 75) (ls' := [(2, 37), (0, cL9), (0, iL17)]) (st' := [(2, 37)]) (by decide +kernel) rfl ?_
                  refine zwW_gc IhL17 (kd := 13) (bn := 48) (n := 97) (c := 99) (nx := 78) (by decide +kernel) ?_
                  refine zwW_p [(1, 0, 2)] (q := 79) (ls' := [(2, 37), (0, cL9), (0, iL17)]) (st' := [(2, 37), (2, 99)]) (by decide +kernel) rfl ?_
                  refine zwW_gs IhL17 (kd := 13) (bn := 52) (n := 97) (t := 0) (lo := 0) (hi := 8) (nx := 82) (by decide +kernel) ?_
                  intro v20 ev20 lv20 uv20
                  refine zwW_ro IhL17 (a := 99) (n := 9) (kd := 27) (base := 100) (step := 6) (nx := 83) (by decide +kernel) rfl (by first | omega | exact ⟨by omega, by omega⟩) ?_
                  rw [show ((100 : Nat) : Int) + ((6 : Nat) : Int) * v20 = (100 + 6 * v20) by omega]
                  refine zwW_p [(1, 1, 0)] (q := 84) (ls' := [(2, 37), (0, cL9), (0, iL17)]) (st' := [(0, cL9), (2, (100 + 6 * v20))]) (by decide +kernel) rfl ?_
                  refine zwW_ro2 IhL17 (s := v20) (nx := 85) (by decide +kernel) (by omega) (by first | omega | exact ⟨by omega, by omega⟩) (by first | omega | exact ⟨by omega, by omega⟩) ?_
                  refine zwW_p [(1, 2, 0), (1, 0, 2)] (q := 87) (ls' := [(2, 37), (0, cL9), (0, iL17)]) (st' := [(2, 37), (0, iL17), (2, (101 + 6 * v20 + cL9))]) (by decide +kernel) rfl ?_
                  refine zwW_gc IhL17 (kd := 13) (bn := 48) (n := 97) (c := 99) (nx := 90) (by decide +kernel) ?_
                  refine zwW_p [(0, 8, 0)] (q := 92) (ls' := [(2, 37), (0, cL9), (0, iL17)]) (st' := [(0, 8), (2, 99), (0, iL17), (2, (101 + 6 * v20 + cL9))]) (by decide +kernel) rfl ?_
                  refine zwW_ro IhL17 (a := 99) (n := 9) (kd := 27) (base := 100) (step := 6) (nx := 93) (by decide +kernel) rfl (by first | decide | exact ⟨by decide, by decide⟩) ?_
                  rw [show ((100 : Nat) : Int) + ((6 : Nat) : Int) * 8 = 148 from rfl]
                  refine zwW_p [(1, 1, 0)] (q := 94) (ls' := [(2, 37), (0, cL9), (0, iL17)]) (st' := [(0, cL9), (2, 148), (0, iL17), (2, (101 + 6 * v20 + cL9))]) (by decide +kernel) rfl ?_
                  refine zwW_ro IhL17 (a := 148) (n := 5) (kd := 26) (base := 149) (step := 1) (nx := 95) (by decide +kernel) rfl (by first | omega | exact ⟨by omega, by omega⟩) ?_
                  rw [show ((149 : Nat) : Int) + ((1 : Nat) : Int) * cL9 = (149 + cL9) by omega]
                  refine zwW_p [(1, 2, 0)] (q := 96) (ls' := [(2, 37), (0, cL9), (0, iL17)]) (st' := [(0, iL17), (2, (149 + cL9)), (0, iL17), (2, (101 + 6 * v20 + cL9))]) (by decide +kernel) rfl ?_
                  refine zwW_al IhL17 (a1 := 149) (a2 := 153) (kd := 20) (n := 840) (t := 0) (lo := -2147483648) (hi := 2147483647) (nx := 97) (by decide +kernel) (by first | omega | exact ⟨by omega, by omega⟩) (by first | omega | exact ⟨by omega, by omega⟩) ?_
                  intro v21 ev21 lv21 uv21
                  refine zwW_as3 IhL17 (s := v20) (c := cL9) (nx := 98) (by decide +kernel) rfl (by first | omega | exact ⟨by omega, by omega⟩) (by first | omega | exact ⟨by omega, by omega⟩) (by first | omega | exact ⟨by omega, by omega⟩) (by first | omega | exact ⟨by omega, by omega⟩) ?_
                  intro h22 eh22 Ih22
                  have th22_37_52 : fld h22 37 52 = fld hL17 37 52 := by rw [eh22]; exact fld_wr (by omega)
                  have th22_37_53 : fld h22 37 53 = fld hL17 37 53 := by rw [eh22]; exact fld_wr (by omega)
                  have Kh22_164 : fld h22 164 = fld h5 164 := (funext fun j => fld_oth eh22 (Or.inl (by omega))).trans iL17_5
                  have E97 : h22 = wr hL17 (101 + 6 * fld h 37 52 + cL9) (iL17).toNat v21 := by rw [eh22, show (101 + 6 * v20 + cL9) = 101 + 6 * fld h 37 52 + cL9 by omega]
                  have H97 := (iL17_3).w E97 (Or.inr (Or.inl (by first | omega | exact ⟨by omega, by omega⟩)))
                  have A97 := (iL17_4).w E97 (Or.inr (Or.inl rfl)) (by omega) (by omega)
                  have L97 : fld h22 (155 + fld h 37 52) (cL9).toNat = fld h5 163 (cL9).toNat := by rw [E97, fld_wr (Or.inl (by omega))]; exact iL17_6
                  have C97 := (iL17_7).s E97 (by omega) (by rw [ev21, iL17_3 _ (by omega) (by omega) (by omega) (by omega)]) (IhL17.c2 (s := fld h 37 52) (c := cL9) (by first | omega | exact ⟨by omega, by omega⟩) (by first | omega | exact ⟨by omega, by omega⟩)).2.2 (by omega)
                  have Rh22 : zMR ms30 h h22 := RhL17.w (a1 := 101) (a2 := 153) (j1 := 0) (j2 := 840) (by decide +kernel) (by first | omega | exact ⟨by omega, by omega⟩) (by first | omega | exact ⟨by omega, by omega⟩) eh22
                  refine zwW_inc (i := 2) (c := 1) (x := iL17) (nx := 101) (by decide +kernel) rfl (by first | omega | exact ⟨by omega, by omega⟩) (ls' := [(2, 37), (0, cL9), (0, (iL17 + 1))]) rfl ?_
                  refine zwW_p [(24, 59, 0)] (q := 59) (ls' := [(2, 37), (0, cL9), (0, (iL17 + 1))]) (st' := []) (by decide +kernel) rfl ?_
                  exact IHL17 ((1000 - (iL17 + 1))).toNat (by omega) (iL17 + 1) h22 rfl (by omega) (by omega) (by omega) (H97) (A97) (Kh22_164) (L97) (C97) Ih22 Rh22
            exact L17 _ 0 h16 rfl (by omega) (by omega) (by omega) (H56) (A56) (Kh16_164) (L56) (fun j hj => by omega) Ih16 Rh16
      exact L9 _ 0 (9, 0) h8 rfl (by omega) (by omega) (by omega) (fun r k1 k2 k3 k4 => funext (fun j => fld_oth eh8 (Or.inl (by omega)))) (fun q hq => by omega) (Kh8_164) Ih8 Rh8
    · refine zwW_p [(0, -1, 0)] (q := 24) (ls' := [(2, 37), (9, 0), (9, 0)]) (st' := [(0, -1)]) (by decide +kernel) rfl ?_
      refine zwW_ret (nx := 25) (a := 0) (b := 0) (by decide +kernel) rfl (Or.inl rfl) ?_
      exact ⟨Ih5, Rh5, by omega, hW.mr I Qh5 (by decide +kernel)⟩
  · refine zwW_p [(0, -1, 0)] (q := 10) (ls' := [(2, 37), (9, 0), (9, 0)]) (st' := [(0, -1)]) (by decide +kernel) rfl ?_
    refine zwW_ret (nx := 11) (a := 0) (b := 0) (by decide +kernel) rfl (Or.inl rfl) ?_
    exact ⟨I, R, by omega, hW⟩
end
section
/-! the model's hands -/
section ZV
variable {sc : List Int} {h g h1 : Hp} {ms : Zms}
def zdis (ms : Zms) (a b : Nat) : Bool := ms.all (fun q => Nat.blt q.2.1 a || Nat.blt b q.1)
theorem zMR.rg (R : zMR ms h g) {a b : Nat} (e : zdis ms a b = true) {r : Int} (k1 : (a : Int) ≤ r) (k2 : r ≤ (b : Int)) : fld g r = fld h r := by
  refine funext (fun j => R.2.2.2 _ j (fun f hf hz => ?_))
  have e := List.all_eq_true.mp e f hf
  rw [Bool.or_eq_true] at e
  rcases e with e | e
  · have := Nat.le_of_ble_eq_true e
    omega
  · have := Nat.le_of_ble_eq_true e
    omega
def zHd (ms : Zms) : Bool := zqN ms 37 37 87 88 && (zdis ms 91 91 && zdis ms 188 188)
theorem zHd.of (R : zMR ms h g) (e : zHd ms = true) : fld g 37 87 = fld h 37 87 ∧ fld g 91 = fld h 91 ∧ fld g 188 = fld h 188 := by
  unfold zHd at e
  simp only [Bool.and_eq_true] at e
  exact ⟨R.f1 87 e.1, R.rg e.2.1 (r := 91) (by decide) (by decide), R.rg e.2.2 (r := 188) (by decide) (by decide)⟩
def zMYn (h : Hp) (n : Int) : Prop := n ≤ 6 ∧ ∀ (k i : Nat), (k : Int) < n → (i : Int) < fld h 37 87 → fld h (192 + (k : Int)) i ≠ 0 → 0 < fld h 91 (fld h 188 i).toNat
def zMYr (h : Hp) (k n : Int) : Prop := (0 ≤ k ∧ k ≤ 5) ∧ ∀ i : Nat, (i : Int) < n → fld h (192 + k) i ≠ 0 → 0 < fld h 91 (fld h 188 i).toNat
theorem zMYn.mr {n : Int} (H : zMYn h n) (R : zMR ms h g) (e : (zHd ms && zdis ms 192 197) = true) : zMYn g n := by
  rw [Bool.and_eq_true] at e
  obtain ⟨e1, e2, e3⟩ := zHd.of R e.1
  refine ⟨H.1, fun k i hk hi hm => ?_⟩
  have h6 := H.1
  rw [R.rg e.2 (by omega) (by omega)] at hm
  rw [e2, e3]
  exact H.2 k i hk (by omega) hm
theorem zMYr.mr {k n : Int} (H : zMYr h k n) (R : zMR ms h g) (e : (zHd ms && zdis ms 192 197) = true) : zMYr g k n := by
  rw [Bool.and_eq_true] at e
  obtain ⟨e1, e2, e3⟩ := zHd.of R e.1
  refine ⟨H.1, fun i hi hm => ?_⟩
  have h6 := H.1
  rw [R.rg e.2 (by omega) (by omega)] at hm
  rw [e2, e3]
  exact H.2 i hi hm
theorem zMYn.w {n k x : Int} {j : Nat} (H : zMYn h n) (e : g = wr h (192 + k) j x) (hk : n ≤ k ∧ k ≤ 5) : zMYn g n := by
  refine ⟨H.1, fun q i hq hi hm => ?_⟩
  rw [e, fld_wr (Or.inl (by omega))] at hi
  rw [e, fld_wr (Or.inl (by omega))] at hm
  rw [e, fld_wr (Or.inl (by omega)), fld_wr (Or.inl (by omega))]
  exact H.2 q i hq hi hm
theorem zMYr.s {k n x : Int} {j : Nat} (H : zMYr h k n) (e : g = wr h (192 + k) j x) (hj : (j : Int) = n) (hs : sh h (192 + k) = some (22, 6)) (h6 : j < 6) (hx : x ≠ 0 → 0 < fld h 91 (fld h 188 j).toNat) : zMYr g k (n + 1) := by
  have hk := H.1
  refine ⟨H.1, fun i hi hm => ?_⟩
  rw [e, fld_wr (Or.inl (by omega)), fld_wr (Or.inl (by omega))]
  by_cases hq : i = j
  · rw [hq, e, fld_wr_eq hs h6] at hm
    rw [hq]
    exact hx hm
  · rw [e, fld_wr (Or.inr hq)] at hm
    exact H.2 i (by omega) hm
theorem zMYn.s {k n : Int} (H : zMYn h k) (H2 : zMYr h k n) (hn : fld h 37 87 ≤ n) : zMYn h (k + 1) := by
  refine ⟨by have := H2.1; omega, fun q i hq hi hm => ?_⟩
  by_cases hz : (q : Int) < k
  · exact H.2 q i hz hi hm
  · have : (q : Int) = k := by omega
    rw [this] at hm
    exact H2.2 i (by omega) hm
/-- the line so far: who weaves has a loom -/
def zLn (h : Hp) (n : Int) : Prop := n ≤ 6 ∧ ∀ (k i : Nat), (k : Int) < n → (i : Int) < fld h 37 87 → fld h 189 k = (i : Int) → 0 < fld h 91 (fld h 188 i).toNat
theorem zLn.mr {n : Int} (H : zLn h n) (R : zMR ms h g) (e : (zHd ms && zdis ms 189 189) = true) : zLn g n := by
  rw [Bool.and_eq_true] at e
  obtain ⟨e1, e2, e3⟩ := zHd.of R e.1
  refine ⟨H.1, fun k i hk hi hm => ?_⟩
  rw [R.rg e.2 (r := 189) (by decide) (by decide)] at hm
  rw [e2, e3]
  exact H.2 k i hk (by omega) hm
/-- a run that leaves the line's start alone -/
theorem zLn.kp {n : Int} (H : zLn h n) (R : zMR ms h g) (e : zHd ms = true) (hl : ∀ j : Nat, (j : Int) < n → fld g 189 j = fld h 189 j) : zLn g n := by
  obtain ⟨e1, e2, e3⟩ := zHd.of R e
  refine ⟨H.1, fun k i hk hi hm => ?_⟩
  rw [hl k hk] at hm
  rw [e2, e3]
  exact H.2 k i hk (by omega) hm
theorem zLn.s {n x : Int} {j : Nat} (H : zLn h n) (e : g = wr h 189 j x) (hj : (j : Int) = n) (h6 : j < 6) (hs : sh h 189 = some (20, 6)) (hx : ∀ i : Nat, (i : Int) < fld h 37 87 → x = (i : Int) → 0 < fld h 91 (fld h 188 i).toNat) : zLn g (n + 1) := by
  refine ⟨by omega, fun k i hk hi hm => ?_⟩
  rw [e, fld_wr (Or.inl (by decide))] at hi
  rw [e, fld_wr (Or.inl (by decide)), fld_wr (Or.inl (by decide))]
  by_cases hq : k = j
  · rw [hq, e, fld_wr_eq hs h6] at hm
    exact hx i hi hm
  · rw [e, fld_wr (Or.inr hq)] at hm
    exact H.2 k i (by omega) hi hm
def msT : Zms := [(37, 37, 88, 91), (189, 189, 0, 6), (190, 190, 0, 6)]
def zTX (sc : List Int) (D : Nat) (k : Int) : Prop := ∀ h : Hp, zI h → zMYn h (fld h 37 86) → zLn h k → k ≤ fld h 37 86 → zwC sc D 213 [(2, 37), (0, k)] h (zwRv (fun g => zI g ∧ zMR msT h g ∧ ∀ j : Nat, (j : Int) < k → fld g 189 j = fld h 189 j))
end ZV
end
section
/-! contracts of methods -/
def ms253 : Zms := [(37, 37, 88, 89), (37, 37, 89, 90), (37, 37, 90, 91), (190, 190, 0, 6)]
-- WheelLandModel.looks()V
theorem m253 {sc : List Int} (h : Hp) (I : zI h) (hL : zLn h (fld h 37 86)) : zwC sc 1 253 [(2, 37)] h (zwRv (fun g => zI g ∧ zMR ms253 h g)) := by
  refine zwC_of (D := 0) 7 (by decide +kernel) rfl (ls := [(2, 37), (9, 0), (9, 0), (9, 0), (9, 0), (9, 0), (9, 0)]) rfl ?_
  have R : zMR ms253 h h := zMR.rf _ _
  refine zwW_p [(0, 0, 0), (2, 1, 0), (0, 0, 0), (2, 2, 0), (0, 0, 0), (2, 3, 0), (0, 0, 0), (2, 4, 0)] (q := 9) (ls' := [(2, 37), (0, 0), (0, 0), (0, 0), (0, 0), (9, 0), (9, 0)]) (st' := []) (by decide +kernel) rfl ?_
  have L1 : ∀ (n : Nat) (nL1 dL1 wL1 iL1 : Int) (w5L1 w6L1 : Vl), n = ((100 - iL1)).toNat → (0 ≤ iL1 ∧ iL1 ≤ 6) → (-2147483648 ≤ nL1 ∧ nL1 ≤ 2147483647) → (-2147483648 ≤ dL1 ∧ dL1 ≤ 2147483647) → (-2147483648 ≤ wL1 ∧ wL1 ≤ 2147483647) → zwW sc (0) 253 9 [(2, 37), (0, nL1), (0, dL1), (0, wL1), (0, iL1), w5L1, w6L1] [] h (zwRv (fun g => zI g ∧ zMR ms253 h g)) := by
    intro n
    induction n using Nat.strongRecOn with
    | ind n IHL1 =>
      intro nL1 dL1 wL1 iL1 w5L1 w6L1 hnL1 iL1_0 iL1_1 iL1_2 iL1_3
      refine zwW_p [(1, 4, 0), (1, 0, 2)] (q := 12) (ls' := [(2, 37), (0, nL1), (0, dL1), (0, wL1), (0, iL1), w5L1, w6L1]) (st' := [(2, 37), (0, iL1)]) (by decide +kernel) rfl ?_
      refine zwW_gs I (kd := 13) (bn := 87) (n := 97) (t := 0) (lo := 0) (hi := 6) (nx := 15) (by decide +kernel) ?_
      intro v2 ev2 lv2 uv2
      refine zwic_ge (q := 140) (nx := 18) (by decide +kernel) (fun c3 => ?_) (fun c3 => ?_)
      · refine zwW_p [(1, 1, 0), (1, 0, 2)] (q := 142) (ls' := [(2, 37), (0, nL1), (0, dL1), (0, wL1), (0, iL1), w5L1, w6L1]) (st' := [(2, 37), (0, nL1)]) (by decide +kernel) rfl ?_
        refine zwW_gs I (kd := 13) (bn := 88) (n := 97) (t := 0) (lo := -2147483648) (hi := 2147483647) (nx := 145) (by decide +kernel) ?_
        intro v4 ev4 lv4 uv4
        refine zwic_lt (q := 180) (nx := 148) (by decide +kernel) (fun c5 => ?_) (fun c5 => ?_)
        · refine zwW_retv (nx := 181) (a := 0) (b := 0) (by decide +kernel) ?_
          exact ⟨I, R⟩
        · refine zwW_p [(1, 1, 0), (1, 0, 2)] (q := 150) (ls' := [(2, 37), (0, nL1), (0, dL1), (0, wL1), (0, iL1), w5L1, w6L1]) (st' := [(2, 37), (0, nL1)]) (by decide +kernel) rfl ?_
          refine zwW_gs I (kd := 13) (bn := 88) (n := 97) (t := 0) (lo := -2147483648) (hi := 2147483647) (nx := 153) (by decide +kernel) ?_
          intro v6 ev6 lv6 uv6
          refine zwic_ne (q := 181) (nx := 156) (by decide +kernel) (fun c7 => ?_) (fun c7 => ?_)
          · refine zwW_p [(1, 0, 2), (1, 1, 0)] (q := 183) (ls' := [(2, 37), (0, nL1), (0, dL1), (0, wL1), (0, iL1), w5L1, w6L1]) (st' := [(0, nL1), (2, 37)]) (by decide +kernel) rfl ?_
            refine zwW_ps I (kd := 13) (bn := 88) (n := 97) (lo := -2147483648) (hi := 2147483647) (nx := 186) (by decide +kernel) (by first | omega | exact ⟨by omega, by omega⟩) ?_
            intro h8 eh8 Ih8
            have Rh8 : zMR ms253 h h8 := R.w (a1 := 37) (a2 := 37) (j1 := 88) (j2 := 89) (by decide +kernel) (by first | decide | exact ⟨by decide, by decide⟩) (by first | decide | exact ⟨by decide, by decide⟩) eh8
            refine zwW_p [(1, 0, 2), (1, 2, 0)] (q := 188) (ls' := [(2, 37), (0, nL1), (0, dL1), (0, wL1), (0, iL1), w5L1, w6L1]) (st' := [(0, dL1), (2, 37)]) (by decide +kernel) rfl ?_
            refine zwW_ps Ih8 (kd := 13) (bn := 89) (n := 97) (lo := -2147483648) (hi := 2147483647) (nx := 191) (by decide +kernel) (by first | omega | exact ⟨by omega, by omega⟩) ?_
            intro h9 eh9 Ih9
            have Rh9 : zMR ms253 h h9 := Rh8.w (a1 := 37) (a2 := 37) (j1 := 89) (j2 := 90) (by decide +kernel) (by first | decide | exact ⟨by decide, by decide⟩) (by first | decide | exact ⟨by decide, by decide⟩) eh9
            refine zwW_p [(1, 0, 2), (1, 3, 0)] (q := 193) (ls' := [(2, 37), (0, nL1), (0, dL1), (0, wL1), (0, iL1), w5L1, w6L1]) (st' := [(0, wL1), (2, 37)]) (by decide +kernel) rfl ?_
            refine zwW_ps Ih9 (kd := 13) (bn := 90) (n := 97) (lo := -2147483648) (hi := 2147483647) (nx := 196) (by decide +kernel) (by first | omega | exact ⟨by omega, by omega⟩) ?_
            intro h10 eh10 Ih10
            have Rh10 : zMR ms253 h h10 := Rh9.w (a1 := 37) (a2 := 37) (j1 := 90) (j2 := 91) (by decide +kernel) (by first | decide | exact ⟨by decide, by decide⟩) (by first | decide | exact ⟨by decide, by decide⟩) eh10
            refine zwW_p [(0, 0, 0), (2, 4, 0)] (q := 199) (ls' := [(2, 37), (0, nL1), (0, dL1), (0, wL1), (0, 0), w5L1, w6L1]) (st' := []) (by decide +kernel) rfl ?_
            have L11 : ∀ (n : Nat) (kL11 : Int) (hL11 : Hp), n = ((100 - kL11)).toNat → (0 ≤ kL11 ∧ kL11 ≤ 6) → zI hL11 → zMR ms253 h hL11 → zwW sc (0) 253 199 [(2, 37), (0, nL1), (0, dL1), (0, wL1), (0, kL11), w5L1, w6L1] [] hL11 (zwRv (fun g => zI g ∧ zMR ms253 h g)) := by
              intro n
              induction n using Nat.strongRecOn with
              | ind n IHL11 =>
                intro kL11 hL11 hnL11 iL11_0 IhL11 RhL11
                refine zwW_p [(1, 4, 0), (1, 0, 2)] (q := 202) (ls' := [(2, 37), (0, nL1), (0, dL1), (0, wL1), (0, kL11), w5L1, w6L1]) (st' := [(2, 37), (0, kL11)]) (by decide +kernel) rfl ?_
                refine zwW_gs IhL11 (kd := 13) (bn := 86) (n := 97) (t := 0) (lo := 0) (hi := 6) (nx := 205) (by decide +kernel) ?_
                intro v12 ev12 lv12 uv12
                refine zwic_ge (q := 228) (nx := 208) (by decide +kernel) (fun c13 => ?_) (fun c13 => ?_)
                · refine zwW_retv (nx := 229) (a := 0) (b := 0) (by decide +kernel) ?_
                  exact ⟨IhL11, RhL11⟩
                · refine zwW_p [(1, 0, 2)] (q := 209) (ls' := [(2, 37), (0, nL1), (0, dL1), (0, wL1), (0, kL11), w5L1, w6L1]) (st' := [(2, 37)]) (by decide +kernel) rfl ?_
                  refine zwW_gc IhL11 (kd := 13) (bn := 83) (n := 97) (c := 190) (nx := 212) (by decide +kernel) ?_
                  refine zwW_p [(1, 4, 0), (1, 0, 2)] (q := 215) (ls' := [(2, 37), (0, nL1), (0, dL1), (0, wL1), (0, kL11), w5L1, w6L1]) (st' := [(2, 37), (0, kL11), (2, 190)]) (by decide +kernel) rfl ?_
                  refine zwW_gc IhL11 (kd := 13) (bn := 82) (n := 97) (c := 189) (nx := 218) (by decide +kernel) ?_
                  refine zwW_p [(1, 4, 0)] (q := 220) (ls' := [(2, 37), (0, nL1), (0, dL1), (0, wL1), (0, kL11), w5L1, w6L1]) (st' := [(0, kL11), (2, 189), (0, kL11), (2, 190)]) (by decide +kernel) rfl ?_
                  refine zwW_al IhL11 (a1 := 189) (a2 := 189) (kd := 20) (n := 6) (t := 0) (lo := -1) (hi := 5) (nx := 221) (by decide +kernel) (by first | decide | exact ⟨by decide, by decide⟩) (by first | omega | exact ⟨by omega, by omega⟩) ?_
                  intro v14 ev14 lv14 uv14
                  refine zwW_as IhL11 (a1 := 190) (a2 := 190) (n := 6) (lo := -1) (hi := 5) (nx := 222) (by decide +kernel) (by first | decide | exact ⟨by decide, by decide⟩) (by first | omega | exact ⟨by omega, by omega⟩) (by first | omega | exact ⟨by omega, by omega⟩) ?_
                  intro h15 eh15 Ih15
                  have Rh15 : zMR ms253 h h15 := RhL11.w (a1 := 190) (a2 := 190) (j1 := 0) (j2 := 6) (by decide +kernel) (by first | decide | exact ⟨by decide, by decide⟩) (by first | omega | exact ⟨by omega, by omega⟩) eh15
                  refine zwW_inc (i := 4) (c := 1) (x := kL11) (nx := 225) (by decide +kernel) rfl (by first | omega | exact ⟨by omega, by omega⟩) (ls' := [(2, 37), (0, nL1), (0, dL1), (0, wL1), (0, (kL11 + 1)), w5L1, w6L1]) rfl ?_
                  refine zwW_p [(24, 199, 0)] (q := 199) (ls' := [(2, 37), (0, nL1), (0, dL1), (0, wL1), (0, (kL11 + 1)), w5L1, w6L1]) (st' := []) (by decide +kernel) rfl ?_
                  exact IHL11 ((100 - (kL11 + 1))).toNat (by omega) (kL11 + 1) h15 rfl (by omega) Ih15 Rh15
            exact L11 _ 0 h10 rfl (by omega) Ih10 Rh10
          · refine zwW_p [(1, 2, 0), (1, 0, 2)] (q := 158) (ls' := [(2, 37), (0, nL1), (0, dL1), (0, wL1), (0, iL1), w5L1, w6L1]) (st' := [(2, 37), (0, dL1)]) (by decide +kernel) rfl ?_
            refine zwW_gs I (kd := 13) (bn := 89) (n := 97) (t := 0) (lo := -2147483648) (hi := 2147483647) (nx := 161) (by decide +kernel) ?_
            intro v16 ev16 lv16 uv16
            refine zwic_gt (q := 180) (nx := 164) (by decide +kernel) (fun c17 => ?_) (fun c17 => ?_)
            · refine zwW_retv (nx := 181) (a := 0) (b := 0) (by decide +kernel) ?_
              exact ⟨I, R⟩
            · refine zwW_p [(1, 2, 0), (1, 0, 2)] (q := 166) (ls' := [(2, 37), (0, nL1), (0, dL1), (0, wL1), (0, iL1), w5L1, w6L1]) (st' := [(2, 37), (0, dL1)]) (by decide +kernel) rfl ?_
              refine zwW_gs I (kd := 13) (bn := 89) (n := 97) (t := 0) (lo := -2147483648) (hi := 2147483647) (nx := 169) (by decide +kernel) ?_
              intro v18 ev18 lv18 uv18
              refine zwic_ne (q := 181) (nx := 172) (by decide +kernel) (fun c19 => ?_) (fun c19 => ?_)
              · refine zwW_p [(1, 0, 2), (1, 1, 0)] (q := 183) (ls' := [(2, 37), (0, nL1), (0, dL1), (0, wL1), (0, iL1), w5L1, w6L1]) (st' := [(0, nL1), (2, 37)]) (by decide +kernel) rfl ?_
                refine zwW_ps I (kd := 13) (bn := 88) (n := 97) (lo := -2147483648) (hi := 2147483647) (nx := 186) (by decide +kernel) (by first | omega | exact ⟨by omega, by omega⟩) ?_
                intro h20 eh20 Ih20
                have Rh20 : zMR ms253 h h20 := R.w (a1 := 37) (a2 := 37) (j1 := 88) (j2 := 89) (by decide +kernel) (by first | decide | exact ⟨by decide, by decide⟩) (by first | decide | exact ⟨by decide, by decide⟩) eh20
                refine zwW_p [(1, 0, 2), (1, 2, 0)] (q := 188) (ls' := [(2, 37), (0, nL1), (0, dL1), (0, wL1), (0, iL1), w5L1, w6L1]) (st' := [(0, dL1), (2, 37)]) (by decide +kernel) rfl ?_
                refine zwW_ps Ih20 (kd := 13) (bn := 89) (n := 97) (lo := -2147483648) (hi := 2147483647) (nx := 191) (by decide +kernel) (by first | omega | exact ⟨by omega, by omega⟩) ?_
                intro h21 eh21 Ih21
                have Rh21 : zMR ms253 h h21 := Rh20.w (a1 := 37) (a2 := 37) (j1 := 89) (j2 := 90) (by decide +kernel) (by first | decide | exact ⟨by decide, by decide⟩) (by first | decide | exact ⟨by decide, by decide⟩) eh21
                refine zwW_p [(1, 0, 2), (1, 3, 0)] (q := 193) (ls' := [(2, 37), (0, nL1), (0, dL1), (0, wL1), (0, iL1), w5L1, w6L1]) (st' := [(0, wL1), (2, 37)]) (by decide +kernel) rfl ?_
                refine zwW_ps Ih21 (kd := 13) (bn := 90) (n := 97) (lo := -2147483648) (hi := 2147483647) (nx := 196) (by decide +kernel) (by first | omega | exact ⟨by omega, by omega⟩) ?_
                intro h22 eh22 Ih22
                have Rh22 : zMR ms253 h h22 := Rh21.w (a1 := 37) (a2 := 37) (j1 := 90) (j2 := 91) (by decide +kernel) (by first | decide | exact ⟨by decide, by decide⟩) (by first | decide | exact ⟨by decide, by decide⟩) eh22
                refine zwW_p [(0, 0, 0), (2, 4, 0)] (q := 199) (ls' := [(2, 37), (0, nL1), (0, dL1), (0, wL1), (0, 0), w5L1, w6L1]) (st' := []) (by decide +kernel) rfl ?_
                have L23 : ∀ (n : Nat) (kL23 : Int) (hL23 : Hp), n = ((100 - kL23)).toNat → (0 ≤ kL23 ∧ kL23 ≤ 6) → zI hL23 → zMR ms253 h hL23 → zwW sc (0) 253 199 [(2, 37), (0, nL1), (0, dL1), (0, wL1), (0, kL23), w5L1, w6L1] [] hL23 (zwRv (fun g => zI g ∧ zMR ms253 h g)) := by
                  intro n
                  induction n using Nat.strongRecOn with
                  | ind n IHL23 =>
                    intro kL23 hL23 hnL23 iL23_0 IhL23 RhL23
                    refine zwW_p [(1, 4, 0), (1, 0, 2)] (q := 202) (ls' := [(2, 37), (0, nL1), (0, dL1), (0, wL1), (0, kL23), w5L1, w6L1]) (st' := [(2, 37), (0, kL23)]) (by decide +kernel) rfl ?_
                    refine zwW_gs IhL23 (kd := 13) (bn := 86) (n := 97) (t := 0) (lo := 0) (hi := 6) (nx := 205) (by decide +kernel) ?_
                    intro v24 ev24 lv24 uv24
                    refine zwic_ge (q := 228) (nx := 208) (by decide +kernel) (fun c25 => ?_) (fun c25 => ?_)
                    · refine zwW_retv (nx := 229) (a := 0) (b := 0) (by decide +kernel) ?_
                      exact ⟨IhL23, RhL23⟩
                    · refine zwW_p [(1, 0, 2)] (q := 209) (ls' := [(2, 37), (0, nL1), (0, dL1), (0, wL1), (0, kL23), w5L1, w6L1]) (st' := [(2, 37)]) (by decide +kernel) rfl ?_
                      refine zwW_gc IhL23 (kd := 13) (bn := 83) (n := 97) (c := 190) (nx := 212) (by decide +kernel) ?_
                      refine zwW_p [(1, 4, 0), (1, 0, 2)] (q := 215) (ls' := [(2, 37), (0, nL1), (0, dL1), (0, wL1), (0, kL23), w5L1, w6L1]) (st' := [(2, 37), (0, kL23), (2, 190)]) (by decide +kernel) rfl ?_
                      refine zwW_gc IhL23 (kd := 13) (bn := 82) (n := 97) (c := 189) (nx := 218) (by decide +kernel) ?_
                      refine zwW_p [(1, 4, 0)] (q := 220) (ls' := [(2, 37), (0, nL1), (0, dL1), (0, wL1), (0, kL23), w5L1, w6L1]) (st' := [(0, kL23), (2, 189), (0, kL23), (2, 190)]) (by decide +kernel) rfl ?_
                      refine zwW_al IhL23 (a1 := 189) (a2 := 189) (kd := 20) (n := 6) (t := 0) (lo := -1) (hi := 5) (nx := 221) (by decide +kernel) (by first | decide | exact ⟨by decide, by decide⟩) (by first | omega | exact ⟨by omega, by omega⟩) ?_
                      intro v26 ev26 lv26 uv26
                      refine zwW_as IhL23 (a1 := 190) (a2 := 190) (n := 6) (lo := -1) (hi := 5) (nx := 222) (by decide +kernel) (by first | decide | exact ⟨by decide, by decide⟩) (by first | omega | exact ⟨by omega, by omega⟩) (by first | omega | exact ⟨by omega, by omega⟩) ?_
                      intro h27 eh27 Ih27
                      have Rh27 : zMR ms253 h h27 := RhL23.w (a1 := 190) (a2 := 190) (j1 := 0) (j2 := 6) (by decide +kernel) (by first | decide | exact ⟨by decide, by decide⟩) (by first | omega | exact ⟨by omega, by omega⟩) eh27
                      refine zwW_inc (i := 4) (c := 1) (x := kL23) (nx := 225) (by decide +kernel) rfl (by first | omega | exact ⟨by omega, by omega⟩) (ls' := [(2, 37), (0, nL1), (0, dL1), (0, wL1), (0, (kL23 + 1)), w5L1, w6L1]) rfl ?_
                      refine zwW_p [(24, 199, 0)] (q := 199) (ls' := [(2, 37), (0, nL1), (0, dL1), (0, wL1), (0, (kL23 + 1)), w5L1, w6L1]) (st' := []) (by decide +kernel) rfl ?_
                      exact IHL23 ((100 - (kL23 + 1))).toNat (by omega) (kL23 + 1) h27 rfl (by omega) Ih27 Rh27
                exact L23 _ 0 h22 rfl (by omega) Ih22 Rh22
              · refine zwW_p [(1, 3, 0), (1, 0, 2)] (q := 174) (ls' := [(2, 37), (0, nL1), (0, dL1), (0, wL1), (0, iL1), w5L1, w6L1]) (st' := [(2, 37), (0, wL1)]) (by decide +kernel) rfl ?_
                refine zwW_gs I (kd := 13) (bn := 90) (n := 97) (t := 0) (lo := -2147483648) (hi := 2147483647) (nx := 177) (by decide +kernel) ?_
                intro v28 ev28 lv28 uv28
                refine zwic_lt (q := 181) (nx := 180) (by decide +kernel) (fun c29 => ?_) (fun c29 => ?_)
                · refine zwW_p [(1, 0, 2), (1, 1, 0)] (q := 183) (ls' := [(2, 37), (0, nL1), (0, dL1), (0, wL1), (0, iL1), w5L1, w6L1]) (st' := [(0, nL1), (2, 37)]) (by decide +kernel) rfl ?_
                  refine zwW_ps I (kd := 13) (bn := 88) (n := 97) (lo := -2147483648) (hi := 2147483647) (nx := 186) (by decide +kernel) (by first | omega | exact ⟨by omega, by omega⟩) ?_
                  intro h30 eh30 Ih30
                  have Rh30 : zMR ms253 h h30 := R.w (a1 := 37) (a2 := 37) (j1 := 88) (j2 := 89) (by decide +kernel) (by first | decide | exact ⟨by decide, by decide⟩) (by first | decide | exact ⟨by decide, by decide⟩) eh30
                  refine zwW_p [(1, 0, 2), (1, 2, 0)] (q := 188) (ls' := [(2, 37), (0, nL1), (0, dL1), (0, wL1), (0, iL1), w5L1, w6L1]) (st' := [(0, dL1), (2, 37)]) (by decide +kernel) rfl ?_
                  refine zwW_ps Ih30 (kd := 13) (bn := 89) (n := 97) (lo := -2147483648) (hi := 2147483647) (nx := 191) (by decide +kernel) (by first | omega | exact ⟨by omega, by omega⟩) ?_
                  intro h31 eh31 Ih31
                  have Rh31 : zMR ms253 h h31 := Rh30.w (a1 := 37) (a2 := 37) (j1 := 89) (j2 := 90) (by decide +kernel) (by first | decide | exact ⟨by decide, by decide⟩) (by first | decide | exact ⟨by decide, by decide⟩) eh31
                  refine zwW_p [(1, 0, 2), (1, 3, 0)] (q := 193) (ls' := [(2, 37), (0, nL1), (0, dL1), (0, wL1), (0, iL1), w5L1, w6L1]) (st' := [(0, wL1), (2, 37)]) (by decide +kernel) rfl ?_
                  refine zwW_ps Ih31 (kd := 13) (bn := 90) (n := 97) (lo := -2147483648) (hi := 2147483647) (nx := 196) (by decide +kernel) (by first | omega | exact ⟨by omega, by omega⟩) ?_
                  intro h32 eh32 Ih32
                  have Rh32 : zMR ms253 h h32 := Rh31.w (a1 := 37) (a2 := 37) (j1 := 90) (j2 := 91) (by decide +kernel) (by first | decide | exact ⟨by decide, by decide⟩) (by first | decide | exact ⟨by decide, by decide⟩) eh32
                  refine zwW_p [(0, 0, 0), (2, 4, 0)] (q := 199) (ls' := [(2, 37), (0, nL1), (0, dL1), (0, wL1), (0, 0), w5L1, w6L1]) (st' := []) (by decide +kernel) rfl ?_
                  have L33 : ∀ (n : Nat) (kL33 : Int) (hL33 : Hp), n = ((100 - kL33)).toNat → (0 ≤ kL33 ∧ kL33 ≤ 6) → zI hL33 → zMR ms253 h hL33 → zwW sc (0) 253 199 [(2, 37), (0, nL1), (0, dL1), (0, wL1), (0, kL33), w5L1, w6L1] [] hL33 (zwRv (fun g => zI g ∧ zMR ms253 h g)) := by
                    intro n
                    induction n using Nat.strongRecOn with
                    | ind n IHL33 =>
                      intro kL33 hL33 hnL33 iL33_0 IhL33 RhL33
                      refine zwW_p [(1, 4, 0), (1, 0, 2)] (q := 202) (ls' := [(2, 37), (0, nL1), (0, dL1), (0, wL1), (0, kL33), w5L1, w6L1]) (st' := [(2, 37), (0, kL33)]) (by decide +kernel) rfl ?_
                      refine zwW_gs IhL33 (kd := 13) (bn := 86) (n := 97) (t := 0) (lo := 0) (hi := 6) (nx := 205) (by decide +kernel) ?_
                      intro v34 ev34 lv34 uv34
                      refine zwic_ge (q := 228) (nx := 208) (by decide +kernel) (fun c35 => ?_) (fun c35 => ?_)
                      · refine zwW_retv (nx := 229) (a := 0) (b := 0) (by decide +kernel) ?_
                        exact ⟨IhL33, RhL33⟩
                      · refine zwW_p [(1, 0, 2)] (q := 209) (ls' := [(2, 37), (0, nL1), (0, dL1), (0, wL1), (0, kL33), w5L1, w6L1]) (st' := [(2, 37)]) (by decide +kernel) rfl ?_
                        refine zwW_gc IhL33 (kd := 13) (bn := 83) (n := 97) (c := 190) (nx := 212) (by decide +kernel) ?_
                        refine zwW_p [(1, 4, 0), (1, 0, 2)] (q := 215) (ls' := [(2, 37), (0, nL1), (0, dL1), (0, wL1), (0, kL33), w5L1, w6L1]) (st' := [(2, 37), (0, kL33), (2, 190)]) (by decide +kernel) rfl ?_
                        refine zwW_gc IhL33 (kd := 13) (bn := 82) (n := 97) (c := 189) (nx := 218) (by decide +kernel) ?_
                        refine zwW_p [(1, 4, 0)] (q := 220) (ls' := [(2, 37), (0, nL1), (0, dL1), (0, wL1), (0, kL33), w5L1, w6L1]) (st' := [(0, kL33), (2, 189), (0, kL33), (2, 190)]) (by decide +kernel) rfl ?_
                        refine zwW_al IhL33 (a1 := 189) (a2 := 189) (kd := 20) (n := 6) (t := 0) (lo := -1) (hi := 5) (nx := 221) (by decide +kernel) (by first | decide | exact ⟨by decide, by decide⟩) (by first | omega | exact ⟨by omega, by omega⟩) ?_
                        intro v36 ev36 lv36 uv36
                        refine zwW_as IhL33 (a1 := 190) (a2 := 190) (n := 6) (lo := -1) (hi := 5) (nx := 222) (by decide +kernel) (by first | decide | exact ⟨by decide, by decide⟩) (by first | omega | exact ⟨by omega, by omega⟩) (by first | omega | exact ⟨by omega, by omega⟩) ?_
                        intro h37 eh37 Ih37
                        have Rh37 : zMR ms253 h h37 := RhL33.w (a1 := 190) (a2 := 190) (j1 := 0) (j2 := 6) (by decide +kernel) (by first | decide | exact ⟨by decide, by decide⟩) (by first | omega | exact ⟨by omega, by omega⟩) eh37
                        refine zwW_inc (i := 4) (c := 1) (x := kL33) (nx := 225) (by decide +kernel) rfl (by first | omega | exact ⟨by omega, by omega⟩) (ls' := [(2, 37), (0, nL1), (0, dL1), (0, wL1), (0, (kL33 + 1)), w5L1, w6L1]) rfl ?_
                        refine zwW_p [(24, 199, 0)] (q := 199) (ls' := [(2, 37), (0, nL1), (0, dL1), (0, wL1), (0, (kL33 + 1)), w5L1, w6L1]) (st' := []) (by decide +kernel) rfl ?_
                        exact IHL33 ((100 - (kL33 + 1))).toNat (by omega) (kL33 + 1) h37 rfl (by omega) Ih37 Rh37
                  exact L33 _ 0 h32 rfl (by omega) Ih32 Rh32
                · refine zwW_retv (nx := 181) (a := 0) (b := 0) (by decide +kernel) ?_
                  exact ⟨I, R⟩
      · refine zwW_p [(0, 0, 0), (2, 5, 0), (0, 0, 0), (2, 6, 0)] (q := 24) (ls' := [(2, 37), (0, nL1), (0, dL1), (0, wL1), (0, iL1), (0, 0), (0, 0)]) (st' := []) (by decide +kernel) rfl ?_
        have L38 : ∀ (n : Nat) (dL38 lL38 kL38 : Int), n = ((100 - kL38)).toNat → (0 ≤ kL38 ∧ kL38 ≤ 6) → (-2147483648 ≤ dL38 ∧ dL38 ≤ 2147483647) → (-2147483648 ≤ lL38 ∧ lL38 ≤ 2147483647) → (lL38 = 0 ∨ 0 < fld h 91 (fld h 188 (iL1).toNat).toNat) → zwW sc (0) 253 24 [(2, 37), (0, nL1), (0, dL38), (0, wL1), (0, iL1), (0, lL38), (0, kL38)] [] h (zwRv (fun g => zI g ∧ zMR ms253 h g)) := by
          intro n
          induction n using Nat.strongRecOn with
          | ind n IHL38 =>
            intro dL38 lL38 kL38 hnL38 iL38_0 iL38_1 iL38_2 iL38_3
            refine zwW_p [(1, 6, 0), (1, 0, 2)] (q := 27) (ls' := [(2, 37), (0, nL1), (0, dL38), (0, wL1), (0, iL1), (0, lL38), (0, kL38)]) (st' := [(2, 37), (0, kL38)]) (by decide +kernel) rfl ?_
            refine zwW_gs I (kd := 13) (bn := 86) (n := 97) (t := 0) (lo := 0) (hi := 6) (nx := 30) (by decide +kernel) ?_
            intro v39 ev39 lv39 uv39
            refine zwic_ge (q := 79) (nx := 33) (by decide +kernel) (fun c40 => ?_) (fun c40 => ?_)
            · refine zwW_p [(1, 1, 0), (1, 5, 0)] (q := 82) (ls' := [(2, 37), (0, nL1), (0, dL38), (0, wL1), (0, iL1), (0, lL38), (0, kL38)]) (st' := [(0, lL38), (0, nL1)]) (by decide +kernel) rfl ?_
              refine zwW_adw (nx := 83) (by decide +kernel) ?_
              intro v41 ev41 lv41 uv41
              refine zwW_p [(2, 1, 0), (1, 5, 0)] (q := 86) (ls' := [(2, 37), (0, v41), (0, dL38), (0, wL1), (0, iL1), (0, lL38), (0, kL38)]) (st' := [(0, lL38)]) (by decide +kernel) rfl ?_
              refine zwif_ne (q := 93) (nx := 89) (by decide +kernel) (fun c42 => ?_) (fun c42 => ?_)
              · refine zwW_p [(1, 5, 0), (1, 0, 2)] (q := 96) (ls' := [(2, 37), (0, v41), (0, dL38), (0, wL1), (0, iL1), (0, lL38), (0, kL38)]) (st' := [(2, 37), (0, lL38)]) (by decide +kernel) rfl ?_
                refine zwW_gc I (kd := 13) (bn := 32) (n := 97) (c := 91) (nx := 99) (by decide +kernel) ?_
                refine zwW_p [(1, 0, 2)] (q := 100) (ls' := [(2, 37), (0, v41), (0, dL38), (0, wL1), (0, iL1), (0, lL38), (0, kL38)]) (st' := [(2, 37), (2, 91), (0, lL38)]) (by decide +kernel) rfl ?_
                refine zwW_gc I (kd := 13) (bn := 81) (n := 97) (c := 188) (nx := 103) (by decide +kernel) ?_
                refine zwW_p [(1, 4, 0)] (q := 105) (ls' := [(2, 37), (0, v41), (0, dL38), (0, wL1), (0, iL1), (0, lL38), (0, kL38)]) (st' := [(0, iL1), (2, 188), (2, 91), (0, lL38)]) (by decide +kernel) rfl ?_
                refine zwW_al I (a1 := 188) (a2 := 188) (kd := 20) (n := 6) (t := 0) (lo := 0) (hi := 19) (nx := 106) (by decide +kernel) (by first | decide | exact ⟨by decide, by decide⟩) (by first | omega | exact ⟨by omega, by omega⟩) ?_
                intro v43 ev43 lv43 uv43
                refine zwW_al I (a1 := 91) (a2 := 91) (kd := 20) (n := 20) (t := 0) (lo := -2147483648) (hi := 2147483647) (nx := 107) (by decide +kernel) (by first | decide | exact ⟨by decide, by decide⟩) (by first | omega | exact ⟨by omega, by omega⟩) ?_
                intro v44 ev44 lv44 uv44
                refine zwW_adw (nx := 108) (by decide +kernel) ?_
                intro v45 ev45 lv45 uv45
                refine zwW_p [(0, 1, 0)] (q := 109) (ls' := [(2, 37), (0, v41), (0, dL38), (0, wL1), (0, iL1), (0, lL38), (0, kL38)]) (st' := [(0, 1), (0, v45)]) (by decide +kernel) rfl ?_
                refine zwW_sbw (nx := 110) (by decide +kernel) ?_
                intro v46 ev46 lv46 uv46
                refine zwW_p [(1, 0, 2)] (q := 111) (ls' := [(2, 37), (0, v41), (0, dL38), (0, wL1), (0, iL1), (0, lL38), (0, kL38)]) (st' := [(2, 37), (0, v46)]) (by decide +kernel) rfl ?_
                refine zwW_gc I (kd := 13) (bn := 32) (n := 97) (c := 91) (nx := 114) (by decide +kernel) ?_
                refine zwW_p [(1, 0, 2)] (q := 115) (ls' := [(2, 37), (0, v41), (0, dL38), (0, wL1), (0, iL1), (0, lL38), (0, kL38)]) (st' := [(2, 37), (2, 91), (0, v46)]) (by decide +kernel) rfl ?_
                refine zwW_gc I (kd := 13) (bn := 81) (n := 97) (c := 188) (nx := 118) (by decide +kernel) ?_
                refine zwW_p [(1, 4, 0)] (q := 120) (ls' := [(2, 37), (0, v41), (0, dL38), (0, wL1), (0, iL1), (0, lL38), (0, kL38)]) (st' := [(0, iL1), (2, 188), (2, 91), (0, v46)]) (by decide +kernel) rfl ?_
                refine zwW_al I (a1 := 188) (a2 := 188) (kd := 20) (n := 6) (t := 0) (lo := 0) (hi := 19) (nx := 121) (by decide +kernel) (by first | decide | exact ⟨by decide, by decide⟩) (by first | omega | exact ⟨by omega, by omega⟩) ?_
                intro v47 ev47 lv47 uv47
                have X121 : v47 = fld h 188 (iL1).toNat := by omega
                refine zwW_al I (a1 := 91) (a2 := 91) (kd := 20) (n := 20) (t := 0) (lo := -2147483648) (hi := 2147483647) (nx := 122) (by decide +kernel) (by first | decide | exact ⟨by decide, by decide⟩) (by first | omega | exact ⟨by omega, by omega⟩) ?_
                intro v48 ev48 lv48 uv48
                have G122 : v48 = fld h 91 (fld h 188 (iL1).toNat).toNat := by rw [ev48, X121]
                refine zwW_any2 (a := 3) (nx := 123) (by decide +kernel) rfl (by first | omega | exact ⟨by omega, by omega⟩) (Or.inl (by omega)) ?_
                intro v49 lv49 uv49
                refine zwW_p [(2, 6, 0), (1, 6, 0), (1, 3, 0)] (q := 128) (ls' := [(2, 37), (0, v41), (0, dL38), (0, wL1), (0, iL1), (0, lL38), (0, v49)]) (st' := [(0, wL1), (0, v49)]) (by decide +kernel) rfl ?_
                refine zwic_le (q := 134) (nx := 131) (by decide +kernel) (fun c50 => ?_) (fun c50 => ?_)
                · refine zwW_inc (i := 4) (c := 1) (x := iL1) (nx := 137) (by decide +kernel) rfl (by first | omega | exact ⟨by omega, by omega⟩) (ls' := [(2, 37), (0, v41), (0, dL38), (0, wL1), (0, (iL1 + 1)), (0, lL38), (0, v49)]) rfl ?_
                  refine zwW_p [(24, 9, 0)] (q := 9) (ls' := [(2, 37), (0, v41), (0, dL38), (0, wL1), (0, (iL1 + 1)), (0, lL38), (0, v49)]) (st' := []) (by decide +kernel) rfl ?_
                  exact IHL1 ((100 - (iL1 + 1))).toNat (by omega) v41 dL38 wL1 (iL1 + 1) (0, lL38) (0, v49) rfl (by omega) (by omega) (by omega) (by omega)
                · refine zwW_p [(1, 6, 0), (2, 3, 0)] (q := 134) (ls' := [(2, 37), (0, v41), (0, dL38), (0, v49), (0, iL1), (0, lL38), (0, v49)]) (st' := []) (by decide +kernel) rfl ?_
                  refine zwW_inc (i := 4) (c := 1) (x := iL1) (nx := 137) (by decide +kernel) rfl (by first | omega | exact ⟨by omega, by omega⟩) (ls' := [(2, 37), (0, v41), (0, dL38), (0, v49), (0, (iL1 + 1)), (0, lL38), (0, v49)]) rfl ?_
                  refine zwW_p [(24, 9, 0)] (q := 9) (ls' := [(2, 37), (0, v41), (0, dL38), (0, v49), (0, (iL1 + 1)), (0, lL38), (0, v49)]) (st' := []) (by decide +kernel) rfl ?_
                  exact IHL1 ((100 - (iL1 + 1))).toNat (by omega) v41 dL38 v49 (iL1 + 1) (0, lL38) (0, v49) rfl (by omega) (by omega) (by omega) (by omega)
              · refine zwW_p [(0, 0, 0), (24, 123, 0), (2, 6, 0), (1, 6, 0), (1, 3, 0)] (q := 128) (ls' := [(2, 37), (0, v41), (0, dL38), (0, wL1), (0, iL1), (0, lL38), (0, 0)]) (st' := [(0, wL1), (0, 0)]) (by decide +kernel) rfl ?_
                refine zwic_le (q := 134) (nx := 131) (by decide +kernel) (fun c51 => ?_) (fun c51 => ?_)
                · refine zwW_inc (i := 4) (c := 1) (x := iL1) (nx := 137) (by decide +kernel) rfl (by first | omega | exact ⟨by omega, by omega⟩) (ls' := [(2, 37), (0, v41), (0, dL38), (0, wL1), (0, (iL1 + 1)), (0, lL38), (0, 0)]) rfl ?_
                  refine zwW_p [(24, 9, 0)] (q := 9) (ls' := [(2, 37), (0, v41), (0, dL38), (0, wL1), (0, (iL1 + 1)), (0, lL38), (0, 0)]) (st' := []) (by decide +kernel) rfl ?_
                  exact IHL1 ((100 - (iL1 + 1))).toNat (by omega) v41 dL38 wL1 (iL1 + 1) (0, lL38) (0, 0) rfl (by omega) (by omega) (by omega) (by omega)
                · refine zwW_p [(1, 6, 0), (2, 3, 0)] (q := 134) (ls' := [(2, 37), (0, v41), (0, dL38), (0, 0), (0, iL1), (0, lL38), (0, 0)]) (st' := []) (by decide +kernel) rfl ?_
                  refine zwW_inc (i := 4) (c := 1) (x := iL1) (nx := 137) (by decide +kernel) rfl (by first | omega | exact ⟨by omega, by omega⟩) (ls' := [(2, 37), (0, v41), (0, dL38), (0, 0), (0, (iL1 + 1)), (0, lL38), (0, 0)]) rfl ?_
                  refine zwW_p [(24, 9, 0)] (q := 9) (ls' := [(2, 37), (0, v41), (0, dL38), (0, 0), (0, (iL1 + 1)), (0, lL38), (0, 0)]) (st' := []) (by decide +kernel) rfl ?_
                  exact IHL1 ((100 - (iL1 + 1))).toNat (by omega) v41 dL38 0 (iL1 + 1) (0, lL38) (0, 0) rfl (by omega) (by omega) (by omega) (by omega)
            · refine zwW_p [(1, 0, 2)] (q := 34) (ls' := [(2, 37), (0, nL1), (0, dL38), (0, wL1), (0, iL1), (0, lL38), (0, kL38)]) (st' := [(2, 37)]) (by decide +kernel) rfl ?_
              refine zwW_gc I (kd := 13) (bn := 82) (n := 97) (c := 189) (nx := 37) (by decide +kernel) ?_
              refine zwW_p [(1, 6, 0)] (q := 39) (ls' := [(2, 37), (0, nL1), (0, dL38), (0, wL1), (0, iL1), (0, lL38), (0, kL38)]) (st' := [(0, kL38), (2, 189)]) (by decide +kernel) rfl ?_
              refine zwW_al I (a1 := 189) (a2 := 189) (kd := 20) (n := 6) (t := 0) (lo := -1) (hi := 5) (nx := 40) (by decide +kernel) (by first | decide | exact ⟨by decide, by decide⟩) (by first | omega | exact ⟨by omega, by omega⟩) ?_
              intro v52 ev52 lv52 uv52
              refine zwW_p [(1, 4, 0)] (q := 42) (ls' := [(2, 37), (0, nL1), (0, dL38), (0, wL1), (0, iL1), (0, lL38), (0, kL38)]) (st' := [(0, iL1), (0, v52)]) (by decide +kernel) rfl ?_
              refine zwic_eq (q := 48) (nx := 45) (by decide +kernel) (fun c53 => ?_) (fun c53 => ?_)
              · have P48 := hL.2 (kL38).toNat (iL1).toNat (by omega) (by omega) (by omega)
                refine zwW_p [(1, 5, 0), (1, 0, 2)] (q := 51) (ls' := [(2, 37), (0, nL1), (0, dL38), (0, wL1), (0, iL1), (0, lL38), (0, kL38)]) (st' := [(2, 37), (0, lL38)]) (by decide +kernel) rfl ?_
                refine zwW_gc I (kd := 13) (bn := 80) (n := 97) (c := 187) (nx := 54) (by decide +kernel) ?_
                refine zwW_p [(1, 6, 0)] (q := 56) (ls' := [(2, 37), (0, nL1), (0, dL38), (0, wL1), (0, iL1), (0, lL38), (0, kL38)]) (st' := [(0, kL38), (2, 187), (0, lL38)]) (by decide +kernel) rfl ?_
                refine zwW_al I (a1 := 187) (a2 := 187) (kd := 20) (n := 6) (t := 0) (lo := -2147483648) (hi := 2147483647) (nx := 57) (by decide +kernel) (by first | decide | exact ⟨by decide, by decide⟩) (by first | omega | exact ⟨by omega, by omega⟩) ?_
                intro v54 ev54 lv54 uv54
                refine zwW_adw (nx := 58) (by decide +kernel) ?_
                intro v55 ev55 lv55 uv55
                refine zwW_p [(2, 5, 0), (1, 2, 0), (1, 0, 2)] (q := 62) (ls' := [(2, 37), (0, nL1), (0, dL38), (0, wL1), (0, iL1), (0, v55), (0, kL38)]) (st' := [(2, 37), (0, dL38)]) (by decide +kernel) rfl ?_
                refine zwW_gc I (kd := 13) (bn := 85) (n := 97) (c := 198) (nx := 65) (by decide +kernel) ?_
                refine zwW_p [(1, 6, 0)] (q := 67) (ls' := [(2, 37), (0, nL1), (0, dL38), (0, wL1), (0, iL1), (0, v55), (0, kL38)]) (st' := [(0, kL38), (2, 198), (0, dL38)]) (by decide +kernel) rfl ?_
                refine zwW_ro I (a := 198) (n := 6) (kd := 26) (base := 199) (step := 1) (nx := 68) (by decide +kernel) rfl (by first | omega | exact ⟨by omega, by omega⟩) ?_
                rw [show ((199 : Nat) : Int) + ((1 : Nat) : Int) * kL38 = (199 + kL38) by omega]
                refine zwW_p [(1, 4, 0)] (q := 70) (ls' := [(2, 37), (0, nL1), (0, dL38), (0, wL1), (0, iL1), (0, v55), (0, kL38)]) (st' := [(0, iL1), (2, (199 + kL38)), (0, dL38)]) (by decide +kernel) rfl ?_
                refine zwW_al I (a1 := 199) (a2 := 204) (kd := 20) (n := 6) (t := 0) (lo := -1) (hi := 4608) (nx := 71) (by decide +kernel) (by first | omega | exact ⟨by omega, by omega⟩) (by first | omega | exact ⟨by omega, by omega⟩) ?_
                intro v56 ev56 lv56 uv56
                refine zwW_adw (nx := 72) (by decide +kernel) ?_
                intro v57 ev57 lv57 uv57
                refine zwW_p [(2, 2, 0)] (q := 73) (ls' := [(2, 37), (0, nL1), (0, v57), (0, wL1), (0, iL1), (0, v55), (0, kL38)]) (st' := []) (by decide +kernel) rfl ?_
                refine zwW_inc (i := 6) (c := 1) (x := kL38) (nx := 76) (by decide +kernel) rfl (by first | omega | exact ⟨by omega, by omega⟩) (ls' := [(2, 37), (0, nL1), (0, v57), (0, wL1), (0, iL1), (0, v55), (0, (kL38 + 1))]) rfl ?_
                refine zwW_p [(24, 24, 0)] (q := 24) (ls' := [(2, 37), (0, nL1), (0, v57), (0, wL1), (0, iL1), (0, v55), (0, (kL38 + 1))]) (st' := []) (by decide +kernel) rfl ?_
                exact IHL38 ((100 - (kL38 + 1))).toNat (by omega) v57 v55 (kL38 + 1) rfl (by omega) (by omega) (by omega) (by omega)
              · refine zwW_p [(24, 73, 0)] (q := 73) (ls' := [(2, 37), (0, nL1), (0, dL38), (0, wL1), (0, iL1), (0, lL38), (0, kL38)]) (st' := []) (by decide +kernel) rfl ?_
                refine zwW_inc (i := 6) (c := 1) (x := kL38) (nx := 76) (by decide +kernel) rfl (by first | omega | exact ⟨by omega, by omega⟩) (ls' := [(2, 37), (0, nL1), (0, dL38), (0, wL1), (0, iL1), (0, lL38), (0, (kL38 + 1))]) rfl ?_
                refine zwW_p [(24, 24, 0)] (q := 24) (ls' := [(2, 37), (0, nL1), (0, dL38), (0, wL1), (0, iL1), (0, lL38), (0, (kL38 + 1))]) (st' := []) (by decide +kernel) rfl ?_
                exact IHL38 ((100 - (kL38 + 1))).toNat (by omega) dL38 lL38 (kL38 + 1) rfl (by omega) (by omega) (by omega) (by omega)
        exact L38 _ dL1 0 0 rfl (by omega) (by omega) (by omega) (by omega)
  exact L1 _ 0 0 0 0 (9, 0) (9, 0) rfl (by omega) (by omega) (by omega) (by omega)
-- WheelLandModel.tries(I)V
theorem m213 {sc : List Int} (a : Int) (D0 : Nat) (pa : 0 ≤ a ∧ a ≤ 6) (HT : a < 6 → zTX sc D0 (a + 1)) : zTX sc (D0 + 10) a := by
  intro h I hY hL pk
  refine zwC_of (D := D0 + 9) 3 (by decide +kernel) rfl (ls := [(2, 37), (0, a), (9, 0)]) rfl ?_
  have R : zMR msT h h := zMR.rf _ _
  refine zwW_p [(1, 1, 0), (1, 0, 2)] (q := 2) (ls' := [(2, 37), (0, a), (9, 0)]) (st' := [(2, 37), (0, a)]) (by decide +kernel) rfl ?_
  refine zwW_gs I (kd := 13) (bn := 86) (n := 97) (t := 0) (lo := 0) (hi := 6) (nx := 5) (by decide +kernel) ?_
  intro v1 ev1 lv1 uv1
  refine zwic_ne (q := 13) (nx := 8) (by decide +kernel) (fun c2 => ?_) (fun c2 => ?_)
  · refine zwW_p [(0, 0, 0), (2, 2, 0)] (q := 15) (ls' := [(2, 37), (0, a), (0, 0)]) (st' := []) (by decide +kernel) rfl ?_
    have L3 : ∀ (n : Nat) (iL3 : Int) (hL3 : Hp), n = ((100 - iL3)).toNat → (0 ≤ iL3 ∧ iL3 ≤ 6) → (zMYn hL3 (fld hL3 37 86)) → (zLn hL3 a) → (∀ j : Nat, (j : Int) < a → fld hL3 189 j = fld h 189 j) → (fld hL3 37 86 = fld h 37 86 ∧ fld hL3 37 87 = fld h 37 87) → (a < fld h 37 86) → zI hL3 → zMR msT h hL3 → zwW sc (D0 + 9) 213 15 [(2, 37), (0, a), (0, iL3)] [] hL3 (zwRv (fun g => zI g ∧ zMR msT h g ∧ ∀ j : Nat, (j : Int) < a → fld g 189 j = fld h 189 j)) := by
      intro n
      induction n using Nat.strongRecOn with
      | ind n IHL3 =>
        intro iL3 hL3 hnL3 iL3_0 iL3_1 iL3_2 iL3_3 iL3_4 iL3_5 IhL3 RhL3
        refine zwW_p [(1, 2, 0), (1, 0, 2)] (q := 17) (ls' := [(2, 37), (0, a), (0, iL3)]) (st' := [(2, 37), (0, iL3)]) (by decide +kernel) rfl ?_
        refine zwW_gs IhL3 (kd := 13) (bn := 87) (n := 97) (t := 0) (lo := 0) (hi := 6) (nx := 20) (by decide +kernel) ?_
        intro v4 ev4 lv4 uv4
        refine zwic_ge (q := 57) (nx := 23) (by decide +kernel) (fun c5 => ?_) (fun c5 => ?_)
        · have x57 := IhL3.b (a1 := 37) (a2 := 37) (j1 := 86) (j2 := 87) (lo := 0) (hi := 6) (by decide +kernel) (r := 37) (j := 86) (by decide) (by decide) (by decide) (by decide)
          refine zwW_p [(1, 0, 2)] (q := 58) (ls' := [(2, 37), (0, a), (0, iL3)]) (st' := [(2, 37)]) (by decide +kernel) rfl ?_
          refine zwW_gc IhL3 (kd := 13) (bn := 82) (n := 97) (c := 189) (nx := 61) (by decide +kernel) ?_
          refine zwW_p [(1, 1, 0), (0, -1, 0)] (q := 63) (ls' := [(2, 37), (0, a), (0, iL3)]) (st' := [(0, -1), (0, a), (2, 189)]) (by decide +kernel) rfl ?_
          refine zwW_as IhL3 (a1 := 189) (a2 := 189) (n := 6) (lo := -1) (hi := 5) (nx := 64) (by decide +kernel) (by first | decide | exact ⟨by decide, by decide⟩) (by first | omega | exact ⟨by omega, by omega⟩) (by first | decide | exact ⟨by decide, by decide⟩) ?_
          intro h6 eh6 Ih6
          have th6_37_86 : fld h6 37 86 = fld hL3 37 86 := by rw [eh6]; exact fld_wr (by omega)
          have th6_37_87 : fld h6 37 87 = fld hL3 37 87 := by rw [eh6]; exact fld_wr (by omega)
          have L63 : zLn h6 (a + 1) := (iL3_2).s eh6 (by omega) (by omega) (IhL3.s (a1 := 189) (a2 := 189) (by decide +kernel) (by decide) (by decide)) (fun i hi hx => by omega)
          have E63 := eh6
          have Y63 := (iL3_1).mr (zMR.one (a1 := 189) (a2 := 189) (j1 := 0) (j2 := 6) (by first | decide | exact ⟨by decide, by decide⟩) (by first | omega | exact ⟨by omega, by omega⟩) eh6) (by decide +kernel)
          have V63 : fld h6 37 86 = fld hL3 37 86 := fld_oth eh6 (Or.inl (by decide))
          rw [← V63] at Y63
          have Rh6 : zMR msT h h6 := RhL3.w (a1 := 189) (a2 := 189) (j1 := 0) (j2 := 6) (by decide +kernel) (by first | decide | exact ⟨by decide, by decide⟩) (by first | omega | exact ⟨by omega, by omega⟩) eh6
          refine zwW_p [(1, 0, 2), (1, 1, 0), (0, 1, 0)] (q := 67) (ls' := [(2, 37), (0, a), (0, iL3)]) (st' := [(0, 1), (0, a), (2, 37)]) (by decide +kernel) rfl ?_
          refine zwW_add (nx := 68) (by decide +kernel) (by first | omega | exact ⟨by omega, by omega⟩) ?_
          refine zwW_cmv Ih6 (op := 60) (k' := 213) (n := 1) (kd := 13) (m := 97) (nx := 71) (r := 37) (tl := [(0, (a + 1))]) (st' := []) (by decide +kernel) rfl (by decide +kernel) (Nat.ble_eq_true_of_le (by omega)) (HT (by omega) h6 Ih6 Y63 L63 (by omega)) ?_
          rintro h8 ⟨Ih8, Qh8, f7⟩
          have Rh8 : zMR msT h h8 := Rh6.tr Qh8 (by decide +kernel)
          have th8_37_86 : fld h8 37 86 = fld h6 37 86 := Qh8.f (a1 := 37) (a2 := 37) (j1 := 86) (j2 := 87) (by decide +kernel) (by first | decide | exact ⟨by decide, by decide⟩) (by first | decide | exact ⟨by decide, by decide⟩)
          have th8_37_87 : fld h8 37 87 = fld h6 37 87 := Qh8.f (a1 := 37) (a2 := 37) (j1 := 87) (j2 := 88) (by decide +kernel) (by first | decide | exact ⟨by decide, by decide⟩) (by first | decide | exact ⟨by decide, by decide⟩)
          have Z71 : ∀ j : Nat, (j : Int) < a → fld h8 189 j = fld h 189 j := fun j hj => (f7 j (by omega)).trans ((fld_oth E63 (Or.inr (by omega))).trans (iL3_3 j hj))
          refine zwW_retv (nx := 72) (a := 0) (b := 0) (by decide +kernel) ?_
          exact ⟨Ih8, Rh8, Z71⟩
        · have x23 := IhL3.b (a1 := 37) (a2 := 37) (j1 := 86) (j2 := 87) (lo := 0) (hi := 6) (by decide +kernel) (r := 37) (j := 86) (by decide) (by decide) (by decide) (by decide)
          refine zwW_p [(1, 0, 2)] (q := 24) (ls' := [(2, 37), (0, a), (0, iL3)]) (st' := [(2, 37)]) (by decide +kernel) rfl ?_
          refine zwW_gc IhL3 (kd := 13) (bn := 84) (n := 97) (c := 191) (nx := 27) (by decide +kernel) ?_
          refine zwW_p [(1, 1, 0)] (q := 28) (ls' := [(2, 37), (0, a), (0, iL3)]) (st' := [(0, a), (2, 191)]) (by decide +kernel) rfl ?_
          refine zwW_ro IhL3 (a := 191) (n := 6) (kd := 29) (base := 192) (step := 1) (nx := 29) (by decide +kernel) rfl (by first | omega | exact ⟨by omega, by omega⟩) ?_
          rw [show ((192 : Nat) : Int) + ((1 : Nat) : Int) * a = (192 + a) by omega]
          refine zwW_p [(1, 2, 0)] (q := 30) (ls' := [(2, 37), (0, a), (0, iL3)]) (st' := [(0, iL3), (2, (192 + a))]) (by decide +kernel) rfl ?_
          refine zwW_al IhL3 (a1 := 192) (a2 := 197) (kd := 22) (n := 6) (t := 0) (lo := 0) (hi := 1) (nx := 31) (by decide +kernel) (by first | omega | exact ⟨by omega, by omega⟩) (by first | omega | exact ⟨by omega, by omega⟩) ?_
          intro v9 ev9 lv9 uv9
          have M31 : fld hL3 (192 + a) (iL3).toNat = v9 := by omega
          refine zwif_ne (q := 37) (nx := 34) (by decide +kernel) (fun c10 => ?_) (fun c10 => ?_)
          · refine zwW_p [(1, 0, 2)] (q := 38) (ls' := [(2, 37), (0, a), (0, iL3)]) (st' := [(2, 37)]) (by decide +kernel) rfl ?_
            refine zwW_gc IhL3 (kd := 13) (bn := 82) (n := 97) (c := 189) (nx := 41) (by decide +kernel) ?_
            refine zwW_p [(1, 1, 0), (1, 2, 0)] (q := 43) (ls' := [(2, 37), (0, a), (0, iL3)]) (st' := [(0, iL3), (0, a), (2, 189)]) (by decide +kernel) rfl ?_
            refine zwW_as IhL3 (a1 := 189) (a2 := 189) (n := 6) (lo := -1) (hi := 5) (nx := 44) (by decide +kernel) (by first | decide | exact ⟨by decide, by decide⟩) (by first | omega | exact ⟨by omega, by omega⟩) (by first | omega | exact ⟨by omega, by omega⟩) ?_
            intro h11 eh11 Ih11
            have th11_37_86 : fld h11 37 86 = fld hL3 37 86 := by rw [eh11]; exact fld_wr (by omega)
            have th11_37_87 : fld h11 37 87 = fld hL3 37 87 := by rw [eh11]; exact fld_wr (by omega)
            have L43 : zLn h11 (a + 1) := (iL3_2).s eh11 (by omega) (by omega) (IhL3.s (a1 := 189) (a2 := 189) (by decide +kernel) (by decide) (by decide)) (fun i hi hx => (iL3_1).2 a.toNat i (by omega) hi (by rw [show ((a.toNat : Nat) : Int) = a by omega, show i = (iL3).toNat by omega]; omega))
            have E43 := eh11
            have Y43 := (iL3_1).mr (zMR.one (a1 := 189) (a2 := 189) (j1 := 0) (j2 := 6) (by first | decide | exact ⟨by decide, by decide⟩) (by first | omega | exact ⟨by omega, by omega⟩) eh11) (by decide +kernel)
            have V43 : fld h11 37 86 = fld hL3 37 86 := fld_oth eh11 (Or.inl (by decide))
            rw [← V43] at Y43
            have Rh11 : zMR msT h h11 := RhL3.w (a1 := 189) (a2 := 189) (j1 := 0) (j2 := 6) (by decide +kernel) (by first | decide | exact ⟨by decide, by decide⟩) (by first | omega | exact ⟨by omega, by omega⟩) eh11
            refine zwW_p [(1, 0, 2), (1, 1, 0), (0, 1, 0)] (q := 47) (ls' := [(2, 37), (0, a), (0, iL3)]) (st' := [(0, 1), (0, a), (2, 37)]) (by decide +kernel) rfl ?_
            refine zwW_add (nx := 48) (by decide +kernel) (by first | omega | exact ⟨by omega, by omega⟩) ?_
            refine zwW_cmv Ih11 (op := 60) (k' := 213) (n := 1) (kd := 13) (m := 97) (nx := 51) (r := 37) (tl := [(0, (a + 1))]) (st' := []) (by decide +kernel) rfl (by decide +kernel) (Nat.ble_eq_true_of_le (by omega)) (HT (by omega) h11 Ih11 Y43 L43 (by omega)) ?_
            rintro h13 ⟨Ih13, Qh13, f12⟩
            have Rh13 : zMR msT h h13 := Rh11.tr Qh13 (by decide +kernel)
            have th13_37_86 : fld h13 37 86 = fld h11 37 86 := Qh13.f (a1 := 37) (a2 := 37) (j1 := 86) (j2 := 87) (by decide +kernel) (by first | decide | exact ⟨by decide, by decide⟩) (by first | decide | exact ⟨by decide, by decide⟩)
            have th13_37_87 : fld h13 37 87 = fld h11 37 87 := Qh13.f (a1 := 37) (a2 := 37) (j1 := 87) (j2 := 88) (by decide +kernel) (by first | decide | exact ⟨by decide, by decide⟩) (by first | decide | exact ⟨by decide, by decide⟩)
            have L48 : zLn h13 a := ((iL3_2).kp (zMR.one (a1 := 189) (a2 := 189) (j1 := 0) (j2 := 6) (by first | decide | exact ⟨by decide, by decide⟩) (by first | omega | exact ⟨by omega, by omega⟩) E43) (by decide +kernel) (fun j hj => fld_oth E43 (Or.inr (by omega)))).kp Qh13 (by decide +kernel) (fun j hj => f12 j (by omega))
            have Y48 := Y43.mr Qh13 (by decide +kernel)
            rw [← Qh13.f1 86 (by decide +kernel)] at Y48
            have Z48 : ∀ j : Nat, (j : Int) < a → fld h13 189 j = fld h 189 j := fun j hj => (f12 j (by omega)).trans ((fld_oth E43 (Or.inr (by omega))).trans (iL3_3 j hj))
            refine zwW_inc (i := 2) (c := 1) (x := iL3) (nx := 54) (by decide +kernel) rfl (by first | omega | exact ⟨by omega, by omega⟩) (ls' := [(2, 37), (0, a), (0, (iL3 + 1))]) rfl ?_
            refine zwW_p [(24, 15, 0)] (q := 15) (ls' := [(2, 37), (0, a), (0, (iL3 + 1))]) (st' := []) (by decide +kernel) rfl ?_
            exact IHL3 ((100 - (iL3 + 1))).toNat (by omega) (iL3 + 1) h13 rfl (by omega) (by first | exact iL3_1 | exact Y48) (by first | exact iL3_2 | exact L48) (by first | exact iL3_3 | exact Z48) (by omega) (by omega) Ih13 Rh13
          · refine zwW_p [(24, 51, 0)] (q := 51) (ls' := [(2, 37), (0, a), (0, iL3)]) (st' := []) (by decide +kernel) rfl ?_
            refine zwW_inc (i := 2) (c := 1) (x := iL3) (nx := 54) (by decide +kernel) rfl (by first | omega | exact ⟨by omega, by omega⟩) (ls' := [(2, 37), (0, a), (0, (iL3 + 1))]) rfl ?_
            refine zwW_p [(24, 15, 0)] (q := 15) (ls' := [(2, 37), (0, a), (0, (iL3 + 1))]) (st' := []) (by decide +kernel) rfl ?_
            exact IHL3 ((100 - (iL3 + 1))).toNat (by omega) (iL3 + 1) hL3 rfl (by omega) (by first | exact iL3_1 | exact Y48) (by first | exact iL3_2 | exact L48) (by first | exact iL3_3 | exact Z48) (by omega) (by omega) IhL3 RhL3
    exact L3 _ 0 h rfl (by omega) (hY) (hL) (fun _ _ => rfl) (by omega) (by omega) I R
  · refine zwW_p [(1, 0, 2)] (q := 9) (ls' := [(2, 37), (0, a), (9, 0)]) (st' := [(2, 37)]) (by decide +kernel) rfl ?_
    refine zwW_cmv I (op := 60) (k' := 253) (n := 0) (kd := 13) (m := 97) (nx := 12) (r := 37) (tl := []) (st' := []) (by decide +kernel) rfl (by decide +kernel) (Nat.ble_eq_true_of_le (by omega)) (m253 h I (by rw [show fld h 37 86 = a by omega]; exact hL)) ?_
    rintro h14 ⟨Ih14, Qh14⟩
    have Rh14 : zMR msT h h14 := R.tr Qh14 (by decide +kernel)
    have th14_37_86 : fld h14 37 86 = fld h 37 86 := Qh14.f (a1 := 37) (a2 := 37) (j1 := 86) (j2 := 87) (by decide +kernel) (by first | decide | exact ⟨by decide, by decide⟩) (by first | decide | exact ⟨by decide, by decide⟩)
    have th14_37_87 : fld h14 37 87 = fld h 37 87 := Qh14.f (a1 := 37) (a2 := 37) (j1 := 87) (j2 := 88) (by decide +kernel) (by first | decide | exact ⟨by decide, by decide⟩) (by first | decide | exact ⟨by decide, by decide⟩)
    refine zwW_retv (nx := 13) (a := 0) (b := 0) (by decide +kernel) ?_
    exact ⟨Ih14, Rh14, fun j hj => congrFun (Qh14.rg (a := 189) (b := 189) (by decide +kernel) (r := 189) (by decide) (by decide)) j⟩
end
section
/-! the model's search, all depths -/
theorem zTX.up {sc : List Int} {D D' : Nat} {a : Int} (hD : D ≤ D') (H : zTX sc D a) : zTX sc D' a := fun h I hY hL pk => zwC_up hD (H h I hY hL pk)
theorem ztries (sc : List Int) : ∀ (n : Nat) (a : Int), n ≤ 6 → a = 6 - (n : Int) → zTX sc (10 * n + 10) a
  | 0, a, _, ha => by
    have ha : a = 6 := by omega
    subst ha
    exact m213 6 0 (by omega) (fun h => by omega)
  | n + 1, a, hn, ha => m213 a (10 * n + 10) (by omega) (fun _ => ztries sc n (a + 1) (by omega) (by omega))
theorem ztries0 (sc : List Int) : zTX sc 80 0 := zTX.up (by decide) (ztries sc 6 0 (by decide) (by decide))
end
