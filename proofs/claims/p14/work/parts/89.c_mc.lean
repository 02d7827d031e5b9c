/-! contracts of methods -/
def ms201_q : Zms := [(37, 37, 42, 47), (37, 37, 47, 48), (149, 153, 0, 840), (163, 163, 0, 5)]
-- WheelLandModel.clauses()Z
set_option maxHeartbeats 4000000 in
theorem m201_q {sc : List Int} (h : Hp) (I : zI h) (t : pT) (n : Nat) (s : pQ) (b : Nat → Int) (B : vB t n h) (K : mTk t n h s.1) (G : mG b s h) (W : rW n s) (pa : s.1 < n) (pf : fld h 37 44 = -1) : zwC sc 231 201 [(2, 37)] h (zwRt 0 (fun x g => zI g ∧ zMR ms201_q h g ∧ ((x = 1 ∧ ((pCls t n s b).1 = true) ∧ (mTk t n g (pCls t n s b).2.1.1) ∧ (mG (pCls t n s b).2.2 (pCls t n s b).2.1 g) ∧ (fld g 37 44 = -1)) ∨ (x = 0 ∧ (¬ (pCls t n s b).1 = true) ∧ (fld g 37 44 = (((pCls t n s b).2.1.1 : Nat) : Int)))))) := by
  refine zwC_of (D := 230) 2 (by decide +kernel) rfl (ls := [(2, 37), (9, 0)]) rfl ?_
  have R : zMR ms201_q h h := zMR.rf _ _
  have bc := I.b (a1 := 37) (a2 := 37) (j1 := 47) (j2 := 48) (lo := -1) (hi := 4) (by decide +kernel) (r := 37) (j := 47) (by decide) (by decide) (by decide) (by decide)
  have B2 := B.2.1
  refine zwW_p [(1, 0, 2), (0, -1, 0)] (q := 2) (ls' := [(2, 37), (9, 0)]) (st' := [(0, -1), (2, 37)]) (by decide +kernel) rfl ?_
  refine zwW_ps I (kd := 13) (bn := 47) (n := 97) (lo := -1) (hi := 4) (nx := 5) (by decide +kernel) ⟨by decide, by decide⟩ ?_
  intro h1 eh1 Ih1
  have th1_37_44 : fld h1 37 44 = fld h 37 44 := by rw [eh1]; exact fld_wr (by decide)
  have th1_37_45 : fld h1 37 45 = fld h 37 45 := by rw [eh1]; exact fld_wr (by decide)
  have th1_37_47 : fld h1 37 47 = -1 := by rw [eh1]; exact fld_wr_eq (I.s (a1 := 37) (a2 := 37) (k := 13) (n := 97) (by decide +kernel) (by decide) (by decide)) (by decide)
  have th1_37_41 : fld h1 37 41 = fld h 37 41 := by rw [eh1]; exact fld_wr (by decide)
  have th1_37_42 : fld h1 37 42 = fld h 37 42 := by rw [eh1]; exact fld_wr (by decide)
  have Bh1 : vB t n h1 := B.fr (zMR.one (a1 := 37) (a2 := 37) (j1 := 47) (j2 := 48) ⟨by decide, by decide⟩ ⟨by decide, by decide⟩ eh1) (by decide +kernel)
  have Kh1 := K.fr (zMR.one (a1 := 37) (a2 := 37) (j1 := 47) (j2 := 48) ⟨by decide, by decide⟩ ⟨by decide, by decide⟩ eh1) (by decide +kernel)
  have Gh1 := G.fr (zMR.one (a1 := 37) (a2 := 37) (j1 := 47) (j2 := 48) ⟨by decide, by decide⟩ ⟨by decide, by decide⟩ eh1) (by decide +kernel)
  have Rh1 : zMR ms201_q h h1 := R.w (a1 := 37) (a2 := 37) (j1 := 47) (j2 := 48) (by decide +kernel) ⟨by decide, by decide⟩ ⟨by decide, by decide⟩ eh1
  refine zwW_p [(0, 0, 0), (2, 1, 0)] (q := 7) (ls' := [(2, 37), (0, 0)]) (st' := []) (by decide +kernel) rfl ?_
  have L2 : ∀ (n0 : Nat) (kL2 : Int) (hL2 : Hp), n0 = ((1000 - kL2)).toNat → (vB t n hL2) → (mTk t n hL2 s.1) → (mG b s hL2) → (0 ≤ kL2 ∧ kL2 ≤ 5 ∧ fld hL2 37 44 = -1 ∧ fld hL2 37 41 = fld h 37 41) → ((fld hL2 37 47 = -1 ∧ ∀ j : Nat, (j : Int) < kL2 → ¬ (pK t n s.1 = 1 ∧ pV t n s.1 = 13 + (j : Int))) ∨ (0 ≤ fld hL2 37 47 ∧ fld hL2 37 47 < kL2 ∧ pK t n s.1 = 1 ∧ pV t n s.1 = 13 + fld hL2 37 47)) → zI hL2 → zMR ms201_q h hL2 → zwW sc (230) 201 7 [(2, 37), (0, kL2)] [] hL2 (zwRt 0 (fun x g => zI g ∧ zMR ms201_q h g ∧ ((x = 1 ∧ ((pCls t n s b).1 = true) ∧ (mTk t n g (pCls t n s b).2.1.1) ∧ (mG (pCls t n s b).2.2 (pCls t n s b).2.1 g) ∧ (fld g 37 44 = -1)) ∨ (x = 0 ∧ (¬ (pCls t n s b).1 = true) ∧ (fld g 37 44 = (((pCls t n s b).2.1.1 : Nat) : Int)))))) := by
    intro n0
    induction n0 using Nat.strongRecOn with
    | ind n0 IHL2 =>
      intro kL2 hL2 hnL2 iL2_0 iL2_1 iL2_2 iL2_3 iL2_4 IhL2 RhL2
      refine zwW_p [(1, 1, 0), (0, 5, 0)] (q := 9) (ls' := [(2, 37), (0, kL2)]) (st' := [(0, 5), (0, kL2)]) (by decide +kernel) rfl ?_
      refine zwic_ge (q := 36) (nx := 12) (by decide +kernel) (fun c3 => ?_) (fun c3 => ?_)
      · refine zwW_p [(1, 0, 2), (1, 0, 2)] (q := 38) (ls' := [(2, 37), (0, kL2)]) (st' := [(2, 37), (2, 37)]) (by decide +kernel) rfl ?_
        refine zwW_gs IhL2 (kd := 13) (bn := 47) (n := 97) (t := 0) (lo := -1) (hi := 4) (nx := 41) (by decide +kernel) ?_
        intro v4 ev4 lv4 uv4
        refine zwW_p [(0, -1, 0)] (q := 42) (ls' := [(2, 37), (0, kL2)]) (st' := [(0, -1), (0, v4), (2, 37)]) (by decide +kernel) rfl ?_
        refine zwic_eq (q := 64) (nx := 45) (by decide +kernel) (fun c5 => ?_) (fun c5 => ?_)
        · have NC : ¬ pCc t n s b := by rintro ⟨z1, z2, z3, z4⟩; rcases iL2_4 with ⟨f1, f2⟩ | ⟨f1, f2, f3, f4⟩; exact f2 (pV t n s.1 - 13).toNat (by omega) ⟨z1, by omega⟩; (rcases iL2_2 (pV t n s.1 - 13).toNat (by omega) with ⟨g1, g2⟩ | ⟨B, L, g1, g2, g3, g4⟩; omega; omega)
          refine zwW_p [(0, 0, 0)] (q := 65) (ls' := [(2, 37), (0, kL2)]) (st' := [(0, 0), (2, 37)]) (by decide +kernel) rfl ?_
          refine zwW_cm IhL2 (op := 60) (k' := 247) (n := 1) (kd := 13) (m := 97) (nx := 68) (r := 37) (tl := [(0, 0)]) (st' := []) (by decide +kernel) rfl (by decide +kernel) rfl (m247_p hL2 IhL2 0 t n s.1 iL2_0 iL2_1 (by omega)) ?_
          rintro x h6 ⟨Ih6, Qh6, ⟨rfl, f7, f8, f9⟩ | ⟨rfl, f10, f11⟩⟩
          · exfalso; omega
          · have Rh6 : zMR ms201_q h h6 := RhL2.tr Qh6 (by decide +kernel)
            have Bh6 : vB t n h6 := iL2_0.fr Qh6 (by decide +kernel)
            have Gh6 := iL2_2.fr Qh6 (by decide +kernel)
            have th6_37_45 : fld h6 37 45 = fld hL2 37 45 := Qh6.f (a1 := 37) (a2 := 37) (j1 := 45) (j2 := 46) (by decide +kernel) ⟨by decide, by decide⟩ ⟨by decide, by decide⟩
            have th6_37_47 : fld h6 37 47 = fld hL2 37 47 := Qh6.f (a1 := 37) (a2 := 37) (j1 := 47) (j2 := 48) (by decide +kernel) ⟨by decide, by decide⟩ ⟨by decide, by decide⟩
            have th6_37_41 : fld h6 37 41 = fld hL2 37 41 := Qh6.f (a1 := 37) (a2 := 37) (j1 := 41) (j2 := 42) (by decide +kernel) ⟨by decide, by decide⟩ ⟨by decide, by decide⟩
            refine zwif_ne (q := 73) (nx := 71) (by decide +kernel) (fun c12 => ?_) (fun c12 => ?_)
            · exfalso; omega
            · refine zwW_p [(0, 0, 0)] (q := 72) (ls' := [(2, 37), (0, kL2)]) (st' := [(0, 0)]) (by decide +kernel) rfl ?_
              refine zwW_ret (nx := 73) (a := 1) (b := 0) (by decide +kernel) rfl (Or.inr (Or.inl ⟨rfl, by omega⟩)) ?_
              have TN : ∃ r : Bool × pQ × (Nat → Int), pCls t n s b = r ∧ r.1 = false ∧ fld h6 37 44 = ((r.2.1.1 : Nat) : Int) := by
                first
                | exact ⟨_, pCls_no NC, rfl, f11⟩
                | exact ⟨_, pCls_f CC SF.1, rfl, SF.2⟩
                | exact ⟨_, pCls_s CC SB.1 rfl, rfl, f11⟩
              obtain ⟨rN, tN, bN, fN⟩ := TN
              exact ⟨Ih6, Rh6, Or.inr ⟨rfl, by rw [tN, bN]; exact Bool.false_ne_true, by rw [tN]; exact fN⟩⟩
        · have F45 : pK t n s.1 = 1 ∧ pV t n s.1 = 13 + fld hL2 37 47 := by rcases iL2_4 with ⟨f1, f2⟩ | ⟨f1, f2, f3, f4⟩; omega; exact ⟨f3, f4⟩
          refine zwW_p [(1, 0, 2)] (q := 46) (ls' := [(2, 37), (0, kL2)]) (st' := [(2, 37), (2, 37)]) (by decide +kernel) rfl ?_
          refine zwW_gc IhL2 (kd := 13) (bn := 49) (n := 97) (c := 154) (nx := 49) (by decide +kernel) ?_
          refine zwW_p [(0, 8, 0)] (q := 51) (ls' := [(2, 37), (0, kL2)]) (st' := [(0, 8), (2, 154), (2, 37)]) (by decide +kernel) rfl ?_
          refine zwW_ro IhL2 (a := 154) (n := 9) (kd := 26) (base := 155) (step := 1) (nx := 52) (by decide +kernel) rfl ⟨by decide, by decide⟩ ?_
          rw [show ((155 : Nat) : Int) + ((1 : Nat) : Int) * 8 = 163 from rfl]
          refine zwW_p [(1, 0, 2)] (q := 53) (ls' := [(2, 37), (0, kL2)]) (st' := [(2, 37), (2, 163), (2, 37)]) (by decide +kernel) rfl ?_
          refine zwW_gs IhL2 (kd := 13) (bn := 47) (n := 97) (t := 0) (lo := -1) (hi := 4) (nx := 56) (by decide +kernel) ?_
          intro v13 ev13 lv13 uv13
          refine zwW_al IhL2 (a1 := 155) (a2 := 163) (kd := 20) (n := 5) (t := 0) (lo := 0) (hi := 400) (nx := 57) (by decide +kernel) ⟨by decide, by decide⟩ ⟨by omega, by omega⟩ ?_
          intro v14 ev14 lv14 uv14
          have E57 : v14 = fld hL2 163 (pV t n s.1 - 13).toNat := by rw [ev14]; congr 1; omega
          refine zwif_ne (q := 64) (nx := 60) (by decide +kernel) (fun c15 => ?_) (fun c15 => ?_)
          · have NC : ¬ pCc t n s b := by rintro ⟨z1, z2, z3, z4⟩; rcases iL2_4 with ⟨f1, f2⟩ | ⟨f1, f2, f3, f4⟩; exact f2 (pV t n s.1 - 13).toNat (by omega) ⟨z1, by omega⟩; (rcases iL2_2 (pV t n s.1 - 13).toNat (by omega) with ⟨g1, g2⟩ | ⟨B, L, g1, g2, g3, g4⟩; omega; omega)
            refine zwW_p [(0, 0, 0)] (q := 65) (ls' := [(2, 37), (0, kL2)]) (st' := [(0, 0), (2, 37)]) (by decide +kernel) rfl ?_
            refine zwW_cm IhL2 (op := 60) (k' := 247) (n := 1) (kd := 13) (m := 97) (nx := 68) (r := 37) (tl := [(0, 0)]) (st' := []) (by decide +kernel) rfl (by decide +kernel) rfl (m247_p hL2 IhL2 0 t n s.1 iL2_0 iL2_1 (by omega)) ?_
            rintro x h16 ⟨Ih16, Qh16, ⟨rfl, f17, f18, f19⟩ | ⟨rfl, f20, f21⟩⟩
            · exfalso; omega
            · have Rh16 : zMR ms201_q h h16 := RhL2.tr Qh16 (by decide +kernel)
              have Bh16 : vB t n h16 := iL2_0.fr Qh16 (by decide +kernel)
              have Gh16 := iL2_2.fr Qh16 (by decide +kernel)
              have th16_37_45 : fld h16 37 45 = fld hL2 37 45 := Qh16.f (a1 := 37) (a2 := 37) (j1 := 45) (j2 := 46) (by decide +kernel) ⟨by decide, by decide⟩ ⟨by decide, by decide⟩
              have th16_37_47 : fld h16 37 47 = fld hL2 37 47 := Qh16.f (a1 := 37) (a2 := 37) (j1 := 47) (j2 := 48) (by decide +kernel) ⟨by decide, by decide⟩ ⟨by decide, by decide⟩
              have th16_37_41 : fld h16 37 41 = fld hL2 37 41 := Qh16.f (a1 := 37) (a2 := 37) (j1 := 41) (j2 := 42) (by decide +kernel) ⟨by decide, by decide⟩ ⟨by decide, by decide⟩
              refine zwif_ne (q := 73) (nx := 71) (by decide +kernel) (fun c22 => ?_) (fun c22 => ?_)
              · exfalso; omega
              · refine zwW_p [(0, 0, 0)] (q := 72) (ls' := [(2, 37), (0, kL2)]) (st' := [(0, 0)]) (by decide +kernel) rfl ?_
                refine zwW_ret (nx := 73) (a := 1) (b := 0) (by decide +kernel) rfl (Or.inr (Or.inl ⟨rfl, by omega⟩)) ?_
                have TN : ∃ r : Bool × pQ × (Nat → Int), pCls t n s b = r ∧ r.1 = false ∧ fld h16 37 44 = ((r.2.1.1 : Nat) : Int) := by
                  first
                  | exact ⟨_, pCls_no NC, rfl, f21⟩
                  | exact ⟨_, pCls_f CC SF.1, rfl, SF.2⟩
                  | exact ⟨_, pCls_s CC SB.1 rfl, rfl, f21⟩
                obtain ⟨rN, tN, bN, fN⟩ := TN
                exact ⟨Ih16, Rh16, Or.inr ⟨rfl, by rw [tN, bN]; exact Bool.false_ne_true, by rw [tN]; exact fN⟩⟩
          · have CC : pCc t n s b := ⟨F45.1, by omega, by omega, by rcases iL2_2 (pV t n s.1 - 13).toNat (by omega) with ⟨g1, g2⟩ | ⟨B, L, g1, g2, g3, g4⟩; exact g1; omega⟩
            refine zwW_p [(0, 1, 0), (24, 65, 0)] (q := 65) (ls' := [(2, 37), (0, kL2)]) (st' := [(0, 1), (2, 37)]) (by decide +kernel) rfl ?_
            refine zwW_cm IhL2 (op := 60) (k' := 247) (n := 1) (kd := 13) (m := 97) (nx := 68) (r := 37) (tl := [(0, 1)]) (st' := []) (by decide +kernel) rfl (by decide +kernel) rfl (m247_p hL2 IhL2 1 t n s.1 iL2_0 iL2_1 (by omega)) ?_
            rintro x h23 ⟨Ih23, Qh23, ⟨rfl, f24, f25, f26⟩ | ⟨rfl, f27, f28⟩⟩
            · have Rh23 : zMR ms201_q h h23 := RhL2.tr Qh23 (by decide +kernel)
              have Bh23 : vB t n h23 := iL2_0.fr Qh23 (by decide +kernel)
              have Gh23 := iL2_2.fr Qh23 (by decide +kernel)
              have th23_37_45 : fld h23 37 45 = fld hL2 37 45 := Qh23.f (a1 := 37) (a2 := 37) (j1 := 45) (j2 := 46) (by decide +kernel) ⟨by decide, by decide⟩ ⟨by decide, by decide⟩
              have th23_37_47 : fld h23 37 47 = fld hL2 37 47 := Qh23.f (a1 := 37) (a2 := 37) (j1 := 47) (j2 := 48) (by decide +kernel) ⟨by decide, by decide⟩ ⟨by decide, by decide⟩
              have th23_37_41 : fld h23 37 41 = fld hL2 37 41 := Qh23.f (a1 := 37) (a2 := 37) (j1 := 41) (j2 := 42) (by decide +kernel) ⟨by decide, by decide⟩ ⟨by decide, by decide⟩
              refine zwif_ne (q := 73) (nx := 71) (by decide +kernel) (fun c29 => ?_) (fun c29 => ?_)
              · refine zwW_p [(1, 0, 2), (0, 0, 0)] (q := 75) (ls' := [(2, 37), (0, kL2)]) (st' := [(0, 0), (2, 37)]) (by decide +kernel) rfl ?_
                refine zwW_ps Ih23 (kd := 13) (bn := 45) (n := 97) (lo := 0) (hi := 400) (nx := 78) (by decide +kernel) ⟨by decide, by decide⟩ ?_
                intro h30 eh30 Ih30
                have th30_37_44 : fld h30 37 44 = fld h23 37 44 := by rw [eh30]; exact fld_wr (by decide)
                have th30_37_45 : fld h30 37 45 = 0 := by rw [eh30]; exact fld_wr_eq (Ih23.s (a1 := 37) (a2 := 37) (k := 13) (n := 97) (by decide +kernel) (by decide) (by decide)) (by decide)
                have th30_37_47 : fld h30 37 47 = fld h23 37 47 := by rw [eh30]; exact fld_wr (by decide)
                have th30_37_41 : fld h30 37 41 = fld h23 37 41 := by rw [eh30]; exact fld_wr (by decide)
                have th30_37_42 : fld h30 37 42 = fld h23 37 42 := by rw [eh30]; exact fld_wr (by decide)
                have Bh30 : vB t n h30 := Bh23.fr (zMR.one (a1 := 37) (a2 := 37) (j1 := 45) (j2 := 46) ⟨by decide, by decide⟩ ⟨by decide, by decide⟩ eh30) (by decide +kernel)
                have Kh30 := f25.fr (zMR.one (a1 := 37) (a2 := 37) (j1 := 45) (j2 := 46) ⟨by decide, by decide⟩ ⟨by decide, by decide⟩ eh30) (by decide +kernel)
                have Gh30 := Gh23.fr (zMR.one (a1 := 37) (a2 := 37) (j1 := 45) (j2 := 46) ⟨by decide, by decide⟩ ⟨by decide, by decide⟩ eh30) (by decide +kernel)
                have Rh30 : zMR ms201_q h h30 := Rh23.w (a1 := 37) (a2 := 37) (j1 := 45) (j2 := 46) (by decide +kernel) ⟨by decide, by decide⟩ ⟨by decide, by decide⟩ eh30
                have RQ4 : mQ t n s.2.1 h30 (pA t n s) := ⟨Kh30, Nat.le_refl _, by show fld h30 37 45 = ((s.2.1 : Nat) : Int) - s.2.1; omega, fun k k1 k2 => absurd k2 (Nat.not_lt.mpr k1)⟩
                have V4 := W.a (t := t) (n := n) (by have z := CC.1; omega)
                have WA := V4.wk
                have GB := pG_cb (t := t) (n := n) (pV t n s.1 - 13) (pA t n s) V4.2
                refine zwW_p [(1, 0, 2)] (q := 79) (ls' := [(2, 37), (0, kL2)]) (st' := [(2, 37)]) (by decide +kernel) rfl ?_
                refine zwW_gs Ih30 (kd := 13) (bn := 47) (n := 97) (t := 0) (lo := -1) (hi := 4) (nx := 82) (by decide +kernel) ?_
                intro v31 ev31 lv31 uv31
                refine zwW_p [(0, 3, 0)] (q := 83) (ls' := [(2, 37), (0, kL2)]) (st' := [(0, 3), (0, v31)]) (by decide +kernel) rfl ?_
                refine zwic_ge (q := 97) (nx := 86) (by decide +kernel) (fun c32 => ?_) (fun c32 => ?_)
                · refine zwW_p [(1, 0, 2), (0, 0, 0)] (q := 99) (ls' := [(2, 37), (0, kL2)]) (st' := [(0, 0), (2, 37)]) (by decide +kernel) rfl ?_
                  refine zwW_cm Ih30 (op := 60) (k' := 249) (n := 1) (kd := 13) (m := 97) (nx := 102) (r := 37) (tl := [(0, 0)]) (st' := []) (by decide +kernel) rfl (by decide +kernel) rfl (zm_either sc h30 Ih30 t n s.2.1 (pA t n s) Bh30 RQ4 WA (by omega) (by omega)) ?_
                  rintro v33 h37 ⟨Ih37, Qh37, f34, f35, f36⟩
                  have Rh37 : zMR ms201_q h h37 := Rh30.tr Qh37 (by decide +kernel)
                  have Bh37 : vB t n h37 := Bh30.fr Qh37 (by decide +kernel)
                  have th37_37_47 : fld h37 37 47 = fld h30 37 47 := Qh37.f (a1 := 37) (a2 := 37) (j1 := 47) (j2 := 48) (by decide +kernel) ⟨by decide, by decide⟩ ⟨by decide, by decide⟩
                  have th37_37_41 : fld h37 37 41 = fld h30 37 41 := Qh37.f (a1 := 37) (a2 := 37) (j1 := 41) (j2 := 42) (by decide +kernel) ⟨by decide, by decide⟩ ⟨by decide, by decide⟩
                  have S99 := f36
                  have O99 := f35
                  have F99 : fld h37 163 = fld h30 163 := Qh37.fa (a := 163) (by decide +kernel) rfl
                  have P99 := f35.1
                  refine zwif_ne (q := 107) (nx := 105) (by decide +kernel) (fun c38 => ?_) (fun c38 => ?_)
                  · have SB : (pBo t n s).1 = true ∧ mQ t n s.2.1 h37 (pBo t n s).2 ∧ fld h37 37 44 = -1 := by unfold pBo pCb; first | (rw [if_pos (by omega)]; exact ⟨S88.b1 (by omega), S88.qq (by omega), S88.e (by omega)⟩) | (rw [if_neg (by omega)]; exact ⟨S99.b1 (by omega), S99.qq (by omega), S99.e (by omega)⟩)
                    have K5 := SB.2.1.1
                    have OB : mO h30 h37 := by first | exact O88 | exact O99
                    have E163 : fld h37 163 = fld h30 163 := by first | exact F88 | exact F99
                    have G5 := SB.2.1.2.2.1
                    have E44 := SB.2.2
                    refine zwW_p [(1, 0, 2)] (q := 108) (ls' := [(2, 37), (0, kL2)]) (st' := [(2, 37)]) (by decide +kernel) rfl ?_
                    refine zwW_gc Ih37 (kd := 13) (bn := 49) (n := 97) (c := 154) (nx := 111) (by decide +kernel) ?_
                    refine zwW_p [(0, 8, 0)] (q := 113) (ls' := [(2, 37), (0, kL2)]) (st' := [(0, 8), (2, 154)]) (by decide +kernel) rfl ?_
                    refine zwW_ro Ih37 (a := 154) (n := 9) (kd := 26) (base := 155) (step := 1) (nx := 114) (by decide +kernel) rfl ⟨by decide, by decide⟩ ?_
                    rw [show ((155 : Nat) : Int) + ((1 : Nat) : Int) * 8 = 163 from rfl]
                    refine zwW_p [(1, 0, 2)] (q := 115) (ls' := [(2, 37), (0, kL2)]) (st' := [(2, 37), (2, 163)]) (by decide +kernel) rfl ?_
                    refine zwW_gs Ih37 (kd := 13) (bn := 47) (n := 97) (t := 0) (lo := -1) (hi := 4) (nx := 118) (by decide +kernel) ?_
                    intro v39 ev39 lv39 uv39
                    refine zwW_p [(1, 0, 2)] (q := 119) (ls' := [(2, 37), (0, kL2)]) (st' := [(2, 37), (0, v39), (2, 163)]) (by decide +kernel) rfl ?_
                    refine zwW_gs Ih37 (kd := 13) (bn := 45) (n := 97) (t := 0) (lo := 0) (hi := 400) (nx := 122) (by decide +kernel) ?_
                    intro v40 ev40 lv40 uv40
                    refine zwW_as Ih37 (a1 := 155) (a2 := 163) (n := 5) (lo := 0) (hi := 400) (nx := 123) (by decide +kernel) ⟨by decide, by decide⟩ ⟨by omega, by omega⟩ ⟨by omega, by omega⟩ ?_
                    intro h41 eh41 Ih41
                    have th41_37_44 : fld h41 37 44 = fld h37 37 44 := by rw [eh41]; exact fld_wr (by omega)
                    have th41_37_45 : fld h41 37 45 = fld h37 37 45 := by rw [eh41]; exact fld_wr (by omega)
                    have th41_37_47 : fld h41 37 47 = fld h37 37 47 := by rw [eh41]; exact fld_wr (by omega)
                    have th41_37_41 : fld h41 37 41 = fld h37 37 41 := by rw [eh41]; exact fld_wr (by omega)
                    have th41_37_42 : fld h41 37 42 = fld h37 37 42 := by rw [eh41]; exact fld_wr (by omega)
                    have E122 : h41 = wr h37 163 (v39).toNat v40 := eh41
                    have C122 : (v39).toNat = (pV t n s.1 - 13).toNat := by omega
                    have X122 : v40 = fld h37 37 45 := by omega
                    have S122 := Ih37.s (a1 := 155) (a2 := 163) (k := 20) (n := 5) (by decide +kernel) (r := 163) (by decide) (by decide)
                    have K6 : mTk t n h41 (pBo t n s).2.1 := K5.fr (zMR.one (a1 := 163) (a2 := 163) (j1 := 0) (j2 := 5) ⟨by decide, by decide⟩ ⟨by omega, by omega⟩ eh41) (by decide +kernel)
                    have H122 : h41 = h41 := rfl
                    have Bh41 : vB t n h41 := Bh37.fr (zMR.one (a1 := 163) (a2 := 163) (j1 := 0) (j2 := 5) ⟨by decide, by decide⟩ ⟨by omega, by omega⟩ eh41) (by decide +kernel)
                    have Rh41 : zMR ms201_q h h41 := Rh37.w (a1 := 163) (a2 := 163) (j1 := 0) (j2 := 5) (by decide +kernel) ⟨by decide, by decide⟩ ⟨by omega, by omega⟩ eh41
                    refine zwW_p [(1, 0, 2), (1, 0, 2), (0, 59, 0)] (q := 127) (ls' := [(2, 37), (0, kL2)]) (st' := [(0, 59), (2, 37), (2, 37)]) (by decide +kernel) rfl ?_
                    refine zwW_cm Ih41 (op := 60) (k' := 250) (n := 1) (kd := 13) (m := 97) (nx := 130) (r := 37) (tl := [(0, 59)]) (st' := [(2, 37)]) (by decide +kernel) rfl (by decide +kernel) rfl (m250_p h41 Ih41 59 t n (pBo t n s).2.1 Bh41 K6 rfl) ?_
                    rintro x _ ⟨rfl, ⟨rfl, c42⟩ | ⟨rfl, c42⟩⟩
                    · refine zwW_cm Ih41 (op := 60) (k' := 247) (n := 1) (kd := 13) (m := 97) (nx := 133) (r := 37) (tl := [(0, 1)]) (st' := []) (by decide +kernel) rfl (by decide +kernel) rfl (m247_p h41 Ih41 1 t n (pBo t n s).2.1 Bh41 K6 (by omega)) ?_
                      rintro x h43 ⟨Ih43, Qh43, ⟨rfl, f44, f45, f46⟩ | ⟨rfl, f47, f48⟩⟩
                      · have Rh43 : zMR ms201_q h h43 := Rh41.tr Qh43 (by decide +kernel)
                        have Bh43 : vB t n h43 := Bh41.fr Qh43 (by decide +kernel)
                        have th43_37_45 : fld h43 37 45 = fld h41 37 45 := Qh43.f (a1 := 37) (a2 := 37) (j1 := 45) (j2 := 46) (by decide +kernel) ⟨by decide, by decide⟩ ⟨by decide, by decide⟩
                        have th43_37_47 : fld h43 37 47 = fld h41 37 47 := Qh43.f (a1 := 37) (a2 := 37) (j1 := 47) (j2 := 48) (by decide +kernel) ⟨by decide, by decide⟩ ⟨by decide, by decide⟩
                        have th43_37_41 : fld h43 37 41 = fld h41 37 41 := Qh43.f (a1 := 37) (a2 := 37) (j1 := 41) (j2 := 42) (by decide +kernel) ⟨by decide, by decide⟩ ⟨by decide, by decide⟩
                        refine zwW_ret (nx := 134) (a := 1) (b := 0) (by decide +kernel) rfl (Or.inr (Or.inl ⟨rfl, by omega⟩)) ?_
                        have TE := pCls_t CC SB.1 c42
                        have GE := Gh30.add (c0 := (pV t n s.1 - 13).toNat) OB (by omega) (by omega) E163 GB.2.2.1 GB.2.2.2.2.2 SB.2.1 (GB.2.2.2.2.1 SB.1).2 (by rw [← C122]; exact E122) X122 S122 (mO.fr Qh43 (by decide +kernel)).2 (fun k hk => Qh43.f (a1 := 163) (a2 := 163) (j1 := 0) (j2 := 5) (by decide +kernel) ⟨by decide, by decide⟩ ⟨by omega, by omega⟩)
                        exact ⟨Ih43, Rh43, Or.inl ⟨rfl, by rw [TE], by rw [TE]; exact f45, by rw [TE]; exact GE, by omega⟩⟩
                      · exfalso; omega
                    · refine zwW_cm Ih41 (op := 60) (k' := 247) (n := 1) (kd := 13) (m := 97) (nx := 133) (r := 37) (tl := [(0, 0)]) (st' := []) (by decide +kernel) rfl (by decide +kernel) rfl (m247_p h41 Ih41 0 t n (pBo t n s).2.1 Bh41 K6 (by omega)) ?_
                      rintro x h49 ⟨Ih49, Qh49, ⟨rfl, f50, f51, f52⟩ | ⟨rfl, f53, f54⟩⟩
                      · exfalso; omega
                      · have Rh49 : zMR ms201_q h h49 := Rh41.tr Qh49 (by decide +kernel)
                        have Bh49 : vB t n h49 := Bh41.fr Qh49 (by decide +kernel)
                        have th49_37_45 : fld h49 37 45 = fld h41 37 45 := Qh49.f (a1 := 37) (a2 := 37) (j1 := 45) (j2 := 46) (by decide +kernel) ⟨by decide, by decide⟩ ⟨by decide, by decide⟩
                        have th49_37_47 : fld h49 37 47 = fld h41 37 47 := Qh49.f (a1 := 37) (a2 := 37) (j1 := 47) (j2 := 48) (by decide +kernel) ⟨by decide, by decide⟩ ⟨by decide, by decide⟩
                        have th49_37_41 : fld h49 37 41 = fld h41 37 41 := Qh49.f (a1 := 37) (a2 := 37) (j1 := 41) (j2 := 42) (by decide +kernel) ⟨by decide, by decide⟩ ⟨by decide, by decide⟩
                        refine zwW_ret (nx := 134) (a := 1) (b := 0) (by decide +kernel) rfl (Or.inr (Or.inl ⟨rfl, by omega⟩)) ?_
                        have TN : ∃ r : Bool × pQ × (Nat → Int), pCls t n s b = r ∧ r.1 = false ∧ fld h49 37 44 = ((r.2.1.1 : Nat) : Int) := by
                          first
                          | exact ⟨_, pCls_no NC, rfl, f54⟩
                          | exact ⟨_, pCls_f CC SF.1, rfl, SF.2⟩
                          | exact ⟨_, pCls_s CC SB.1 c42, rfl, f54⟩
                        obtain ⟨rN, tN, bN, fN⟩ := TN
                        exact ⟨Ih49, Rh49, Or.inr ⟨rfl, by rw [tN, bN]; exact Bool.false_ne_true, by rw [tN]; exact fN⟩⟩
                  · have SF : ¬ (pBo t n s).1 = true ∧ fld h37 37 44 = (((pBo t n s).2.1 : Nat) : Int) := by unfold pBo pCb; first | (rw [if_pos (by omega)]; exact ⟨S88.b0 (by omega), (S88.fl (by omega)).2⟩) | (rw [if_neg (by omega)]; exact ⟨S99.b0 (by omega), (S99.fl (by omega)).2⟩)
                    refine zwW_p [(0, 0, 0)] (q := 106) (ls' := [(2, 37), (0, kL2)]) (st' := [(0, 0)]) (by decide +kernel) rfl ?_
                    refine zwW_ret (nx := 107) (a := 1) (b := 0) (by decide +kernel) rfl (Or.inr (Or.inl ⟨rfl, by omega⟩)) ?_
                    have TN : ∃ r : Bool × pQ × (Nat → Int), pCls t n s b = r ∧ r.1 = false ∧ fld h37 37 44 = ((r.2.1.1 : Nat) : Int) := by
                      first
                      | exact ⟨_, pCls_no NC, rfl, f25⟩
                      | exact ⟨_, pCls_f CC SF.1, rfl, SF.2⟩
                      | exact ⟨_, pCls_s CC SB.1 rfl, rfl, f25⟩
                    obtain ⟨rN, tN, bN, fN⟩ := TN
                    exact ⟨Ih37, Rh37, Or.inr ⟨rfl, by rw [tN, bN]; exact Bool.false_ne_true, by rw [tN]; exact fN⟩⟩
                · refine zwW_p [(1, 0, 2), (0, 0, 0)] (q := 88) (ls' := [(2, 37), (0, kL2)]) (st' := [(0, 0), (2, 37)]) (by decide +kernel) rfl ?_
                  refine zwW_cm Ih30 (op := 60) (k' := 248) (n := 1) (kd := 13) (m := 97) (nx := 91) (r := 37) (tl := [(0, 0)]) (st' := []) (by decide +kernel) rfl (by decide +kernel) rfl (zm_sum sc h30 Ih30 t n s.2.1 (pA t n s) Bh30 RQ4 WA (by omega) (by omega)) ?_
                  rintro v55 h59 ⟨Ih59, Qh59, f56, f57, f58⟩
                  have Rh59 : zMR ms201_q h h59 := Rh30.tr Qh59 (by decide +kernel)
                  have Bh59 : vB t n h59 := Bh30.fr Qh59 (by decide +kernel)
                  have th59_37_47 : fld h59 37 47 = fld h30 37 47 := Qh59.f (a1 := 37) (a2 := 37) (j1 := 47) (j2 := 48) (by decide +kernel) ⟨by decide, by decide⟩ ⟨by decide, by decide⟩
                  have th59_37_41 : fld h59 37 41 = fld h30 37 41 := Qh59.f (a1 := 37) (a2 := 37) (j1 := 41) (j2 := 42) (by decide +kernel) ⟨by decide, by decide⟩ ⟨by decide, by decide⟩
                  have S88 := f58
                  have O88 := f57
                  have F88 : fld h59 163 = fld h30 163 := Qh59.fa (a := 163) (by decide +kernel) rfl
                  have P88 := f57.1
                  refine zwif_ne (q := 107) (nx := 94) (by decide +kernel) (fun c60 => ?_) (fun c60 => ?_)
                  · have SB : (pBo t n s).1 = true ∧ mQ t n s.2.1 h59 (pBo t n s).2 ∧ fld h59 37 44 = -1 := by unfold pBo pCb; first | (rw [if_pos (by omega)]; exact ⟨S88.b1 (by omega), S88.qq (by omega), S88.e (by omega)⟩) | (rw [if_neg (by omega)]; exact ⟨S99.b1 (by omega), S99.qq (by omega), S99.e (by omega)⟩)
                    have K5 := SB.2.1.1
                    have OB : mO h30 h59 := by first | exact O88 | exact O99
                    have E163 : fld h59 163 = fld h30 163 := by first | exact F88 | exact F99
                    have G5 := SB.2.1.2.2.1
                    have E44 := SB.2.2
                    refine zwW_p [(1, 0, 2)] (q := 108) (ls' := [(2, 37), (0, kL2)]) (st' := [(2, 37)]) (by decide +kernel) rfl ?_
                    refine zwW_gc Ih59 (kd := 13) (bn := 49) (n := 97) (c := 154) (nx := 111) (by decide +kernel) ?_
                    refine zwW_p [(0, 8, 0)] (q := 113) (ls' := [(2, 37), (0, kL2)]) (st' := [(0, 8), (2, 154)]) (by decide +kernel) rfl ?_
                    refine zwW_ro Ih59 (a := 154) (n := 9) (kd := 26) (base := 155) (step := 1) (nx := 114) (by decide +kernel) rfl ⟨by decide, by decide⟩ ?_
                    rw [show ((155 : Nat) : Int) + ((1 : Nat) : Int) * 8 = 163 from rfl]
                    refine zwW_p [(1, 0, 2)] (q := 115) (ls' := [(2, 37), (0, kL2)]) (st' := [(2, 37), (2, 163)]) (by decide +kernel) rfl ?_
                    refine zwW_gs Ih59 (kd := 13) (bn := 47) (n := 97) (t := 0) (lo := -1) (hi := 4) (nx := 118) (by decide +kernel) ?_
                    intro v61 ev61 lv61 uv61
                    refine zwW_p [(1, 0, 2)] (q := 119) (ls' := [(2, 37), (0, kL2)]) (st' := [(2, 37), (0, v61), (2, 163)]) (by decide +kernel) rfl ?_
                    refine zwW_gs Ih59 (kd := 13) (bn := 45) (n := 97) (t := 0) (lo := 0) (hi := 400) (nx := 122) (by decide +kernel) ?_
                    intro v62 ev62 lv62 uv62
                    refine zwW_as Ih59 (a1 := 155) (a2 := 163) (n := 5) (lo := 0) (hi := 400) (nx := 123) (by decide +kernel) ⟨by decide, by decide⟩ ⟨by omega, by omega⟩ ⟨by omega, by omega⟩ ?_
                    intro h63 eh63 Ih63
                    have th63_37_44 : fld h63 37 44 = fld h59 37 44 := by rw [eh63]; exact fld_wr (by omega)
                    have th63_37_45 : fld h63 37 45 = fld h59 37 45 := by rw [eh63]; exact fld_wr (by omega)
                    have th63_37_47 : fld h63 37 47 = fld h59 37 47 := by rw [eh63]; exact fld_wr (by omega)
                    have th63_37_41 : fld h63 37 41 = fld h59 37 41 := by rw [eh63]; exact fld_wr (by omega)
                    have th63_37_42 : fld h63 37 42 = fld h59 37 42 := by rw [eh63]; exact fld_wr (by omega)
                    have E122 : h63 = wr h59 163 (v61).toNat v62 := eh63
                    have C122 : (v61).toNat = (pV t n s.1 - 13).toNat := by omega
                    have X122 : v62 = fld h59 37 45 := by omega
                    have S122 := Ih59.s (a1 := 155) (a2 := 163) (k := 20) (n := 5) (by decide +kernel) (r := 163) (by decide) (by decide)
                    have K6 : mTk t n h63 (pBo t n s).2.1 := K5.fr (zMR.one (a1 := 163) (a2 := 163) (j1 := 0) (j2 := 5) ⟨by decide, by decide⟩ ⟨by omega, by omega⟩ eh63) (by decide +kernel)
                    have H122 : h63 = h63 := rfl
                    have Bh63 : vB t n h63 := Bh59.fr (zMR.one (a1 := 163) (a2 := 163) (j1 := 0) (j2 := 5) ⟨by decide, by decide⟩ ⟨by omega, by omega⟩ eh63) (by decide +kernel)
                    have Rh63 : zMR ms201_q h h63 := Rh59.w (a1 := 163) (a2 := 163) (j1 := 0) (j2 := 5) (by decide +kernel) ⟨by decide, by decide⟩ ⟨by omega, by omega⟩ eh63
                    refine zwW_p [(1, 0, 2), (1, 0, 2), (0, 59, 0)] (q := 127) (ls' := [(2, 37), (0, kL2)]) (st' := [(0, 59), (2, 37), (2, 37)]) (by decide +kernel) rfl ?_
                    refine zwW_cm Ih63 (op := 60) (k' := 250) (n := 1) (kd := 13) (m := 97) (nx := 130) (r := 37) (tl := [(0, 59)]) (st' := [(2, 37)]) (by decide +kernel) rfl (by decide +kernel) rfl (m250_p h63 Ih63 59 t n (pBo t n s).2.1 Bh63 K6 rfl) ?_
                    rintro x _ ⟨rfl, ⟨rfl, c64⟩ | ⟨rfl, c64⟩⟩
                    · refine zwW_cm Ih63 (op := 60) (k' := 247) (n := 1) (kd := 13) (m := 97) (nx := 133) (r := 37) (tl := [(0, 1)]) (st' := []) (by decide +kernel) rfl (by decide +kernel) rfl (m247_p h63 Ih63 1 t n (pBo t n s).2.1 Bh63 K6 (by omega)) ?_
                      rintro x h65 ⟨Ih65, Qh65, ⟨rfl, f66, f67, f68⟩ | ⟨rfl, f69, f70⟩⟩
                      · have Rh65 : zMR ms201_q h h65 := Rh63.tr Qh65 (by decide +kernel)
                        have Bh65 : vB t n h65 := Bh63.fr Qh65 (by decide +kernel)
                        have th65_37_45 : fld h65 37 45 = fld h63 37 45 := Qh65.f (a1 := 37) (a2 := 37) (j1 := 45) (j2 := 46) (by decide +kernel) ⟨by decide, by decide⟩ ⟨by decide, by decide⟩
                        have th65_37_47 : fld h65 37 47 = fld h63 37 47 := Qh65.f (a1 := 37) (a2 := 37) (j1 := 47) (j2 := 48) (by decide +kernel) ⟨by decide, by decide⟩ ⟨by decide, by decide⟩
                        have th65_37_41 : fld h65 37 41 = fld h63 37 41 := Qh65.f (a1 := 37) (a2 := 37) (j1 := 41) (j2 := 42) (by decide +kernel) ⟨by decide, by decide⟩ ⟨by decide, by decide⟩
                        refine zwW_ret (nx := 134) (a := 1) (b := 0) (by decide +kernel) rfl (Or.inr (Or.inl ⟨rfl, by omega⟩)) ?_
                        have TE := pCls_t CC SB.1 c64
                        have GE := Gh30.add (c0 := (pV t n s.1 - 13).toNat) OB (by omega) (by omega) E163 GB.2.2.1 GB.2.2.2.2.2 SB.2.1 (GB.2.2.2.2.1 SB.1).2 (by rw [← C122]; exact E122) X122 S122 (mO.fr Qh65 (by decide +kernel)).2 (fun k hk => Qh65.f (a1 := 163) (a2 := 163) (j1 := 0) (j2 := 5) (by decide +kernel) ⟨by decide, by decide⟩ ⟨by omega, by omega⟩)
                        exact ⟨Ih65, Rh65, Or.inl ⟨rfl, by rw [TE], by rw [TE]; exact f67, by rw [TE]; exact GE, by omega⟩⟩
                      · exfalso; omega
                    · refine zwW_cm Ih63 (op := 60) (k' := 247) (n := 1) (kd := 13) (m := 97) (nx := 133) (r := 37) (tl := [(0, 0)]) (st' := []) (by decide +kernel) rfl (by decide +kernel) rfl (m247_p h63 Ih63 0 t n (pBo t n s).2.1 Bh63 K6 (by omega)) ?_
                      rintro x h71 ⟨Ih71, Qh71, ⟨rfl, f72, f73, f74⟩ | ⟨rfl, f75, f76⟩⟩
                      · exfalso; omega
                      · have Rh71 : zMR ms201_q h h71 := Rh63.tr Qh71 (by decide +kernel)
                        have Bh71 : vB t n h71 := Bh63.fr Qh71 (by decide +kernel)
                        have th71_37_45 : fld h71 37 45 = fld h63 37 45 := Qh71.f (a1 := 37) (a2 := 37) (j1 := 45) (j2 := 46) (by decide +kernel) ⟨by decide, by decide⟩ ⟨by decide, by decide⟩
                        have th71_37_47 : fld h71 37 47 = fld h63 37 47 := Qh71.f (a1 := 37) (a2 := 37) (j1 := 47) (j2 := 48) (by decide +kernel) ⟨by decide, by decide⟩ ⟨by decide, by decide⟩
                        have th71_37_41 : fld h71 37 41 = fld h63 37 41 := Qh71.f (a1 := 37) (a2 := 37) (j1 := 41) (j2 := 42) (by decide +kernel) ⟨by decide, by decide⟩ ⟨by decide, by decide⟩
                        refine zwW_ret (nx := 134) (a := 1) (b := 0) (by decide +kernel) rfl (Or.inr (Or.inl ⟨rfl, by omega⟩)) ?_
                        have TN : ∃ r : Bool × pQ × (Nat → Int), pCls t n s b = r ∧ r.1 = false ∧ fld h71 37 44 = ((r.2.1.1 : Nat) : Int) := by
                          first
                          | exact ⟨_, pCls_no NC, rfl, f76⟩
                          | exact ⟨_, pCls_f CC SF.1, rfl, SF.2⟩
                          | exact ⟨_, pCls_s CC SB.1 c64, rfl, f76⟩
                        obtain ⟨rN, tN, bN, fN⟩ := TN
                        exact ⟨Ih71, Rh71, Or.inr ⟨rfl, by rw [tN, bN]; exact Bool.false_ne_true, by rw [tN]; exact fN⟩⟩
                  · refine zwW_p [(24, 105, 0)] (q := 105) (ls' := [(2, 37), (0, kL2)]) (st' := []) (by decide +kernel) rfl ?_
                    have SF : ¬ (pBo t n s).1 = true ∧ fld h59 37 44 = (((pBo t n s).2.1 : Nat) : Int) := by unfold pBo pCb; first | (rw [if_pos (by omega)]; exact ⟨S88.b0 (by omega), (S88.fl (by omega)).2⟩) | (rw [if_neg (by omega)]; exact ⟨S99.b0 (by omega), (S99.fl (by omega)).2⟩)
                    refine zwW_p [(0, 0, 0)] (q := 106) (ls' := [(2, 37), (0, kL2)]) (st' := [(0, 0)]) (by decide +kernel) rfl ?_
                    refine zwW_ret (nx := 107) (a := 1) (b := 0) (by decide +kernel) rfl (Or.inr (Or.inl ⟨rfl, by omega⟩)) ?_
                    have TN : ∃ r : Bool × pQ × (Nat → Int), pCls t n s b = r ∧ r.1 = false ∧ fld h59 37 44 = ((r.2.1.1 : Nat) : Int) := by
                      first
                      | exact ⟨_, pCls_no NC, rfl, f25⟩
                      | exact ⟨_, pCls_f CC SF.1, rfl, SF.2⟩
                      | exact ⟨_, pCls_s CC SB.1 rfl, rfl, f25⟩
                    obtain ⟨rN, tN, bN, fN⟩ := TN
                    exact ⟨Ih59, Rh59, Or.inr ⟨rfl, by rw [tN, bN]; exact Bool.false_ne_true, by rw [tN]; exact fN⟩⟩
              · exfalso; omega
            · exfalso; omega
      · refine zwW_p [(1, 0, 2), (1, 0, 2)] (q := 14) (ls' := [(2, 37), (0, kL2)]) (st' := [(2, 37), (2, 37)]) (by decide +kernel) rfl ?_
        refine zwW_gc IhL2 (kd := 13) (bn := 54) (n := 97) (c := 166) (nx := 17) (by decide +kernel) ?_
        refine zwW_p [(1, 1, 0)] (q := 18) (ls' := [(2, 37), (0, kL2)]) (st' := [(0, kL2), (2, 166), (2, 37)]) (by decide +kernel) rfl ?_
        refine zwW_wd5 IhL2 (nx := 19) (by decide +kernel) ⟨by omega, by omega⟩ ?_
        refine zwW_cm IhL2 (op := 60) (k' := 246) (n := 1) (kd := 13) (m := 97) (nx := 22) (r := 37) (tl := [(2, (-12 - kL2))]) (st' := []) (by decide +kernel) rfl (by decide +kernel) rfl (m246_p hL2 IhL2 (-12 - kL2) t n s.1 ⟨by omega, by omega⟩ iL2_0 iL2_1) ?_
        rintro x _ ⟨rfl, ⟨rfl, c77⟩ | ⟨rfl, c77⟩⟩
        · have NK2 : ((mWi (-12 - kL2) : Nat) : Int) = 13 + kL2 := by unfold mWi; rw [if_pos (by omega)]; omega
          rw [NK2] at c77
          refine zwif_eq (q := 30) (nx := 25) (by decide +kernel) (fun c78 => ?_) (fun c78 => ?_)
          · exfalso; omega
          · refine zwW_p [(1, 0, 2), (1, 1, 0)] (q := 27) (ls' := [(2, 37), (0, kL2)]) (st' := [(0, kL2), (2, 37)]) (by decide +kernel) rfl ?_
            refine zwW_ps IhL2 (kd := 13) (bn := 47) (n := 97) (lo := -1) (hi := 4) (nx := 30) (by decide +kernel) ⟨by omega, by omega⟩ ?_
            intro h79 eh79 Ih79
            have th79_37_44 : fld h79 37 44 = fld hL2 37 44 := by rw [eh79]; exact fld_wr (by decide)
            have th79_37_45 : fld h79 37 45 = fld hL2 37 45 := by rw [eh79]; exact fld_wr (by decide)
            have th79_37_47 : fld h79 37 47 = kL2 := by rw [eh79]; exact fld_wr_eq (IhL2.s (a1 := 37) (a2 := 37) (k := 13) (n := 97) (by decide +kernel) (by decide) (by decide)) (by decide)
            have th79_37_41 : fld h79 37 41 = fld hL2 37 41 := by rw [eh79]; exact fld_wr (by decide)
            have th79_37_42 : fld h79 37 42 = fld hL2 37 42 := by rw [eh79]; exact fld_wr (by decide)
            have Bh79 : vB t n h79 := iL2_0.fr (zMR.one (a1 := 37) (a2 := 37) (j1 := 47) (j2 := 48) ⟨by decide, by decide⟩ ⟨by decide, by decide⟩ eh79) (by decide +kernel)
            have Kh79 := iL2_1.fr (zMR.one (a1 := 37) (a2 := 37) (j1 := 47) (j2 := 48) ⟨by decide, by decide⟩ ⟨by decide, by decide⟩ eh79) (by decide +kernel)
            have Gh79 := iL2_2.fr (zMR.one (a1 := 37) (a2 := 37) (j1 := 47) (j2 := 48) ⟨by decide, by decide⟩ ⟨by decide, by decide⟩ eh79) (by decide +kernel)
            have Rh79 : zMR ms201_q h h79 := RhL2.w (a1 := 37) (a2 := 37) (j1 := 47) (j2 := 48) (by decide +kernel) ⟨by decide, by decide⟩ ⟨by decide, by decide⟩ eh79
            have LF : (fld h79 37 47 = -1 ∧ ∀ j : Nat, (j : Int) < (kL2 + 1) → ¬ (pK t n s.1 = 1 ∧ pV t n s.1 = 13 + (j : Int))) ∨ (0 ≤ fld h79 37 47 ∧ fld h79 37 47 < (kL2 + 1) ∧ pK t n s.1 = 1 ∧ pV t n s.1 = 13 + fld h79 37 47) := by first | exact Or.inr ⟨by omega, by omega, c77.1, by have z := c77.2; omega⟩ | (rcases iL2_4 with ⟨f1, f2⟩ | ⟨f1, f2, f3, f4⟩; exact Or.inl ⟨f1, fun j hj => by by_cases z : (j : Int) < kL2; exact f2 j z; (rw [show (j : Int) = kL2 by omega]; exact c77)⟩; exact Or.inr ⟨f1, by omega, f3, f4⟩)
            refine zwW_inc (i := 1) (c := 1) (x := kL2) (nx := 33) (by decide +kernel) rfl ⟨by omega, by omega⟩ (ls' := [(2, 37), (0, (kL2 + 1))]) rfl ?_
            refine zwW_p [(24, 7, 0)] (q := 7) (ls' := [(2, 37), (0, (kL2 + 1))]) (st' := []) (by decide +kernel) rfl ?_
            exact IHL2 ((1000 - (kL2 + 1))).toNat (by omega) (kL2 + 1) h79 rfl (Bh79) (Kh79) (Gh79) (by omega) (LF) Ih79 Rh79
        · have NK2 : ((mWi (-12 - kL2) : Nat) : Int) = 13 + kL2 := by unfold mWi; rw [if_pos (by omega)]; omega
          rw [NK2] at c77
          refine zwif_eq (q := 30) (nx := 25) (by decide +kernel) (fun c80 => ?_) (fun c80 => ?_)
          · have LF : (fld hL2 37 47 = -1 ∧ ∀ j : Nat, (j : Int) < (kL2 + 1) → ¬ (pK t n s.1 = 1 ∧ pV t n s.1 = 13 + (j : Int))) ∨ (0 ≤ fld hL2 37 47 ∧ fld hL2 37 47 < (kL2 + 1) ∧ pK t n s.1 = 1 ∧ pV t n s.1 = 13 + fld hL2 37 47) := by first | exact Or.inr ⟨by omega, by omega, c77.1, by have z := c77.2; omega⟩ | (rcases iL2_4 with ⟨f1, f2⟩ | ⟨f1, f2, f3, f4⟩; exact Or.inl ⟨f1, fun j hj => by by_cases z : (j : Int) < kL2; exact f2 j z; (rw [show (j : Int) = kL2 by omega]; exact c77)⟩; exact Or.inr ⟨f1, by omega, f3, f4⟩)
            refine zwW_inc (i := 1) (c := 1) (x := kL2) (nx := 33) (by decide +kernel) rfl ⟨by omega, by omega⟩ (ls' := [(2, 37), (0, (kL2 + 1))]) rfl ?_
            refine zwW_p [(24, 7, 0)] (q := 7) (ls' := [(2, 37), (0, (kL2 + 1))]) (st' := []) (by decide +kernel) rfl ?_
            exact IHL2 ((1000 - (kL2 + 1))).toNat (by omega) (kL2 + 1) hL2 rfl (iL2_0) (iL2_1) (iL2_2) (by omega) (LF) IhL2 RhL2
          · exfalso; omega
  exact L2 _ 0 h1 rfl (Bh1) (Kh1) (Gh1) (by omega) (Or.inl ⟨by omega, fun j hj => by omega⟩) Ih1 Rh1
def ms121_q : Zms := [(37, 37, 42, 47), (37, 37, 47, 48), (149, 153, 0, 840), (163, 163, 0, 5)]
-- WheelLandModel.reads()V
theorem m121_q {sc : List Int} (h : Hp) (I : zI h) (t : pT) (n : Nat) (c : Nat → Int) (B : vB t n h) : zwC sc 232 121 [(2, 37)] h (zwRv (fun g => zI g ∧ zMR ms121_q h g ∧ (mE t n g (pRead t n c)))) := by
  refine zwC_of (D := 231) 2 (by decide +kernel) rfl (ls := [(2, 37), (9, 0)]) rfl ?_
  have R : zMR ms121_q h h := zMR.rf _ _
  have B2 := B.2.1
  refine zwW_p [(1, 0, 2), (0, -1, 0)] (q := 2) (ls' := [(2, 37), (9, 0)]) (st' := [(0, -1), (2, 37)]) (by decide +kernel) rfl ?_
  refine zwW_ps I (kd := 13) (bn := 44) (n := 97) (lo := -1) (hi := 400) (nx := 5) (by decide +kernel) ⟨by decide, by decide⟩ ?_
  intro h1 eh1 Ih1
  have th1_37_41 : fld h1 37 41 = fld h 37 41 := by rw [eh1]; exact fld_wr (by decide)
  have th1_37_42 : fld h1 37 42 = fld h 37 42 := by rw [eh1]; exact fld_wr (by decide)
  have th1_37_44 : fld h1 37 44 = -1 := by rw [eh1]; exact fld_wr_eq (I.s (a1 := 37) (a2 := 37) (k := 13) (n := 97) (by decide +kernel) (by decide) (by decide)) (by decide)
  have Bh1 : vB t n h1 := B.fr (zMR.one (a1 := 37) (a2 := 37) (j1 := 44) (j2 := 45) ⟨by decide, by decide⟩ ⟨by decide, by decide⟩ eh1) (by decide +kernel)
  have Rh1 : zMR ms121_q h h1 := R.w (a1 := 37) (a2 := 37) (j1 := 44) (j2 := 45) (by decide +kernel) ⟨by decide, by decide⟩ ⟨by decide, by decide⟩ eh1
  refine zwW_p [(0, 0, 0), (2, 1, 0)] (q := 7) (ls' := [(2, 37), (0, 0)]) (st' := []) (by decide +kernel) rfl ?_
  have L2 : ∀ (n0 : Nat) (kL2 : Int) (hL2 : Hp), n0 = ((1000 - kL2)).toNat → (vB t n hL2) → (∀ c : Nat, (c : Int) < kL2 → fld hL2 163 c = 0) → (0 ≤ kL2 ∧ kL2 ≤ 5 ∧ fld hL2 37 44 = -1 ∧ fld hL2 37 41 = fld h 37 41) → zI hL2 → zMR ms121_q h hL2 → zwW sc (231) 121 7 [(2, 37), (0, kL2)] [] hL2 (zwRv (fun g => zI g ∧ zMR ms121_q h g ∧ (mE t n g (pRead t n c)))) := by
    intro n0
    induction n0 using Nat.strongRecOn with
    | ind n0 IHL2 =>
      intro kL2 hL2 hnL2 iL2_0 iL2_1 iL2_2 IhL2 RhL2
      refine zwW_p [(1, 1, 0), (0, 5, 0)] (q := 9) (ls' := [(2, 37), (0, kL2)]) (st' := [(0, 5), (0, kL2)]) (by decide +kernel) rfl ?_
      refine zwic_ge (q := 28) (nx := 12) (by decide +kernel) (fun c3 => ?_) (fun c3 => ?_)
      · refine zwW_p [(1, 0, 2), (0, 0, 0)] (q := 30) (ls' := [(2, 37), (0, kL2)]) (st' := [(0, 0), (2, 37)]) (by decide +kernel) rfl ?_
        refine zwW_ps IhL2 (kd := 13) (bn := 42) (n := 97) (lo := 0) (hi := 400) (nx := 33) (by decide +kernel) ⟨by decide, by decide⟩ ?_
        intro h4 eh4 Ih4
        have th4_37_41 : fld h4 37 41 = fld hL2 37 41 := by rw [eh4]; exact fld_wr (by decide)
        have th4_37_42 : fld h4 37 42 = 0 := by rw [eh4]; exact fld_wr_eq (IhL2.s (a1 := 37) (a2 := 37) (k := 13) (n := 97) (by decide +kernel) (by decide) (by decide)) (by decide)
        have th4_37_44 : fld h4 37 44 = fld hL2 37 44 := by rw [eh4]; exact fld_wr (by decide)
        have Kh4_163 : fld h4 163 = fld hL2 163 := (funext fun j => fld_oth eh4 (Or.inl (by omega))).trans rfl
        have Bh4 : vB t n h4 := iL2_0.fr (zMR.one (a1 := 37) (a2 := 37) (j1 := 42) (j2 := 43) ⟨by decide, by decide⟩ ⟨by decide, by decide⟩ eh4) (by decide +kernel)
        have Rh4 : zMR ms121_q h h4 := RhL2.w (a1 := 37) (a2 := 37) (j1 := 42) (j2 := 43) (by decide +kernel) ⟨by decide, by decide⟩ ⟨by decide, by decide⟩ eh4
        refine zwW_p [(1, 0, 2)] (q := 34) (ls' := [(2, 37), (0, kL2)]) (st' := [(2, 37)]) (by decide +kernel) rfl ?_
        have Z34 : ∀ c : Nat, c < 5 → fld h4 163 c = 0 := fun c hc => by rw [congrFun Kh4_163 c]; exact iL2_1 c (by omega)
        refine zwW_cmv Ih4 (op := 60) (k' := 200) (n := 0) (kd := 13) (m := 97) (nx := 37) (r := 37) (tl := []) (st' := []) (by decide +kernel) rfl (by decide +kernel) rfl (m200_p h4 Ih4 t n 0 Bh4 (by omega) (Nat.zero_le _)) ?_
        rintro h6 ⟨Ih6, Qh6, f5⟩
        have Rh6 : zMR ms121_q h h6 := Rh4.tr Qh6 (by decide +kernel)
        have Bh6 : vB t n h6 := Bh4.fr Qh6 (by decide +kernel)
        have Kh6_163 : fld h6 163 = fld hL2 163 := (Qh6.fa (a := 163) (by decide +kernel) rfl).trans Kh4_163
        have th6_37_41 : fld h6 37 41 = fld h4 37 41 := Qh6.f (a1 := 37) (a2 := 37) (j1 := 41) (j2 := 42) (by decide +kernel) ⟨by decide, by decide⟩ ⟨by decide, by decide⟩
        have th6_37_44 : fld h6 37 44 = fld h4 37 44 := Qh6.f (a1 := 37) (a2 := 37) (j1 := 44) (j2 := 45) (by decide +kernel) ⟨by decide, by decide⟩ ⟨by decide, by decide⟩
        have MD : mD t n h6 (pRead t n c) := ⟨400, (pSk t n 0, 0, c), fun _ => -1, f5, fun d hd => Or.inl ⟨rfl, by rw [congrFun Kh6_163 d]; exact iL2_1 d (by omega)⟩, ⟨Nat.zero_le _, f5.2.1⟩, by omega, by have z := B.2.1; omega, rfl⟩
        refine zwW_p [(0, 1, 0), (2, 1, 0)] (q := 39) (ls' := [(2, 37), (0, 1)]) (st' := []) (by decide +kernel) rfl ?_
        have L7 : ∀ (n0 : Nat) (hL7 : Hp), n0 = (fld hL7 37 41 - fld hL7 37 42).toNat → (vB t n hL7) → (mD t n hL7 (pRead t n c)) → zI hL7 → zMR ms121_q h hL7 → zwW sc (231) 121 39 [(2, 37), (0, 1)] [] hL7 (zwRv (fun g => zI g ∧ zMR ms121_q h g ∧ (mE t n g (pRead t n c)))) := by
          intro n0
          induction n0 using Nat.strongRecOn with
          | ind n0 IHL7 =>
            intro hL7 hnL7 iL7_0 iL7_1 IhL7 RhL7
            obtain ⟨kL, qL, bL, KL, GL, WL, EL, NL, TL⟩ := iL7_1
            have AL := KL.1
            have BL := iL7_0.1
            refine zwW_p [(1, 1, 0)] (q := 40) (ls' := [(2, 37), (0, 1)]) (st' := [(0, 1)]) (by decide +kernel) rfl ?_
            refine zwif_eq (q := 62) (nx := 43) (by decide +kernel) (fun c8 => ?_) (fun c8 => ?_)
            · exfalso; omega
            · refine zwW_p [(1, 0, 2)] (q := 44) (ls' := [(2, 37), (0, 1)]) (st' := [(2, 37)]) (by decide +kernel) rfl ?_
              refine zwW_gs IhL7 (kd := 13) (bn := 42) (n := 97) (t := 0) (lo := 0) (hi := 400) (nx := 47) (by decide +kernel) ?_
              intro v9 ev9 lv9 uv9
              refine zwW_p [(1, 0, 2)] (q := 48) (ls' := [(2, 37), (0, 1)]) (st' := [(2, 37), (0, v9)]) (by decide +kernel) rfl ?_
              refine zwW_gs IhL7 (kd := 13) (bn := 41) (n := 97) (t := 0) (lo := 0) (hi := 400) (nx := 51) (by decide +kernel) ?_
              intro v10 ev10 lv10 uv10
              refine zwic_ge (q := 62) (nx := 54) (by decide +kernel) (fun c11 => ?_) (fun c11 => ?_)
              · refine zwW_retv (nx := 63) (a := 0) (b := 0) (by decide +kernel) ?_
                exact ⟨IhL7, RhL7, by first | exact Or.inl ⟨by rw [TL, pRd_z (Or.inr (pK_0.mpr (by omega)))], EL, by rw [TL, pRd_z (Or.inr (pK_0.mpr (by omega)))]; exact GL⟩ | exact Or.inr ⟨by rw [TL, pRd_f (k := kL - 1) (by omega) (by have z := (pK_0 (t := t) (n := n) (p := qL.1)); omega) {A0}]; exact {A0}, by rw [TL, pRd_f (k := kL - 1) (by omega) (by have z := (pK_0 (t := t) (n := n) (p := qL.1)); omega) {A0}]; exact {A1}⟩⟩
              · refine zwW_p [(1, 0, 2)] (q := 55) (ls' := [(2, 37), (0, 1)]) (st' := [(2, 37)]) (by decide +kernel) rfl ?_
                refine zwW_cm IhL7 (op := 60) (k' := 201) (n := 0) (kd := 13) (m := 97) (nx := 58) (r := 37) (tl := []) (st' := []) (by decide +kernel) rfl (by decide +kernel) rfl (m201_q hL7 IhL7 t n qL bL iL7_0 KL GL WL (by omega) EL) ?_
                rintro x h12 ⟨Ih12, Qh12, ⟨rfl, f13, f14, f15, f16⟩ | ⟨rfl, f17, f18⟩⟩
                · have Rh12 : zMR ms121_q h h12 := RhL7.tr Qh12 (by decide +kernel)
                  have Bh12 : vB t n h12 := iL7_0.fr Qh12 (by decide +kernel)
                  have th12_37_41 : fld h12 37 41 = fld hL7 37 41 := Qh12.f (a1 := 37) (a2 := 37) (j1 := 41) (j2 := 42) (by decide +kernel) ⟨by decide, by decide⟩ ⟨by decide, by decide⟩
                  have PW := pCls_W WL f13
                  have A55 : fld h12 37 42 = (((pCls t n qL bL).2.1.1 : Nat) : Int) := f14.1
                  have P55 := PW.1.2
                  have Q55 := PW.2
                  have B55 := (Bh12).1
                  have LB : mD t n h12 (pRead t n c) := ⟨kL - 1, _, _, f14, f15, PW.1, f16, by have z := PW.2; omega, by rw [TL]; exact pRd_n (k := kL - 1) (by omega) (by have z := (pK_0 (t := t) (n := n) (p := qL.1)); omega) f13⟩
                  refine zwW_p [(2, 1, 0), (24, 39, 0)] (q := 39) (ls' := [(2, 37), (0, 1)]) (st' := []) (by decide +kernel) rfl ?_
                  exact IHL7 (fld h12 37 41 - fld h12 37 42).toNat (by omega) h12 rfl (Bh12) (LB) Ih12 Rh12
                · have Rh12 : zMR ms121_q h h12 := RhL7.tr Qh12 (by decide +kernel)
                  have Bh12 : vB t n h12 := iL7_0.fr Qh12 (by decide +kernel)
                  have th12_37_41 : fld h12 37 41 = fld hL7 37 41 := Qh12.f (a1 := 37) (a2 := 37) (j1 := 41) (j2 := 42) (by decide +kernel) ⟨by decide, by decide⟩ ⟨by decide, by decide⟩
                  refine zwW_p [(2, 1, 0), (24, 39, 0)] (q := 39) (ls' := [(2, 37), (0, 0)]) (st' := []) (by decide +kernel) rfl ?_
                  refine zwW_p [(1, 1, 0)] (q := 40) (ls' := [(2, 37), (0, 0)]) (st' := [(0, 0)]) (by decide +kernel) rfl ?_
                  refine zwif_eq (q := 62) (nx := 43) (by decide +kernel) (fun c19 => ?_) (fun c19 => ?_)
                  · refine zwW_retv (nx := 63) (a := 0) (b := 0) (by decide +kernel) ?_
                    exact ⟨Ih12, Rh12, by first | exact Or.inl ⟨by rw [TL, pRd_z (Or.inr (pK_0.mpr (by omega)))], EL, by rw [TL, pRd_z (Or.inr (pK_0.mpr (by omega)))]; exact GL⟩ | exact Or.inr ⟨by rw [TL, pRd_f (k := kL - 1) (by omega) (by have z := (pK_0 (t := t) (n := n) (p := qL.1)); omega) f17]; exact f17, by rw [TL, pRd_f (k := kL - 1) (by omega) (by have z := (pK_0 (t := t) (n := n) (p := qL.1)); omega) f17]; exact f18⟩⟩
                  · exfalso; omega
        exact L7 _ h6 rfl (Bh6) (MD) Ih6 Rh6
      · refine zwW_p [(1, 0, 2)] (q := 13) (ls' := [(2, 37), (0, kL2)]) (st' := [(2, 37)]) (by decide +kernel) rfl ?_
        refine zwW_gc IhL2 (kd := 13) (bn := 49) (n := 97) (c := 154) (nx := 16) (by decide +kernel) ?_
        refine zwW_p [(0, 8, 0)] (q := 18) (ls' := [(2, 37), (0, kL2)]) (st' := [(0, 8), (2, 154)]) (by decide +kernel) rfl ?_
        refine zwW_ro IhL2 (a := 154) (n := 9) (kd := 26) (base := 155) (step := 1) (nx := 19) (by decide +kernel) rfl ⟨by decide, by decide⟩ ?_
        rw [show ((155 : Nat) : Int) + ((1 : Nat) : Int) * 8 = 163 from rfl]
        refine zwW_p [(1, 1, 0), (0, 0, 0)] (q := 21) (ls' := [(2, 37), (0, kL2)]) (st' := [(0, 0), (0, kL2), (2, 163)]) (by decide +kernel) rfl ?_
        refine zwW_as IhL2 (a1 := 155) (a2 := 163) (n := 5) (lo := 0) (hi := 400) (nx := 22) (by decide +kernel) ⟨by decide, by decide⟩ ⟨by omega, by omega⟩ ⟨by decide, by decide⟩ ?_
        intro h20 eh20 Ih20
        have th20_37_41 : fld h20 37 41 = fld hL2 37 41 := by rw [eh20]; exact fld_wr (by omega)
        have th20_37_42 : fld h20 37 42 = fld hL2 37 42 := by rw [eh20]; exact fld_wr (by omega)
        have th20_37_44 : fld h20 37 44 = fld hL2 37 44 := by rw [eh20]; exact fld_wr (by omega)
        have W21 : ∀ c : Nat, (c : Int) < kL2 + 1 → fld h20 163 c = 0 := by
          intro c hc
          by_cases hq : c = (kL2).toNat
          · rw [hq, eh20]; exact fld_wr_eq (IhL2.s (a1 := 155) (a2 := 163) (k := 20) (n := 5) (by decide +kernel) (by decide) (by decide)) (by omega)
          · rw [eh20, fld_wr (Or.inr hq)]; exact iL2_1 c (by omega)
        have Bh20 : vB t n h20 := iL2_0.fr (zMR.one (a1 := 163) (a2 := 163) (j1 := 0) (j2 := 5) ⟨by decide, by decide⟩ ⟨by omega, by omega⟩ eh20) (by decide +kernel)
        have Rh20 : zMR ms121_q h h20 := RhL2.w (a1 := 163) (a2 := 163) (j1 := 0) (j2 := 5) (by decide +kernel) ⟨by decide, by decide⟩ ⟨by omega, by omega⟩ eh20
        refine zwW_inc (i := 1) (c := 1) (x := kL2) (nx := 25) (by decide +kernel) rfl ⟨by omega, by omega⟩ (ls' := [(2, 37), (0, (kL2 + 1))]) rfl ?_
        refine zwW_p [(24, 7, 0)] (q := 7) (ls' := [(2, 37), (0, (kL2 + 1))]) (st' := []) (by decide +kernel) rfl ?_
        exact IHL2 ((1000 - (kL2 + 1))).toNat (by omega) (kL2 + 1) h20 rfl (Bh20) (W21) (by omega) Ih20 Rh20
  exact L2 _ 0 h1 rfl (Bh1) (fun c hc => by omega) (by omega) Ih1 Rh1
def ms28_q : Zms := [(37, 37, 42, 47), (37, 37, 47, 48), (149, 153, 0, 840), (163, 163, 0, 5)]
-- WheelLandModel.fault()I
theorem m28_q {sc : List Int} (h : Hp) (I : zI h) (t : pT) (n : Nat) (c : Nat → Int) (B : vB t n h) : zwC sc 233 28 [(2, 37)] h (zwRt 0 (fun x g => zI g ∧ zMR ms28_q h g ∧ (-2147483648 ≤ x ∧ x ≤ 2147483647) ∧ (x = pFa t n c))) := by
  refine zwC_of (D := 232) 1 (by decide +kernel) rfl (ls := [(2, 37)]) rfl ?_
  have R : zMR ms28_q h h := zMR.rf _ _
  refine zwW_p [(1, 0, 2)] (q := 1) (ls' := [(2, 37)]) (st' := [(2, 37)]) (by decide +kernel) rfl ?_
  refine zwW_cmv I (op := 60) (k' := 121) (n := 0) (kd := 13) (m := 97) (nx := 4) (r := 37) (tl := []) (st' := []) (by decide +kernel) rfl (by decide +kernel) rfl (m121_q h I t n c B) ?_
  rintro h2 ⟨Ih2, Qh2, f1⟩
  have Rh2 : zMR ms28_q h h2 := R.tr Qh2 (by decide +kernel)
  refine zwW_p [(1, 0, 2)] (q := 5) (ls' := [(2, 37)]) (st' := [(2, 37)]) (by decide +kernel) rfl ?_
  refine zwW_gs Ih2 (kd := 13) (bn := 44) (n := 97) (t := 0) (lo := -1) (hi := 400) (nx := 8) (by decide +kernel) ?_
  intro v3 ev3 lv3 uv3
  refine zwW_ret (nx := 9) (a := 0) (b := 0) (by decide +kernel) rfl (Or.inl rfl) ?_
  exact ⟨Ih2, Rh2, by omega, by have z := f1.fx; omega⟩
