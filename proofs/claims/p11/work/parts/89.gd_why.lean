/-! contracts of the class -/
-- WheelLand$Sheet.beginOf(I)I
theorem x206_w {sc : List Int} (h : Hp) (C : CI h) (r a : Int) (G_r : gS h r) (q_a : -2147483648 ≤ a ∧ a ≤ 2147483647) (p1 : 0 ≤ a ∧ a ≤ 4) : zwC sc 1 206 [(2, r), (0, a)] h (zwRt 0 (fun x g => h = g ∧ (-2147483648 ≤ x ∧ x ≤ 2147483647) ∧ (x = fld h (fld h r 2) a.toNat))) := by
  refine zwC_of (D := 0) 2 (by decide +kernel) rfl (ls := [(2, r), (0, a)]) rfl ?_
  have lw_r := G_r.1
  refine zwW_p [(1, 1, 0)] (q := 1) (ls' := [(2, r), (0, a)]) (st' := [(0, a)]) (by decide +kernel) rfl ?_
  refine zwif_lt (q := 22) (nx := 4) (by decide +kernel) (fun c1 => ?_) (fun c1 => ?_)
  · exfalso; omega
  · refine zwW_p [(1, 1, 0), (1, 0, 2)] (q := 6) (ls' := [(2, r), (0, a)]) (st' := [(2, r), (0, a)]) (by decide +kernel) rfl ?_
    refine zwW_get (kd := 10) (bn := 2) (t := 2) (n := 3) (nx := 9) (by decide +kernel) G_r.2.1 rfl ?_
    obtain ⟨v2, ev2⟩ : ∃ z, z = fld h r 2 := ⟨_, rfl⟩
    rw [← ev2]
    have Gv2 : gA 5 h v2 := by rw [ev2]; exact G_r.2.2.2
    have lv2 := Gv2.1
    refine zwW_len (n := 5) (nx := 10) (by decide +kernel) Gv2.2 rfl ?_
    refine zwic_ge (q := 22) (nx := 13) (by decide +kernel) (fun c3 => ?_) (fun c3 => ?_)
    · exfalso; omega
    · refine zwW_p [(1, 0, 2)] (q := 14) (ls' := [(2, r), (0, a)]) (st' := [(2, r)]) (by decide +kernel) rfl ?_
      refine zwW_get (kd := 10) (bn := 2) (t := 2) (n := 3) (nx := 17) (by decide +kernel) G_r.2.1 rfl ?_
      rw [← ev2]
      refine zwW_p [(1, 1, 0)] (q := 18) (ls' := [(2, r), (0, a)]) (st' := [(0, a), (2, v2)]) (by decide +kernel) rfl ?_
      refine zwX_ai C (n := 5) (nx := 19) (by decide +kernel) Gv2.2 Gv2.1 ⟨by omega, by omega⟩ ?_
      intro v5 ev5 lv5 uv5
      refine zwW_p [(24, 23, 0)] (q := 23) (ls' := [(2, r), (0, a)]) (st' := [(0, v5)]) (by decide +kernel) rfl ?_
      refine zwW_ret (nx := 24) (a := 0) (b := 0) (by decide +kernel) rfl (Or.inl rfl) ?_
      exact ⟨rfl, by omega, by first | omega | (subst_vars; rfl)⟩
-- WheelLand$Rules.inForce(II)LWheelLand$Sheet;
theorem x125_w {sc : List Int} (h : Hp) (C : CI h) (a b : Int) (q_a : -2147483648 ≤ a ∧ a ≤ 2147483647) (q_b : -2147483648 ≤ b ∧ b ≤ 2147483647) (p1 : 0 ≤ a ∧ a ≤ 4) (F : zFrc h a) : zwC sc 2 125 [(2, 13), (0, a), (0, b)] h (zwRt 2 (fun x g => h = g ∧ ((x = 0 ∧ (zBw h a b (fld h 13 1).toNat = -1)) ∨ (gS h x ∧ (0 ≤ zBw h a b (fld h 13 1).toNat ∧ x = fld h 15 (zBw h a b (fld h 13 1).toNat).toNat))))) := by
  refine zwC_of (D := 1) 7 (by decide +kernel) rfl (ls := [(2, 13), (0, a), (0, b), (9, 0), (9, 0), (9, 0), (9, 0)]) rfl ?_
  refine zwW_p [(0, 0, 2), (2, 3, 2), (0, 0, 0), (2, 4, 0), (0, 0, 0), (2, 5, 0)] (q := 8) (ls' := [(2, 13), (0, a), (0, b), (2, 0), (0, 0), (0, 0), (9, 0)]) (st' := []) (by decide +kernel) rfl ?_
  have L1 : ∀ (n0 : Nat) (wL1 kL1 r3L1 : Int) (w6L1 : Vl), n0 = ((1000 - kL1)).toNat → (zFi h a b r3L1 wL1 (kL1).toNat) → (kL1 ≤ max 0 (fld h 13 1)) → (-2147483648 ≤ wL1 ∧ wL1 ≤ 2147483647) → (0 ≤ kL1 ∧ kL1 ≤ 12) → ((r3L1 = 0 ∨ gS h r3L1)) → zwW sc (1) 125 8 [(2, 13), (0, a), (0, b), (2, r3L1), (0, wL1), (0, kL1), w6L1] [] h (zwRt 2 (fun x g => h = g ∧ ((x = 0 ∧ (zBw h a b (fld h 13 1).toNat = -1)) ∨ (gS h x ∧ (0 ≤ zBw h a b (fld h 13 1).toNat ∧ x = fld h 15 (zBw h a b (fld h 13 1).toNat).toNat))))) := by
    intro n0
    induction n0 using Nat.strongRecOn with
    | ind n0 IHL1 =>
      intro wL1 kL1 r3L1 w6L1 hnL1 iL1_0 iL1_1 iL1_2 iL1_3 gL1_0
      have lw_r3L1 : 0 ≤ r3L1 := by
        rcases gL1_0 with z | z
        · omega
        · have := z.1
          omega
      refine zwW_p [(1, 5, 0), (1, 0, 2)] (q := 11) (ls' := [(2, 13), (0, a), (0, b), (2, r3L1), (0, wL1), (0, kL1), w6L1]) (st' := [(2, 13), (0, kL1)]) (by decide +kernel) rfl ?_
      refine zwW_gs C.1 (kd := 9) (bn := 1) (n := 6) (t := 0) (lo := 0) (hi := 12) (nx := 14) (by decide +kernel) ?_
      intro v2 ev2 lv2 uv2
      refine zwic_ge (q := 92) (nx := 17) (by decide +kernel) (fun c3 => ?_) (fun c3 => ?_)
      · refine zwW_p [(1, 3, 2)] (q := 93) (ls' := [(2, 13), (0, a), (0, b), (2, r3L1), (0, wL1), (0, kL1), w6L1]) (st' := [(2, r3L1)]) (by decide +kernel) rfl ?_
        refine zwW_ret (nx := 94) (a := 0) (b := 2) (by decide +kernel) rfl (Or.inl rfl) ?_
        refine ⟨rfl, ?_⟩
        have z := iL1_0
        rw [show (kL1).toNat = (fld h 13 1).toNat by omega] at z
        rcases z with ⟨z1, z2, z3⟩ | ⟨z1, z2, z3, z4⟩
        · exact Or.inl ⟨z2, z1⟩
        · exact Or.inr ⟨(gL1_0).resolve_left (by omega), z1, z2⟩
      · refine zwW_p [(1, 5, 0), (1, 0, 2)] (q := 20) (ls' := [(2, 13), (0, a), (0, b), (2, r3L1), (0, wL1), (0, kL1), w6L1]) (st' := [(2, 13), (0, kL1)]) (by decide +kernel) rfl ?_
        refine zwW_gc C.1 (kd := 9) (bn := 2) (n := 6) (c := 15) (nx := 23) (by decide +kernel) ?_
        refine zwW_len (kd := 24) (n := 12) (nx := 24) (by decide +kernel) (C.1.s (a1 := 15) (a2 := 15) (by decide +kernel) (by omega) (by omega)) rfl ?_
        refine zwic_ge (q := 92) (nx := 27) (by decide +kernel) (fun c4 => ?_) (fun c4 => ?_)
        · exfalso; omega
        · refine zwW_p [(1, 0, 2)] (q := 28) (ls' := [(2, 13), (0, a), (0, b), (2, r3L1), (0, wL1), (0, kL1), w6L1]) (st' := [(2, 13)]) (by decide +kernel) rfl ?_
          refine zwW_gc C.1 (kd := 9) (bn := 2) (n := 6) (c := 15) (nx := 31) (by decide +kernel) ?_
          refine zwW_p [(1, 5, 0)] (q := 33) (ls' := [(2, 13), (0, a), (0, b), (2, r3L1), (0, wL1), (0, kL1), w6L1]) (st' := [(0, kL1), (2, 15)]) (by decide +kernel) rfl ?_
          refine zwW_al C.1 (a1 := 15) (a2 := 15) (kd := 24) (n := 12) (t := 2) (lo := 0) (hi := 2147483647) (nx := 34) (by decide +kernel) ⟨by decide, by decide⟩ ⟨by omega, by omega⟩ ?_
          intro v5 ev5 lv5 uv5
          have Gv5 : v5 = 0 ∨ gS h v5 := by rw [ev5]; exact C.2.2.2.2 kL1.toNat (by omega)
          have F34 := F (kL1).toNat (by omega)
          refine zwW_p [(2, 6, 2), (1, 0, 2)] (q := 37) (ls' := [(2, 13), (0, a), (0, b), (2, r3L1), (0, wL1), (0, kL1), (2, v5)]) (st' := [(2, 13)]) (by decide +kernel) rfl ?_
          refine zwW_gc C.1 (kd := 9) (bn := 3) (n := 6) (c := 16) (nx := 40) (by decide +kernel) ?_
          refine zwW_p [(1, 5, 0)] (q := 42) (ls' := [(2, 13), (0, a), (0, b), (2, r3L1), (0, wL1), (0, kL1), (2, v5)]) (st' := [(0, kL1), (2, 16)]) (by decide +kernel) rfl ?_
          refine zwW_al C.1 (a1 := 16) (a2 := 16) (kd := 20) (n := 12) (t := 0) (lo := -2147483648) (hi := 2147483647) (nx := 43) (by decide +kernel) ⟨by decide, by decide⟩ ⟨by omega, by omega⟩ ?_
          intro v6 ev6 lv6 uv6
          refine zwW_p [(1, 2, 0)] (q := 44) (ls' := [(2, 13), (0, a), (0, b), (2, r3L1), (0, wL1), (0, kL1), (2, v5)]) (st' := [(0, b), (0, v6)]) (by decide +kernel) rfl ?_
          refine zwic_gt (q := 86) (nx := 47) (by decide +kernel) (fun c7 => ?_) (fun c7 => ?_)
          · refine zwW_inc (i := 5) (c := 1) (x := kL1) (nx := 89) (by decide +kernel) rfl ⟨by omega, by omega⟩ (ls' := [(2, 13), (0, a), (0, b), (2, r3L1), (0, wL1), (0, (kL1 + 1)), (2, v5)]) rfl ?_
            refine zwW_p [(24, 8, 0)] (q := 8) (ls' := [(2, 13), (0, a), (0, b), (2, r3L1), (0, wL1), (0, (kL1 + 1)), (2, v5)]) (st' := []) (by decide +kernel) rfl ?_
            exact IHL1 ((1000 - (kL1 + 1))).toNat (by omega) wL1 (kL1 + 1) r3L1 (2, v5) rfl (by rw [show (kL1 + 1).toNat = (kL1).toNat + 1 by omega]; first | exact zFi_f F iL1_0 (by omega) (by omega) | (have z := zFi_t F iL1_0 (by omega) (by omega) (by omega) (by omega); subst_vars; exact z)) (by omega) (by omega) (by omega) gL1_0
          · refine zwW_p [(1, 0, 2)] (q := 48) (ls' := [(2, 13), (0, a), (0, b), (2, r3L1), (0, wL1), (0, kL1), (2, v5)]) (st' := [(2, 13)]) (by decide +kernel) rfl ?_
            refine zwW_gc C.1 (kd := 9) (bn := 3) (n := 6) (c := 16) (nx := 51) (by decide +kernel) ?_
            refine zwW_p [(1, 5, 0)] (q := 53) (ls' := [(2, 13), (0, a), (0, b), (2, r3L1), (0, wL1), (0, kL1), (2, v5)]) (st' := [(0, kL1), (2, 16)]) (by decide +kernel) rfl ?_
            refine zwW_al C.1 (a1 := 16) (a2 := 16) (kd := 20) (n := 12) (t := 0) (lo := -2147483648) (hi := 2147483647) (nx := 54) (by decide +kernel) ⟨by decide, by decide⟩ ⟨by omega, by omega⟩ ?_
            intro v8 ev8 lv8 uv8
            refine zwW_p [(1, 4, 0)] (q := 56) (ls' := [(2, 13), (0, a), (0, b), (2, r3L1), (0, wL1), (0, kL1), (2, v5)]) (st' := [(0, wL1), (0, v8)]) (by decide +kernel) rfl ?_
            refine zwic_lt (q := 86) (nx := 59) (by decide +kernel) (fun c9 => ?_) (fun c9 => ?_)
            · refine zwW_inc (i := 5) (c := 1) (x := kL1) (nx := 89) (by decide +kernel) rfl ⟨by omega, by omega⟩ (ls' := [(2, 13), (0, a), (0, b), (2, r3L1), (0, wL1), (0, (kL1 + 1)), (2, v5)]) rfl ?_
              refine zwW_p [(24, 8, 0)] (q := 8) (ls' := [(2, 13), (0, a), (0, b), (2, r3L1), (0, wL1), (0, (kL1 + 1)), (2, v5)]) (st' := []) (by decide +kernel) rfl ?_
              exact IHL1 ((1000 - (kL1 + 1))).toNat (by omega) wL1 (kL1 + 1) r3L1 (2, v5) rfl (by rw [show (kL1 + 1).toNat = (kL1).toNat + 1 by omega]; first | exact zFi_f F iL1_0 (by omega) (by omega) | (have z := zFi_t F iL1_0 (by omega) (by omega) (by omega) (by omega); subst_vars; exact z)) (by omega) (by omega) (by omega) gL1_0
            · refine zwW_p [(1, 6, 2)] (q := 61) (ls' := [(2, 13), (0, a), (0, b), (2, r3L1), (0, wL1), (0, kL1), (2, v5)]) (st' := [(2, v5)]) (by decide +kernel) rfl ?_
              refine zwnu_eq (q := 86) (nx := 64) (by decide +kernel) (by omega) (fun c10 => ?_) (fun c10 => ?_)
              · refine zwW_inc (i := 5) (c := 1) (x := kL1) (nx := 89) (by decide +kernel) rfl ⟨by omega, by omega⟩ (ls' := [(2, 13), (0, a), (0, b), (2, r3L1), (0, wL1), (0, (kL1 + 1)), (2, v5)]) rfl ?_
                refine zwW_p [(24, 8, 0)] (q := 8) (ls' := [(2, 13), (0, a), (0, b), (2, r3L1), (0, wL1), (0, (kL1 + 1)), (2, v5)]) (st' := []) (by decide +kernel) rfl ?_
                exact IHL1 ((1000 - (kL1 + 1))).toNat (by omega) wL1 (kL1 + 1) r3L1 (2, v5) rfl (by rw [show (kL1 + 1).toNat = (kL1).toNat + 1 by omega]; first | exact zFi_f F iL1_0 (by omega) (by omega) | (have z := zFi_t F iL1_0 (by omega) (by omega) (by omega) (by omega); subst_vars; exact z)) (by omega) (by omega) (by omega) gL1_0
              · have G11 : gS h v5 := Gv5.resolve_left (by omega)
                have lG11 := G11.1
                refine zwW_p [(1, 6, 2), (1, 1, 0)] (q := 67) (ls' := [(2, 13), (0, a), (0, b), (2, r3L1), (0, wL1), (0, kL1), (2, v5)]) (st' := [(0, a), (2, v5)]) (by decide +kernel) rfl ?_
                refine zwW_cv (op := 60) (k' := 206) (n := 1) (kd := 10) (m := 3) (nx := 70) (r := v5) (tl := [(0, a)]) (st' := []) (by decide +kernel) rfl (by decide +kernel) G11.2.1 (x206_w h C v5 a G11 (by omega) p1) rfl ?_
                rintro v12 _ ⟨rfl, f13, f14⟩
                have B70 : v12 = fld h (fld h (fld h 15 (kL1).toNat) 2) a.toNat := by have z := f14; rw [ev5] at z; exact z
                refine zwW_p [(0, -1, 0)] (q := 71) (ls' := [(2, 13), (0, a), (0, b), (2, r3L1), (0, wL1), (0, kL1), (2, v5)]) (st' := [(0, -1), (0, v12)]) (by decide +kernel) rfl ?_
                refine zwic_eq (q := 86) (nx := 74) (by decide +kernel) (fun c15 => ?_) (fun c15 => ?_)
                · refine zwW_inc (i := 5) (c := 1) (x := kL1) (nx := 89) (by decide +kernel) rfl ⟨by omega, by omega⟩ (ls' := [(2, 13), (0, a), (0, b), (2, r3L1), (0, wL1), (0, (kL1 + 1)), (2, v5)]) rfl ?_
                  refine zwW_p [(24, 8, 0)] (q := 8) (ls' := [(2, 13), (0, a), (0, b), (2, r3L1), (0, wL1), (0, (kL1 + 1)), (2, v5)]) (st' := []) (by decide +kernel) rfl ?_
                  exact IHL1 ((1000 - (kL1 + 1))).toNat (by omega) wL1 (kL1 + 1) r3L1 (2, v5) rfl (by rw [show (kL1 + 1).toNat = (kL1).toNat + 1 by omega]; first | exact zFi_f F iL1_0 (by omega) (by omega) | (have z := zFi_t F iL1_0 (by omega) (by omega) (by omega) (by omega); subst_vars; exact z)) (by omega) (by omega) (by omega) gL1_0
                · refine zwW_p [(1, 0, 2)] (q := 75) (ls' := [(2, 13), (0, a), (0, b), (2, r3L1), (0, wL1), (0, kL1), (2, v5)]) (st' := [(2, 13)]) (by decide +kernel) rfl ?_
                  refine zwW_gc C.1 (kd := 9) (bn := 3) (n := 6) (c := 16) (nx := 78) (by decide +kernel) ?_
                  refine zwW_p [(1, 5, 0)] (q := 80) (ls' := [(2, 13), (0, a), (0, b), (2, r3L1), (0, wL1), (0, kL1), (2, v5)]) (st' := [(0, kL1), (2, 16)]) (by decide +kernel) rfl ?_
                  refine zwW_al C.1 (a1 := 16) (a2 := 16) (kd := 20) (n := 12) (t := 0) (lo := -2147483648) (hi := 2147483647) (nx := 81) (by decide +kernel) ⟨by decide, by decide⟩ ⟨by omega, by omega⟩ ?_
                  intro v16 ev16 lv16 uv16
                  refine zwW_p [(2, 4, 0), (1, 6, 2), (2, 3, 2)] (q := 86) (ls' := [(2, 13), (0, a), (0, b), (2, v5), (0, v16), (0, kL1), (2, v5)]) (st' := []) (by decide +kernel) rfl ?_
                  refine zwW_inc (i := 5) (c := 1) (x := kL1) (nx := 89) (by decide +kernel) rfl ⟨by omega, by omega⟩ (ls' := [(2, 13), (0, a), (0, b), (2, v5), (0, v16), (0, (kL1 + 1)), (2, v5)]) rfl ?_
                  refine zwW_p [(24, 8, 0)] (q := 8) (ls' := [(2, 13), (0, a), (0, b), (2, v5), (0, v16), (0, (kL1 + 1)), (2, v5)]) (st' := []) (by decide +kernel) rfl ?_
                  exact IHL1 ((1000 - (kL1 + 1))).toNat (by omega) v16 (kL1 + 1) v5 (2, v5) rfl (by rw [show (kL1 + 1).toNat = (kL1).toNat + 1 by omega]; first | exact zFi_f F iL1_0 (by omega) (by omega) | (have z := zFi_t F iL1_0 (by omega) (by omega) (by omega) (by omega); subst_vars; exact z)) (by omega) (by omega) (by omega) (Or.inr G11)
  exact L1 _ 0 0 0 (9, 0) rfl (zFi_0) (by omega) (by omega) (by omega) (Or.inl rfl)
