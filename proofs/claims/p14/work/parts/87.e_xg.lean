/-! contracts of the class -/
-- WheelLand$Reader.factor(I)Z
theorem x280_q {sc : List Int} (a : Int) (D0 : Nat) (pa : 0 ≤ a ∧ a ≤ 8) (o : Bool) (sub : pT → Nat → pQ → pR) (ho : (a < 8 ∧ o = true) ∨ (8 ≤ a ∧ o = false)) (hs : ∀ (t : pT) (n : Nat), pG n (sub t n)) (HS : a < 8 → rX sc D0 241 (a + 1) sub) : rX sc (D0 + 20) 280 a (fun t n => pFac t n o (sub t n)) := by
  intro h C t n s B Q0 W0
  refine zwC_of (D := D0 + 19) 2 (by decide +kernel) rfl (ls := [(2, 9), (0, a)]) rfl ?_
  have X : zXR msxK 0 0 h h := zXR.rf _ _
  refine zwW_p [(1, 0, 2)] (q := 1) (ls' := [(2, 9), (0, a)]) (st' := [(2, 9)]) (by decide +kernel) rfl ?_
  refine zwW_gs C.1 (kd := 7) (bn := 4) (n := 9) (t := 0) (lo := -2147483648) (hi := 2147483647) (nx := 4) (by decide +kernel) ?_
  intro v1 ev1 lv1 uv1
  have kv1 : v1 = pK t n s.1 := ev1.trans (Q0).kd
  refine zwW_p [(0, 2, 0)] (q := 5) (ls' := [(2, 9), (0, a)]) (st' := [(0, 2), (0, v1)]) (by decide +kernel) rfl ?_
  refine zwic_ne (q := 42) (nx := 8) (by decide +kernel) (fun c2 => ?_) (fun c2 => ?_)
  · refine zwW_p [(1, 0, 2)] (q := 43) (ls' := [(2, 9), (0, a)]) (st' := [(2, 9)]) (by decide +kernel) rfl ?_
    refine zwW_gs C.1 (kd := 7) (bn := 4) (n := 9) (t := 0) (lo := -2147483648) (hi := 2147483647) (nx := 46) (by decide +kernel) ?_
    intro v3 ev3 lv3 uv3
    have kv3 : v3 = pK t n s.1 := ev3.trans (Q0).kd
    refine zwW_p [(0, 1, 0)] (q := 47) (ls' := [(2, 9), (0, a)]) (st' := [(0, 1), (0, v3)]) (by decide +kernel) rfl ?_
    refine zwic_ne (q := 89) (nx := 50) (by decide +kernel) (fun c4 => ?_) (fun c4 => ?_)
    · refine zwW_p [(1, 1, 0), (0, 8, 0)] (q := 92) (ls' := [(2, 9), (0, a)]) (st' := [(0, 8), (0, a)]) (by decide +kernel) rfl ?_
      refine zwic_ge (q := 141) (nx := 95) (by decide +kernel) (fun c5 => ?_) (fun c5 => ?_)
      · refine zwW_p [(0, 0, 0)] (q := 142) (ls' := [(2, 9), (0, a)]) (st' := [(0, 0)]) (by decide +kernel) rfl ?_
        refine zwW_ret (nx := 143) (a := 1) (b := 0) (by decide +kernel) rfl (Or.inr (Or.inl ⟨rfl, by omega⟩)) ?_
        refine ⟨C, X.le (by decide) (by decide), by omega, ?_⟩
        show rR t n h 0 (pFac t n o (sub t n) s)
        first
        | (rw [pFac_num (by omega) (by omega), ← rfl]; exact rR_t Q0)
        | (rw [pFac_wd (by omega) ⟨by omega, by omega⟩, ← rfl]; exact rR_t Q0)
        | (rw [pFac_par (ho.resolve_right (fun z => by omega)).2 (by omega) (S115.b1 (by omega)) (by omega)]; exact rR_t Q0)
        | (rw [pFac_pn (ho.resolve_right (fun z => by omega)).2 (by omega) (S115.b1 (by omega)) (by omega)]; exact rR_f Q0)
        | (rw [pFac_pf (ho.resolve_right (fun z => by omega)).2 (by omega) (S115.b0 (by omega))]; exact S115.ze (by omega))
        | (rw [pFac_no (fun z => by omega) (fun z => by omega) (fun z => absurd z.1 (fun z1 => by have y := ho.resolve_left (fun y => by omega); rw [z1] at y; cases y.2))]; exact rR_f Q0)
        | (exfalso; omega)
      · refine zwW_p [(1, 0, 2)] (q := 96) (ls' := [(2, 9), (0, a)]) (st' := [(2, 9)]) (by decide +kernel) rfl ?_
        refine zwW_gs C.1 (kd := 7) (bn := 4) (n := 9) (t := 0) (lo := -2147483648) (hi := 2147483647) (nx := 99) (by decide +kernel) ?_
        intro v6 ev6 lv6 uv6
        have kv6 : v6 = pK t n s.1 := ev6.trans (Q0).kd
        refine zwW_p [(0, 40, 0)] (q := 101) (ls' := [(2, 9), (0, a)]) (st' := [(0, 40), (0, v6)]) (by decide +kernel) rfl ?_
        refine zwic_ne (q := 141) (nx := 104) (by decide +kernel) (fun c7 => ?_) (fun c7 => ?_)
        · refine zwW_p [(0, 0, 0)] (q := 142) (ls' := [(2, 9), (0, a)]) (st' := [(0, 0)]) (by decide +kernel) rfl ?_
          refine zwW_ret (nx := 143) (a := 1) (b := 0) (by decide +kernel) rfl (Or.inr (Or.inl ⟨rfl, by omega⟩)) ?_
          refine ⟨C, X.le (by decide) (by decide), by omega, ?_⟩
          show rR t n h 0 (pFac t n o (sub t n) s)
          first
          | (rw [pFac_num (by omega) (by omega), ← rfl]; exact rR_t Q0)
          | (rw [pFac_wd (by omega) ⟨by omega, by omega⟩, ← rfl]; exact rR_t Q0)
          | (rw [pFac_par (ho.resolve_right (fun z => by omega)).2 (by omega) (S115.b1 (by omega)) (by omega)]; exact rR_t Q0)
          | (rw [pFac_pn (ho.resolve_right (fun z => by omega)).2 (by omega) (S115.b1 (by omega)) (by omega)]; exact rR_f Q0)
          | (rw [pFac_pf (ho.resolve_right (fun z => by omega)).2 (by omega) (S115.b0 (by omega))]; exact S115.ze (by omega))
          | (rw [pFac_no (fun z => by omega) (fun z => by omega) (fun z => absurd z.1 (fun z1 => by have y := ho.resolve_left (fun y => by omega); rw [z1] at y; cases y.2))]; exact rR_f Q0)
          | (exfalso; omega)
        · refine zwW_p [(1, 0, 2)] (q := 105) (ls' := [(2, 9), (0, a)]) (st' := [(2, 9)]) (by decide +kernel) rfl ?_
          refine zwW_cm C.1 (op := 60) (k' := 198) (n := 0) (kd := 7) (m := 9) (nx := 108) (r := 9) (tl := []) (st' := []) (by decide +kernel) rfl (by decide +kernel) (Nat.ble_eq_true_of_le (by omega)) (x198_q h C t n s B Q0 (W0).2) ?_
          rintro x h9 ⟨Ch9, Qh9, rfl, f8⟩
          have Xh9 : zXR msxK (0) (0) h h9 := X.tr (c2 := 0) (s2 := 0) Qh9 (by decide +kernel) (by decide) (by decide)
          have th9_9_6 : fld h9 9 6 = fld h 9 6 := Qh9.f (a1 := 9) (a2 := 9) (j1 := 6) (j2 := 7) (by decide +kernel) ⟨by decide, by decide⟩ ⟨by decide, by decide⟩ ⟨by decide, by decide⟩
          have Bh9 : rB t n h9 := B.fr Qh9 (by decide +kernel)
          have Vh9 : rV n (pA t n s) := (W0).a (by omega)
          refine zwif_eq (q := 141) (nx := 111) (by decide +kernel) (fun c10 => ?_) (fun c10 => ?_)
          · exfalso; omega
          · refine zwW_p [(1, 0, 2), (1, 1, 0), (0, 1, 0)] (q := 114) (ls' := [(2, 9), (0, a)]) (st' := [(0, 1), (0, a), (2, 9)]) (by decide +kernel) rfl ?_
            refine zwW_add (nx := 115) (by decide +kernel) ⟨by omega, by omega⟩ ?_
            refine zwW_cm Ch9.1 (op := 60) (k' := 241) (n := 1) (kd := 7) (m := 9) (nx := 118) (r := 9) (tl := [(0, (a + 1))]) (st' := []) (by decide +kernel) rfl (by decide +kernel) (Nat.ble_eq_true_of_le (by omega)) (HS (by omega) h9 Ch9 t n (pA t n s) Bh9 f8 Vh9.wk) ?_
            rintro v13 h14 ⟨Ch14, Qh14, f11, f12⟩
            have Xh14 : zXR msxK (0) (0) h h14 := Xh9.tr (c2 := 0) (s2 := 0) Qh14 (by decide +kernel) (by decide) (by decide)
            have Bh14 : rB t n h14 := Bh9.fr Qh14 (by decide +kernel)
            have S115 := f12
            have Vh14 : rV n ((sub t n) (pA t n s)).2 := (Vh9).fn (hs t n)
            refine zwif_eq (q := 141) (nx := 121) (by decide +kernel) (fun c15 => ?_) (fun c15 => ?_)
            · refine zwW_p [(0, 0, 0)] (q := 142) (ls' := [(2, 9), (0, a)]) (st' := [(0, 0)]) (by decide +kernel) rfl ?_
              refine zwW_ret (nx := 143) (a := 1) (b := 0) (by decide +kernel) rfl (Or.inr (Or.inl ⟨rfl, by omega⟩)) ?_
              refine ⟨Ch14, Xh14.le (by decide) (by decide), by omega, ?_⟩
              show rR t n h14 0 (pFac t n o (sub t n) s)
              first
              | (rw [pFac_num (by omega) (by omega), ← rfl]; exact rR_t S115.1)
              | (rw [pFac_wd (by omega) ⟨by omega, by omega⟩, ← rfl]; exact rR_t S115.1)
              | (rw [pFac_par (ho.resolve_right (fun z => by omega)).2 (by omega) (S115.b1 (by omega)) (by omega)]; exact rR_t S115.1)
              | (rw [pFac_pn (ho.resolve_right (fun z => by omega)).2 (by omega) (S115.b1 (by omega)) (by omega)]; exact rR_f S115.1)
              | (rw [pFac_pf (ho.resolve_right (fun z => by omega)).2 (by omega) (S115.b0 (by omega))]; exact S115.ze (by omega))
              | (rw [pFac_no (fun z => by omega) (fun z => by omega) (fun z => absurd z.1 (fun z1 => by have y := ho.resolve_left (fun y => by omega); rw [z1] at y; cases y.2))]; exact rR_f S115.1)
              | (exfalso; omega)
            · refine zwW_p [(1, 0, 2)] (q := 122) (ls' := [(2, 9), (0, a)]) (st' := [(2, 9)]) (by decide +kernel) rfl ?_
              refine zwW_gs Ch14.1 (kd := 7) (bn := 4) (n := 9) (t := 0) (lo := -2147483648) (hi := 2147483647) (nx := 125) (by decide +kernel) ?_
              intro v16 ev16 lv16 uv16
              have kv16 : v16 = pK t n (sub t n (pA t n s)).2.1 := ev16.trans (S115.1).kd
              refine zwW_p [(0, 41, 0)] (q := 127) (ls' := [(2, 9), (0, a)]) (st' := [(0, 41), (0, v16)]) (by decide +kernel) rfl ?_
              refine zwic_ne (q := 141) (nx := 130) (by decide +kernel) (fun c17 => ?_) (fun c17 => ?_)
              · refine zwW_p [(0, 0, 0)] (q := 142) (ls' := [(2, 9), (0, a)]) (st' := [(0, 0)]) (by decide +kernel) rfl ?_
                refine zwW_ret (nx := 143) (a := 1) (b := 0) (by decide +kernel) rfl (Or.inr (Or.inl ⟨rfl, by omega⟩)) ?_
                refine ⟨Ch14, Xh14.le (by decide) (by decide), by omega, ?_⟩
                show rR t n h14 0 (pFac t n o (sub t n) s)
                first
                | (rw [pFac_num (by omega) (by omega), ← rfl]; exact rR_t S115.1)
                | (rw [pFac_wd (by omega) ⟨by omega, by omega⟩, ← rfl]; exact rR_t S115.1)
                | (rw [pFac_par (ho.resolve_right (fun z => by omega)).2 (by omega) (S115.b1 (by omega)) (by omega)]; exact rR_t S115.1)
                | (rw [pFac_pn (ho.resolve_right (fun z => by omega)).2 (by omega) (S115.b1 (by omega)) (by omega)]; exact rR_f S115.1)
                | (rw [pFac_pf (ho.resolve_right (fun z => by omega)).2 (by omega) (S115.b0 (by omega))]; exact S115.ze (by omega))
                | (rw [pFac_no (fun z => by omega) (fun z => by omega) (fun z => absurd z.1 (fun z1 => by have y := ho.resolve_left (fun y => by omega); rw [z1] at y; cases y.2))]; exact rR_f S115.1)
                | (exfalso; omega)
              · refine zwW_p [(1, 0, 2)] (q := 131) (ls' := [(2, 9), (0, a)]) (st' := [(2, 9)]) (by decide +kernel) rfl ?_
                refine zwW_cm Ch14.1 (op := 60) (k' := 198) (n := 0) (kd := 7) (m := 9) (nx := 134) (r := 9) (tl := []) (st' := []) (by decide +kernel) rfl (by decide +kernel) (Nat.ble_eq_true_of_le (by omega)) (x198_q h14 Ch14 t n (sub t n (pA t n s)).2 Bh14 S115.1 (Vh14.wk).2) ?_
                rintro x h19 ⟨Ch19, Qh19, rfl, f18⟩
                have Xh19 : zXR msxK (0) (0) h h19 := Xh14.tr (c2 := 0) (s2 := 0) Qh19 (by decide +kernel) (by decide) (by decide)
                have th19_9_6 : fld h19 9 6 = fld h14 9 6 := Qh19.f (a1 := 9) (a2 := 9) (j1 := 6) (j2 := 7) (by decide +kernel) ⟨by decide, by decide⟩ ⟨by decide, by decide⟩ ⟨by decide, by decide⟩
                have Bh19 : rB t n h19 := Bh14.fr Qh19 (by decide +kernel)
                have Vh19 : rV n (pA t n ((sub t n (pA t n s)).2)) := (Vh14.wk).a (by omega)
                refine zwif_eq (q := 141) (nx := 137) (by decide +kernel) (fun c20 => ?_) (fun c20 => ?_)
                · exfalso; omega
                · refine zwW_p [(0, 1, 0), (24, 142, 0)] (q := 142) (ls' := [(2, 9), (0, a)]) (st' := [(0, 1)]) (by decide +kernel) rfl ?_
                  refine zwW_ret (nx := 143) (a := 1) (b := 0) (by decide +kernel) rfl (Or.inr (Or.inl ⟨rfl, by omega⟩)) ?_
                  refine ⟨Ch19, Xh19.le (by decide) (by decide), by omega, ?_⟩
                  show rR t n h19 1 (pFac t n o (sub t n) s)
                  first
                  | (rw [pFac_num (by omega) (by omega), ← rfl]; exact rR_t f18)
                  | (rw [pFac_wd (by omega) ⟨by omega, by omega⟩, ← rfl]; exact rR_t f18)
                  | (rw [pFac_par (ho.resolve_right (fun z => by omega)).2 (by omega) (S115.b1 (by omega)) (by omega)]; exact rR_t f18)
                  | (rw [pFac_pn (ho.resolve_right (fun z => by omega)).2 (by omega) (S115.b1 (by omega)) (by omega)]; exact rR_f f18)
                  | (rw [pFac_pf (ho.resolve_right (fun z => by omega)).2 (by omega) (S115.b0 (by omega))]; exact S115.ze (by omega))
                  | (rw [pFac_no (fun z => by omega) (fun z => by omega) (fun z => absurd z.1 (fun z1 => by have y := ho.resolve_left (fun y => by omega); rw [z1] at y; cases y.2))]; exact rR_f f18)
                  | (exfalso; omega)
    · refine zwW_p [(1, 0, 2)] (q := 51) (ls' := [(2, 9), (0, a)]) (st' := [(2, 9)]) (by decide +kernel) rfl ?_
      refine zwW_gs C.1 (kd := 7) (bn := 5) (n := 9) (t := 0) (lo := -2147483648) (hi := 2147483647) (nx := 54) (by decide +kernel) ?_
      intro v21 ev21 lv21 uv21
      have kv21 : pK t n s.1 = 1 ∨ pK t n s.1 = 2 → v21 = pV t n s.1 := fun z => ev21.trans ((Q0).vl z)
      have VA := kv21
      refine zwW_p [(0, 0, 0), (0, 12, 0)] (q := 57) (ls' := [(2, 9), (0, a)]) (st' := [(0, 12), (0, 0), (0, v21)]) (by decide +kernel) rfl ?_
      refine zwW_cs (k' := 98) (n := 3) (nx := 60) (as := [(0, v21), (0, 0), (0, 12)]) (st' := []) (by decide +kernel) rfl (x98 h C v21 0 12 (by omega) (by omega) (by omega)) (Nat.ble_eq_true_of_le (by omega)) ?_
      rintro x _ ⟨rfl, ⟨rfl, c22⟩ | ⟨rfl, c22⟩⟩
      · refine zwif_ne (q := 89) (nx := 63) (by decide +kernel) (fun c23 => ?_) (fun c23 => ?_)
        · refine zwW_p [(1, 1, 0), (0, 8, 0)] (q := 92) (ls' := [(2, 9), (0, a)]) (st' := [(0, 8), (0, a)]) (by decide +kernel) rfl ?_
          refine zwic_ge (q := 141) (nx := 95) (by decide +kernel) (fun c24 => ?_) (fun c24 => ?_)
          · refine zwW_p [(0, 0, 0)] (q := 142) (ls' := [(2, 9), (0, a)]) (st' := [(0, 0)]) (by decide +kernel) rfl ?_
            refine zwW_ret (nx := 143) (a := 1) (b := 0) (by decide +kernel) rfl (Or.inr (Or.inl ⟨rfl, by omega⟩)) ?_
            refine ⟨C, X.le (by decide) (by decide), by omega, ?_⟩
            show rR t n h 0 (pFac t n o (sub t n) s)
            first
            | (rw [pFac_num (by omega) (by omega), ← rfl]; exact rR_t Q0)
            | (rw [pFac_wd (by omega) ⟨by omega, by omega⟩, ← rfl]; exact rR_t Q0)
            | (rw [pFac_par (ho.resolve_right (fun z => by omega)).2 (by omega) (S115.b1 (by omega)) (by omega)]; exact rR_t Q0)
            | (rw [pFac_pn (ho.resolve_right (fun z => by omega)).2 (by omega) (S115.b1 (by omega)) (by omega)]; exact rR_f Q0)
            | (rw [pFac_pf (ho.resolve_right (fun z => by omega)).2 (by omega) (S115.b0 (by omega))]; exact S115.ze (by omega))
            | (rw [pFac_no (fun z => by omega) (fun z => by omega) (fun z => absurd z.1 (fun z1 => by have y := ho.resolve_left (fun y => by omega); rw [z1] at y; cases y.2))]; exact rR_f Q0)
            | (exfalso; omega)
          · refine zwW_p [(1, 0, 2)] (q := 96) (ls' := [(2, 9), (0, a)]) (st' := [(2, 9)]) (by decide +kernel) rfl ?_
            refine zwW_gs C.1 (kd := 7) (bn := 4) (n := 9) (t := 0) (lo := -2147483648) (hi := 2147483647) (nx := 99) (by decide +kernel) ?_
            intro v25 ev25 lv25 uv25
            have kv25 : v25 = pK t n s.1 := ev25.trans (Q0).kd
            refine zwW_p [(0, 40, 0)] (q := 101) (ls' := [(2, 9), (0, a)]) (st' := [(0, 40), (0, v25)]) (by decide +kernel) rfl ?_
            refine zwic_ne (q := 141) (nx := 104) (by decide +kernel) (fun c26 => ?_) (fun c26 => ?_)
            · refine zwW_p [(0, 0, 0)] (q := 142) (ls' := [(2, 9), (0, a)]) (st' := [(0, 0)]) (by decide +kernel) rfl ?_
              refine zwW_ret (nx := 143) (a := 1) (b := 0) (by decide +kernel) rfl (Or.inr (Or.inl ⟨rfl, by omega⟩)) ?_
              refine ⟨C, X.le (by decide) (by decide), by omega, ?_⟩
              show rR t n h 0 (pFac t n o (sub t n) s)
              first
              | (rw [pFac_num (by omega) (by omega), ← rfl]; exact rR_t Q0)
              | (rw [pFac_wd (by omega) ⟨by omega, by omega⟩, ← rfl]; exact rR_t Q0)
              | (rw [pFac_par (ho.resolve_right (fun z => by omega)).2 (by omega) (S115.b1 (by omega)) (by omega)]; exact rR_t Q0)
              | (rw [pFac_pn (ho.resolve_right (fun z => by omega)).2 (by omega) (S115.b1 (by omega)) (by omega)]; exact rR_f Q0)
              | (rw [pFac_pf (ho.resolve_right (fun z => by omega)).2 (by omega) (S115.b0 (by omega))]; exact S115.ze (by omega))
              | (rw [pFac_no (fun z => by omega) (fun z => by omega) (fun z => absurd z.1 (fun z1 => by have y := ho.resolve_left (fun y => by omega); rw [z1] at y; cases y.2))]; exact rR_f Q0)
              | (exfalso; omega)
            · refine zwW_p [(1, 0, 2)] (q := 105) (ls' := [(2, 9), (0, a)]) (st' := [(2, 9)]) (by decide +kernel) rfl ?_
              refine zwW_cm C.1 (op := 60) (k' := 198) (n := 0) (kd := 7) (m := 9) (nx := 108) (r := 9) (tl := []) (st' := []) (by decide +kernel) rfl (by decide +kernel) (Nat.ble_eq_true_of_le (by omega)) (x198_q h C t n s B Q0 (W0).2) ?_
              rintro x h28 ⟨Ch28, Qh28, rfl, f27⟩
              have Xh28 : zXR msxK (0) (0) h h28 := X.tr (c2 := 0) (s2 := 0) Qh28 (by decide +kernel) (by decide) (by decide)
              have th28_9_6 : fld h28 9 6 = fld h 9 6 := Qh28.f (a1 := 9) (a2 := 9) (j1 := 6) (j2 := 7) (by decide +kernel) ⟨by decide, by decide⟩ ⟨by decide, by decide⟩ ⟨by decide, by decide⟩
              have Bh28 : rB t n h28 := B.fr Qh28 (by decide +kernel)
              have Vh28 : rV n (pA t n s) := (W0).a (by omega)
              refine zwif_eq (q := 141) (nx := 111) (by decide +kernel) (fun c29 => ?_) (fun c29 => ?_)
              · exfalso; omega
              · refine zwW_p [(1, 0, 2), (1, 1, 0), (0, 1, 0)] (q := 114) (ls' := [(2, 9), (0, a)]) (st' := [(0, 1), (0, a), (2, 9)]) (by decide +kernel) rfl ?_
                refine zwW_add (nx := 115) (by decide +kernel) ⟨by omega, by omega⟩ ?_
                refine zwW_cm Ch28.1 (op := 60) (k' := 241) (n := 1) (kd := 7) (m := 9) (nx := 118) (r := 9) (tl := [(0, (a + 1))]) (st' := []) (by decide +kernel) rfl (by decide +kernel) (Nat.ble_eq_true_of_le (by omega)) (HS (by omega) h28 Ch28 t n (pA t n s) Bh28 f27 Vh28.wk) ?_
                rintro v32 h33 ⟨Ch33, Qh33, f30, f31⟩
                have Xh33 : zXR msxK (0) (0) h h33 := Xh28.tr (c2 := 0) (s2 := 0) Qh33 (by decide +kernel) (by decide) (by decide)
                have Bh33 : rB t n h33 := Bh28.fr Qh33 (by decide +kernel)
                have S115 := f31
                have Vh33 : rV n ((sub t n) (pA t n s)).2 := (Vh28).fn (hs t n)
                refine zwif_eq (q := 141) (nx := 121) (by decide +kernel) (fun c34 => ?_) (fun c34 => ?_)
                · refine zwW_p [(0, 0, 0)] (q := 142) (ls' := [(2, 9), (0, a)]) (st' := [(0, 0)]) (by decide +kernel) rfl ?_
                  refine zwW_ret (nx := 143) (a := 1) (b := 0) (by decide +kernel) rfl (Or.inr (Or.inl ⟨rfl, by omega⟩)) ?_
                  refine ⟨Ch33, Xh33.le (by decide) (by decide), by omega, ?_⟩
                  show rR t n h33 0 (pFac t n o (sub t n) s)
                  first
                  | (rw [pFac_num (by omega) (by omega), ← rfl]; exact rR_t S115.1)
                  | (rw [pFac_wd (by omega) ⟨by omega, by omega⟩, ← rfl]; exact rR_t S115.1)
                  | (rw [pFac_par (ho.resolve_right (fun z => by omega)).2 (by omega) (S115.b1 (by omega)) (by omega)]; exact rR_t S115.1)
                  | (rw [pFac_pn (ho.resolve_right (fun z => by omega)).2 (by omega) (S115.b1 (by omega)) (by omega)]; exact rR_f S115.1)
                  | (rw [pFac_pf (ho.resolve_right (fun z => by omega)).2 (by omega) (S115.b0 (by omega))]; exact S115.ze (by omega))
                  | (rw [pFac_no (fun z => by omega) (fun z => by omega) (fun z => absurd z.1 (fun z1 => by have y := ho.resolve_left (fun y => by omega); rw [z1] at y; cases y.2))]; exact rR_f S115.1)
                  | (exfalso; omega)
                · refine zwW_p [(1, 0, 2)] (q := 122) (ls' := [(2, 9), (0, a)]) (st' := [(2, 9)]) (by decide +kernel) rfl ?_
                  refine zwW_gs Ch33.1 (kd := 7) (bn := 4) (n := 9) (t := 0) (lo := -2147483648) (hi := 2147483647) (nx := 125) (by decide +kernel) ?_
                  intro v35 ev35 lv35 uv35
                  have kv35 : v35 = pK t n (sub t n (pA t n s)).2.1 := ev35.trans (S115.1).kd
                  refine zwW_p [(0, 41, 0)] (q := 127) (ls' := [(2, 9), (0, a)]) (st' := [(0, 41), (0, v35)]) (by decide +kernel) rfl ?_
                  refine zwic_ne (q := 141) (nx := 130) (by decide +kernel) (fun c36 => ?_) (fun c36 => ?_)
                  · refine zwW_p [(0, 0, 0)] (q := 142) (ls' := [(2, 9), (0, a)]) (st' := [(0, 0)]) (by decide +kernel) rfl ?_
                    refine zwW_ret (nx := 143) (a := 1) (b := 0) (by decide +kernel) rfl (Or.inr (Or.inl ⟨rfl, by omega⟩)) ?_
                    refine ⟨Ch33, Xh33.le (by decide) (by decide), by omega, ?_⟩
                    show rR t n h33 0 (pFac t n o (sub t n) s)
                    first
                    | (rw [pFac_num (by omega) (by omega), ← rfl]; exact rR_t S115.1)
                    | (rw [pFac_wd (by omega) ⟨by omega, by omega⟩, ← rfl]; exact rR_t S115.1)
                    | (rw [pFac_par (ho.resolve_right (fun z => by omega)).2 (by omega) (S115.b1 (by omega)) (by omega)]; exact rR_t S115.1)
                    | (rw [pFac_pn (ho.resolve_right (fun z => by omega)).2 (by omega) (S115.b1 (by omega)) (by omega)]; exact rR_f S115.1)
                    | (rw [pFac_pf (ho.resolve_right (fun z => by omega)).2 (by omega) (S115.b0 (by omega))]; exact S115.ze (by omega))
                    | (rw [pFac_no (fun z => by omega) (fun z => by omega) (fun z => absurd z.1 (fun z1 => by have y := ho.resolve_left (fun y => by omega); rw [z1] at y; cases y.2))]; exact rR_f S115.1)
                    | (exfalso; omega)
                  · refine zwW_p [(1, 0, 2)] (q := 131) (ls' := [(2, 9), (0, a)]) (st' := [(2, 9)]) (by decide +kernel) rfl ?_
                    refine zwW_cm Ch33.1 (op := 60) (k' := 198) (n := 0) (kd := 7) (m := 9) (nx := 134) (r := 9) (tl := []) (st' := []) (by decide +kernel) rfl (by decide +kernel) (Nat.ble_eq_true_of_le (by omega)) (x198_q h33 Ch33 t n (sub t n (pA t n s)).2 Bh33 S115.1 (Vh33.wk).2) ?_
                    rintro x h38 ⟨Ch38, Qh38, rfl, f37⟩
                    have Xh38 : zXR msxK (0) (0) h h38 := Xh33.tr (c2 := 0) (s2 := 0) Qh38 (by decide +kernel) (by decide) (by decide)
                    have th38_9_6 : fld h38 9 6 = fld h33 9 6 := Qh38.f (a1 := 9) (a2 := 9) (j1 := 6) (j2 := 7) (by decide +kernel) ⟨by decide, by decide⟩ ⟨by decide, by decide⟩ ⟨by decide, by decide⟩
                    have Bh38 : rB t n h38 := Bh33.fr Qh38 (by decide +kernel)
                    have Vh38 : rV n (pA t n ((sub t n (pA t n s)).2)) := (Vh33.wk).a (by omega)
                    refine zwif_eq (q := 141) (nx := 137) (by decide +kernel) (fun c39 => ?_) (fun c39 => ?_)
                    · exfalso; omega
                    · refine zwW_p [(0, 1, 0), (24, 142, 0)] (q := 142) (ls' := [(2, 9), (0, a)]) (st' := [(0, 1)]) (by decide +kernel) rfl ?_
                      refine zwW_ret (nx := 143) (a := 1) (b := 0) (by decide +kernel) rfl (Or.inr (Or.inl ⟨rfl, by omega⟩)) ?_
                      refine ⟨Ch38, Xh38.le (by decide) (by decide), by omega, ?_⟩
                      show rR t n h38 1 (pFac t n o (sub t n) s)
                      first
                      | (rw [pFac_num (by omega) (by omega), ← rfl]; exact rR_t f37)
                      | (rw [pFac_wd (by omega) ⟨by omega, by omega⟩, ← rfl]; exact rR_t f37)
                      | (rw [pFac_par (ho.resolve_right (fun z => by omega)).2 (by omega) (S115.b1 (by omega)) (by omega)]; exact rR_t f37)
                      | (rw [pFac_pn (ho.resolve_right (fun z => by omega)).2 (by omega) (S115.b1 (by omega)) (by omega)]; exact rR_f f37)
                      | (rw [pFac_pf (ho.resolve_right (fun z => by omega)).2 (by omega) (S115.b0 (by omega))]; exact S115.ze (by omega))
                      | (rw [pFac_no (fun z => by omega) (fun z => by omega) (fun z => absurd z.1 (fun z1 => by have y := ho.resolve_left (fun y => by omega); rw [z1] at y; cases y.2))]; exact rR_f f37)
                      | (exfalso; omega)
        · exfalso; omega
      · refine zwif_ne (q := 89) (nx := 63) (by decide +kernel) (fun c40 => ?_) (fun c40 => ?_)
        · exfalso; omega
        · refine zwW_p [(1, 0, 2), (0, -1, 0), (1, 0, 2)] (q := 66) (ls' := [(2, 9), (0, a)]) (st' := [(2, 9), (0, -1), (2, 9)]) (by decide +kernel) rfl ?_
          refine zwW_gs C.1 (kd := 7) (bn := 5) (n := 9) (t := 0) (lo := -2147483648) (hi := 2147483647) (nx := 69) (by decide +kernel) ?_
          intro v41 ev41 lv41 uv41
          have kv41 : pK t n s.1 = 1 ∨ pK t n s.1 = 2 → v41 = pV t n s.1 := fun z => ev41.trans ((Q0).vl z)
          have VV := kv41 (by omega)
          refine zwW_sub (nx := 70) (by decide +kernel) ⟨by omega, by omega⟩ ?_
          refine zwW_cm C.1 (op := 60) (k' := 243) (n := 1) (kd := 7) (m := 9) (nx := 73) (r := 9) (tl := [(0, (-1 - v41))]) (st' := []) (by decide +kernel) rfl (by decide +kernel) (Nat.ble_eq_true_of_le (by omega)) (x243_q h C (-1 - v41) t n s (by omega) Q0 (W0.lt B Q0 (by omega))) ?_
          rintro x h43 ⟨Ch43, Qh43, rfl, f42⟩
          have Xh43 : zXR msxK (0) (0) h h43 := X.tr (c2 := 0) (s2 := 0) Qh43 (by decide +kernel) (by decide) (by decide)
          have Bh43 : rB t n h43 := B.fr Qh43 (by decide +kernel)
          refine zwif_eq (q := 87) (nx := 76) (by decide +kernel) (fun c44 => ?_) (fun c44 => ?_)
          · exfalso; omega
          · refine zwW_p [(1, 0, 2)] (q := 77) (ls' := [(2, 9), (0, a)]) (st' := [(2, 9)]) (by decide +kernel) rfl ?_
            refine zwW_cm Ch43.1 (op := 60) (k' := 198) (n := 0) (kd := 7) (m := 9) (nx := 80) (r := 9) (tl := []) (st' := []) (by decide +kernel) rfl (by decide +kernel) (Nat.ble_eq_true_of_le (by omega)) (x198_q h43 Ch43 t n (pW (-1 - v41) s) Bh43 f42 (W0).2) ?_
            rintro x h46 ⟨Ch46, Qh46, rfl, f45⟩
            have Xh46 : zXR msxK (0) (0) h h46 := Xh43.tr (c2 := 0) (s2 := 0) Qh46 (by decide +kernel) (by decide) (by decide)
            have th46_9_6 : fld h46 9 6 = fld h43 9 6 := Qh46.f (a1 := 9) (a2 := 9) (j1 := 6) (j2 := 7) (by decide +kernel) ⟨by decide, by decide⟩ ⟨by decide, by decide⟩ ⟨by decide, by decide⟩
            have Bh46 : rB t n h46 := Bh43.fr Qh46 (by decide +kernel)
            refine zwif_eq (q := 87) (nx := 83) (by decide +kernel) (fun c47 => ?_) (fun c47 => ?_)
            · exfalso; omega
            · refine zwW_p [(0, 1, 0), (24, 88, 0)] (q := 88) (ls' := [(2, 9), (0, a)]) (st' := [(0, 1)]) (by decide +kernel) rfl ?_
              refine zwW_ret (nx := 89) (a := 1) (b := 0) (by decide +kernel) rfl (Or.inr (Or.inl ⟨rfl, by omega⟩)) ?_
              refine ⟨Ch46, Xh46.le (by decide) (by decide), by omega, ?_⟩
              show rR t n h46 1 (pFac t n o (sub t n) s)
              first
              | (rw [pFac_num (by omega) (by omega), ← VV]; exact rR_t f45)
              | (rw [pFac_wd (by omega) ⟨by omega, by omega⟩, ← VV]; exact rR_t f45)
              | (rw [pFac_par (ho.resolve_right (fun z => by omega)).2 (by omega) (S115.b1 (by omega)) (by omega)]; exact rR_t f45)
              | (rw [pFac_pn (ho.resolve_right (fun z => by omega)).2 (by omega) (S115.b1 (by omega)) (by omega)]; exact rR_f f45)
              | (rw [pFac_pf (ho.resolve_right (fun z => by omega)).2 (by omega) (S115.b0 (by omega))]; exact S115.ze (by omega))
              | (rw [pFac_no (fun z => by omega) (fun z => by omega) (fun z => absurd z.1 (fun z1 => by have y := ho.resolve_left (fun y => by omega); rw [z1] at y; cases y.2))]; exact rR_f f45)
              | (exfalso; omega)
  · refine zwW_p [(1, 0, 2)] (q := 9) (ls' := [(2, 9), (0, a)]) (st' := [(2, 9)]) (by decide +kernel) rfl ?_
    refine zwW_gs C.1 (kd := 7) (bn := 5) (n := 9) (t := 0) (lo := -2147483648) (hi := 2147483647) (nx := 12) (by decide +kernel) ?_
    intro v48 ev48 lv48 uv48
    have kv48 : pK t n s.1 = 1 ∨ pK t n s.1 = 2 → v48 = pV t n s.1 := fun z => ev48.trans ((Q0).vl z)
    have VA := kv48
    refine zwW_p [(0, 9999, 0)] (q := 15) (ls' := [(2, 9), (0, a)]) (st' := [(0, 9999), (0, v48)]) (by decide +kernel) rfl ?_
    refine zwic_gt (q := 42) (nx := 18) (by decide +kernel) (fun c49 => ?_) (fun c49 => ?_)
    · refine zwW_p [(1, 0, 2)] (q := 43) (ls' := [(2, 9), (0, a)]) (st' := [(2, 9)]) (by decide +kernel) rfl ?_
      refine zwW_gs C.1 (kd := 7) (bn := 4) (n := 9) (t := 0) (lo := -2147483648) (hi := 2147483647) (nx := 46) (by decide +kernel) ?_
      intro v50 ev50 lv50 uv50
      have kv50 : v50 = pK t n s.1 := ev50.trans (Q0).kd
      refine zwW_p [(0, 1, 0)] (q := 47) (ls' := [(2, 9), (0, a)]) (st' := [(0, 1), (0, v50)]) (by decide +kernel) rfl ?_
      refine zwic_ne (q := 89) (nx := 50) (by decide +kernel) (fun c51 => ?_) (fun c51 => ?_)
      · refine zwW_p [(1, 1, 0), (0, 8, 0)] (q := 92) (ls' := [(2, 9), (0, a)]) (st' := [(0, 8), (0, a)]) (by decide +kernel) rfl ?_
        refine zwic_ge (q := 141) (nx := 95) (by decide +kernel) (fun c52 => ?_) (fun c52 => ?_)
        · refine zwW_p [(0, 0, 0)] (q := 142) (ls' := [(2, 9), (0, a)]) (st' := [(0, 0)]) (by decide +kernel) rfl ?_
          refine zwW_ret (nx := 143) (a := 1) (b := 0) (by decide +kernel) rfl (Or.inr (Or.inl ⟨rfl, by omega⟩)) ?_
          refine ⟨C, X.le (by decide) (by decide), by omega, ?_⟩
          show rR t n h 0 (pFac t n o (sub t n) s)
          first
          | (rw [pFac_num (by omega) (by omega), ← rfl]; exact rR_t Q0)
          | (rw [pFac_wd (by omega) ⟨by omega, by omega⟩, ← rfl]; exact rR_t Q0)
          | (rw [pFac_par (ho.resolve_right (fun z => by omega)).2 (by omega) (S115.b1 (by omega)) (by omega)]; exact rR_t Q0)
          | (rw [pFac_pn (ho.resolve_right (fun z => by omega)).2 (by omega) (S115.b1 (by omega)) (by omega)]; exact rR_f Q0)
          | (rw [pFac_pf (ho.resolve_right (fun z => by omega)).2 (by omega) (S115.b0 (by omega))]; exact S115.ze (by omega))
          | (rw [pFac_no (fun z => by omega) (fun z => by omega) (fun z => absurd z.1 (fun z1 => by have y := ho.resolve_left (fun y => by omega); rw [z1] at y; cases y.2))]; exact rR_f Q0)
          | (exfalso; omega)
        · refine zwW_p [(1, 0, 2)] (q := 96) (ls' := [(2, 9), (0, a)]) (st' := [(2, 9)]) (by decide +kernel) rfl ?_
          refine zwW_gs C.1 (kd := 7) (bn := 4) (n := 9) (t := 0) (lo := -2147483648) (hi := 2147483647) (nx := 99) (by decide +kernel) ?_
          intro v53 ev53 lv53 uv53
          have kv53 : v53 = pK t n s.1 := ev53.trans (Q0).kd
          refine zwW_p [(0, 40, 0)] (q := 101) (ls' := [(2, 9), (0, a)]) (st' := [(0, 40), (0, v53)]) (by decide +kernel) rfl ?_
          refine zwic_ne (q := 141) (nx := 104) (by decide +kernel) (fun c54 => ?_) (fun c54 => ?_)
          · refine zwW_p [(0, 0, 0)] (q := 142) (ls' := [(2, 9), (0, a)]) (st' := [(0, 0)]) (by decide +kernel) rfl ?_
            refine zwW_ret (nx := 143) (a := 1) (b := 0) (by decide +kernel) rfl (Or.inr (Or.inl ⟨rfl, by omega⟩)) ?_
            refine ⟨C, X.le (by decide) (by decide), by omega, ?_⟩
            show rR t n h 0 (pFac t n o (sub t n) s)
            first
            | (rw [pFac_num (by omega) (by omega), ← rfl]; exact rR_t Q0)
            | (rw [pFac_wd (by omega) ⟨by omega, by omega⟩, ← rfl]; exact rR_t Q0)
            | (rw [pFac_par (ho.resolve_right (fun z => by omega)).2 (by omega) (S115.b1 (by omega)) (by omega)]; exact rR_t Q0)
            | (rw [pFac_pn (ho.resolve_right (fun z => by omega)).2 (by omega) (S115.b1 (by omega)) (by omega)]; exact rR_f Q0)
            | (rw [pFac_pf (ho.resolve_right (fun z => by omega)).2 (by omega) (S115.b0 (by omega))]; exact S115.ze (by omega))
            | (rw [pFac_no (fun z => by omega) (fun z => by omega) (fun z => absurd z.1 (fun z1 => by have y := ho.resolve_left (fun y => by omega); rw [z1] at y; cases y.2))]; exact rR_f Q0)
            | (exfalso; omega)
          · refine zwW_p [(1, 0, 2)] (q := 105) (ls' := [(2, 9), (0, a)]) (st' := [(2, 9)]) (by decide +kernel) rfl ?_
            refine zwW_cm C.1 (op := 60) (k' := 198) (n := 0) (kd := 7) (m := 9) (nx := 108) (r := 9) (tl := []) (st' := []) (by decide +kernel) rfl (by decide +kernel) (Nat.ble_eq_true_of_le (by omega)) (x198_q h C t n s B Q0 (W0).2) ?_
            rintro x h56 ⟨Ch56, Qh56, rfl, f55⟩
            have Xh56 : zXR msxK (0) (0) h h56 := X.tr (c2 := 0) (s2 := 0) Qh56 (by decide +kernel) (by decide) (by decide)
            have th56_9_6 : fld h56 9 6 = fld h 9 6 := Qh56.f (a1 := 9) (a2 := 9) (j1 := 6) (j2 := 7) (by decide +kernel) ⟨by decide, by decide⟩ ⟨by decide, by decide⟩ ⟨by decide, by decide⟩
            have Bh56 : rB t n h56 := B.fr Qh56 (by decide +kernel)
            have Vh56 : rV n (pA t n s) := (W0).a (by omega)
            refine zwif_eq (q := 141) (nx := 111) (by decide +kernel) (fun c57 => ?_) (fun c57 => ?_)
            · exfalso; omega
            · refine zwW_p [(1, 0, 2), (1, 1, 0), (0, 1, 0)] (q := 114) (ls' := [(2, 9), (0, a)]) (st' := [(0, 1), (0, a), (2, 9)]) (by decide +kernel) rfl ?_
              refine zwW_add (nx := 115) (by decide +kernel) ⟨by omega, by omega⟩ ?_
              refine zwW_cm Ch56.1 (op := 60) (k' := 241) (n := 1) (kd := 7) (m := 9) (nx := 118) (r := 9) (tl := [(0, (a + 1))]) (st' := []) (by decide +kernel) rfl (by decide +kernel) (Nat.ble_eq_true_of_le (by omega)) (HS (by omega) h56 Ch56 t n (pA t n s) Bh56 f55 Vh56.wk) ?_
              rintro v60 h61 ⟨Ch61, Qh61, f58, f59⟩
              have Xh61 : zXR msxK (0) (0) h h61 := Xh56.tr (c2 := 0) (s2 := 0) Qh61 (by decide +kernel) (by decide) (by decide)
              have Bh61 : rB t n h61 := Bh56.fr Qh61 (by decide +kernel)
              have S115 := f59
              have Vh61 : rV n ((sub t n) (pA t n s)).2 := (Vh56).fn (hs t n)
              refine zwif_eq (q := 141) (nx := 121) (by decide +kernel) (fun c62 => ?_) (fun c62 => ?_)
              · refine zwW_p [(0, 0, 0)] (q := 142) (ls' := [(2, 9), (0, a)]) (st' := [(0, 0)]) (by decide +kernel) rfl ?_
                refine zwW_ret (nx := 143) (a := 1) (b := 0) (by decide +kernel) rfl (Or.inr (Or.inl ⟨rfl, by omega⟩)) ?_
                refine ⟨Ch61, Xh61.le (by decide) (by decide), by omega, ?_⟩
                show rR t n h61 0 (pFac t n o (sub t n) s)
                first
                | (rw [pFac_num (by omega) (by omega), ← rfl]; exact rR_t S115.1)
                | (rw [pFac_wd (by omega) ⟨by omega, by omega⟩, ← rfl]; exact rR_t S115.1)
                | (rw [pFac_par (ho.resolve_right (fun z => by omega)).2 (by omega) (S115.b1 (by omega)) (by omega)]; exact rR_t S115.1)
                | (rw [pFac_pn (ho.resolve_right (fun z => by omega)).2 (by omega) (S115.b1 (by omega)) (by omega)]; exact rR_f S115.1)
                | (rw [pFac_pf (ho.resolve_right (fun z => by omega)).2 (by omega) (S115.b0 (by omega))]; exact S115.ze (by omega))
                | (rw [pFac_no (fun z => by omega) (fun z => by omega) (fun z => absurd z.1 (fun z1 => by have y := ho.resolve_left (fun y => by omega); rw [z1] at y; cases y.2))]; exact rR_f S115.1)
                | (exfalso; omega)
              · refine zwW_p [(1, 0, 2)] (q := 122) (ls' := [(2, 9), (0, a)]) (st' := [(2, 9)]) (by decide +kernel) rfl ?_
                refine zwW_gs Ch61.1 (kd := 7) (bn := 4) (n := 9) (t := 0) (lo := -2147483648) (hi := 2147483647) (nx := 125) (by decide +kernel) ?_
                intro v63 ev63 lv63 uv63
                have kv63 : v63 = pK t n (sub t n (pA t n s)).2.1 := ev63.trans (S115.1).kd
                refine zwW_p [(0, 41, 0)] (q := 127) (ls' := [(2, 9), (0, a)]) (st' := [(0, 41), (0, v63)]) (by decide +kernel) rfl ?_
                refine zwic_ne (q := 141) (nx := 130) (by decide +kernel) (fun c64 => ?_) (fun c64 => ?_)
                · refine zwW_p [(0, 0, 0)] (q := 142) (ls' := [(2, 9), (0, a)]) (st' := [(0, 0)]) (by decide +kernel) rfl ?_
                  refine zwW_ret (nx := 143) (a := 1) (b := 0) (by decide +kernel) rfl (Or.inr (Or.inl ⟨rfl, by omega⟩)) ?_
                  refine ⟨Ch61, Xh61.le (by decide) (by decide), by omega, ?_⟩
                  show rR t n h61 0 (pFac t n o (sub t n) s)
                  first
                  | (rw [pFac_num (by omega) (by omega), ← rfl]; exact rR_t S115.1)
                  | (rw [pFac_wd (by omega) ⟨by omega, by omega⟩, ← rfl]; exact rR_t S115.1)
                  | (rw [pFac_par (ho.resolve_right (fun z => by omega)).2 (by omega) (S115.b1 (by omega)) (by omega)]; exact rR_t S115.1)
                  | (rw [pFac_pn (ho.resolve_right (fun z => by omega)).2 (by omega) (S115.b1 (by omega)) (by omega)]; exact rR_f S115.1)
                  | (rw [pFac_pf (ho.resolve_right (fun z => by omega)).2 (by omega) (S115.b0 (by omega))]; exact S115.ze (by omega))
                  | (rw [pFac_no (fun z => by omega) (fun z => by omega) (fun z => absurd z.1 (fun z1 => by have y := ho.resolve_left (fun y => by omega); rw [z1] at y; cases y.2))]; exact rR_f S115.1)
                  | (exfalso; omega)
                · refine zwW_p [(1, 0, 2)] (q := 131) (ls' := [(2, 9), (0, a)]) (st' := [(2, 9)]) (by decide +kernel) rfl ?_
                  refine zwW_cm Ch61.1 (op := 60) (k' := 198) (n := 0) (kd := 7) (m := 9) (nx := 134) (r := 9) (tl := []) (st' := []) (by decide +kernel) rfl (by decide +kernel) (Nat.ble_eq_true_of_le (by omega)) (x198_q h61 Ch61 t n (sub t n (pA t n s)).2 Bh61 S115.1 (Vh61.wk).2) ?_
                  rintro x h66 ⟨Ch66, Qh66, rfl, f65⟩
                  have Xh66 : zXR msxK (0) (0) h h66 := Xh61.tr (c2 := 0) (s2 := 0) Qh66 (by decide +kernel) (by decide) (by decide)
                  have th66_9_6 : fld h66 9 6 = fld h61 9 6 := Qh66.f (a1 := 9) (a2 := 9) (j1 := 6) (j2 := 7) (by decide +kernel) ⟨by decide, by decide⟩ ⟨by decide, by decide⟩ ⟨by decide, by decide⟩
                  have Bh66 : rB t n h66 := Bh61.fr Qh66 (by decide +kernel)
                  have Vh66 : rV n (pA t n ((sub t n (pA t n s)).2)) := (Vh61.wk).a (by omega)
                  refine zwif_eq (q := 141) (nx := 137) (by decide +kernel) (fun c67 => ?_) (fun c67 => ?_)
                  · exfalso; omega
                  · refine zwW_p [(0, 1, 0), (24, 142, 0)] (q := 142) (ls' := [(2, 9), (0, a)]) (st' := [(0, 1)]) (by decide +kernel) rfl ?_
                    refine zwW_ret (nx := 143) (a := 1) (b := 0) (by decide +kernel) rfl (Or.inr (Or.inl ⟨rfl, by omega⟩)) ?_
                    refine ⟨Ch66, Xh66.le (by decide) (by decide), by omega, ?_⟩
                    show rR t n h66 1 (pFac t n o (sub t n) s)
                    first
                    | (rw [pFac_num (by omega) (by omega), ← rfl]; exact rR_t f65)
                    | (rw [pFac_wd (by omega) ⟨by omega, by omega⟩, ← rfl]; exact rR_t f65)
                    | (rw [pFac_par (ho.resolve_right (fun z => by omega)).2 (by omega) (S115.b1 (by omega)) (by omega)]; exact rR_t f65)
                    | (rw [pFac_pn (ho.resolve_right (fun z => by omega)).2 (by omega) (S115.b1 (by omega)) (by omega)]; exact rR_f f65)
                    | (rw [pFac_pf (ho.resolve_right (fun z => by omega)).2 (by omega) (S115.b0 (by omega))]; exact S115.ze (by omega))
                    | (rw [pFac_no (fun z => by omega) (fun z => by omega) (fun z => absurd z.1 (fun z1 => by have y := ho.resolve_left (fun y => by omega); rw [z1] at y; cases y.2))]; exact rR_f f65)
                    | (exfalso; omega)
      · refine zwW_p [(1, 0, 2)] (q := 51) (ls' := [(2, 9), (0, a)]) (st' := [(2, 9)]) (by decide +kernel) rfl ?_
        refine zwW_gs C.1 (kd := 7) (bn := 5) (n := 9) (t := 0) (lo := -2147483648) (hi := 2147483647) (nx := 54) (by decide +kernel) ?_
        intro v68 ev68 lv68 uv68
        have kv68 : pK t n s.1 = 1 ∨ pK t n s.1 = 2 → v68 = pV t n s.1 := fun z => ev68.trans ((Q0).vl z)
        have VA := kv68
        refine zwW_p [(0, 0, 0), (0, 12, 0)] (q := 57) (ls' := [(2, 9), (0, a)]) (st' := [(0, 12), (0, 0), (0, v68)]) (by decide +kernel) rfl ?_
        refine zwW_cs (k' := 98) (n := 3) (nx := 60) (as := [(0, v68), (0, 0), (0, 12)]) (st' := []) (by decide +kernel) rfl (x98 h C v68 0 12 (by omega) (by omega) (by omega)) (Nat.ble_eq_true_of_le (by omega)) ?_
        rintro x _ ⟨rfl, ⟨rfl, c69⟩ | ⟨rfl, c69⟩⟩
        · refine zwif_ne (q := 89) (nx := 63) (by decide +kernel) (fun c70 => ?_) (fun c70 => ?_)
          · refine zwW_p [(1, 1, 0), (0, 8, 0)] (q := 92) (ls' := [(2, 9), (0, a)]) (st' := [(0, 8), (0, a)]) (by decide +kernel) rfl ?_
            refine zwic_ge (q := 141) (nx := 95) (by decide +kernel) (fun c71 => ?_) (fun c71 => ?_)
            · refine zwW_p [(0, 0, 0)] (q := 142) (ls' := [(2, 9), (0, a)]) (st' := [(0, 0)]) (by decide +kernel) rfl ?_
              refine zwW_ret (nx := 143) (a := 1) (b := 0) (by decide +kernel) rfl (Or.inr (Or.inl ⟨rfl, by omega⟩)) ?_
              refine ⟨C, X.le (by decide) (by decide), by omega, ?_⟩
              show rR t n h 0 (pFac t n o (sub t n) s)
              first
              | (rw [pFac_num (by omega) (by omega), ← rfl]; exact rR_t Q0)
              | (rw [pFac_wd (by omega) ⟨by omega, by omega⟩, ← rfl]; exact rR_t Q0)
              | (rw [pFac_par (ho.resolve_right (fun z => by omega)).2 (by omega) (S115.b1 (by omega)) (by omega)]; exact rR_t Q0)
              | (rw [pFac_pn (ho.resolve_right (fun z => by omega)).2 (by omega) (S115.b1 (by omega)) (by omega)]; exact rR_f Q0)
              | (rw [pFac_pf (ho.resolve_right (fun z => by omega)).2 (by omega) (S115.b0 (by omega))]; exact S115.ze (by omega))
              | (rw [pFac_no (fun z => by omega) (fun z => by omega) (fun z => absurd z.1 (fun z1 => by have y := ho.resolve_left (fun y => by omega); rw [z1] at y; cases y.2))]; exact rR_f Q0)
              | (exfalso; omega)
            · refine zwW_p [(1, 0, 2)] (q := 96) (ls' := [(2, 9), (0, a)]) (st' := [(2, 9)]) (by decide +kernel) rfl ?_
              refine zwW_gs C.1 (kd := 7) (bn := 4) (n := 9) (t := 0) (lo := -2147483648) (hi := 2147483647) (nx := 99) (by decide +kernel) ?_
              intro v72 ev72 lv72 uv72
              have kv72 : v72 = pK t n s.1 := ev72.trans (Q0).kd
              refine zwW_p [(0, 40, 0)] (q := 101) (ls' := [(2, 9), (0, a)]) (st' := [(0, 40), (0, v72)]) (by decide +kernel) rfl ?_
              refine zwic_ne (q := 141) (nx := 104) (by decide +kernel) (fun c73 => ?_) (fun c73 => ?_)
              · refine zwW_p [(0, 0, 0)] (q := 142) (ls' := [(2, 9), (0, a)]) (st' := [(0, 0)]) (by decide +kernel) rfl ?_
                refine zwW_ret (nx := 143) (a := 1) (b := 0) (by decide +kernel) rfl (Or.inr (Or.inl ⟨rfl, by omega⟩)) ?_
                refine ⟨C, X.le (by decide) (by decide), by omega, ?_⟩
                show rR t n h 0 (pFac t n o (sub t n) s)
                first
                | (rw [pFac_num (by omega) (by omega), ← rfl]; exact rR_t Q0)
                | (rw [pFac_wd (by omega) ⟨by omega, by omega⟩, ← rfl]; exact rR_t Q0)
                | (rw [pFac_par (ho.resolve_right (fun z => by omega)).2 (by omega) (S115.b1 (by omega)) (by omega)]; exact rR_t Q0)
                | (rw [pFac_pn (ho.resolve_right (fun z => by omega)).2 (by omega) (S115.b1 (by omega)) (by omega)]; exact rR_f Q0)
                | (rw [pFac_pf (ho.resolve_right (fun z => by omega)).2 (by omega) (S115.b0 (by omega))]; exact S115.ze (by omega))
                | (rw [pFac_no (fun z => by omega) (fun z => by omega) (fun z => absurd z.1 (fun z1 => by have y := ho.resolve_left (fun y => by omega); rw [z1] at y; cases y.2))]; exact rR_f Q0)
                | (exfalso; omega)
              · refine zwW_p [(1, 0, 2)] (q := 105) (ls' := [(2, 9), (0, a)]) (st' := [(2, 9)]) (by decide +kernel) rfl ?_
                refine zwW_cm C.1 (op := 60) (k' := 198) (n := 0) (kd := 7) (m := 9) (nx := 108) (r := 9) (tl := []) (st' := []) (by decide +kernel) rfl (by decide +kernel) (Nat.ble_eq_true_of_le (by omega)) (x198_q h C t n s B Q0 (W0).2) ?_
                rintro x h75 ⟨Ch75, Qh75, rfl, f74⟩
                have Xh75 : zXR msxK (0) (0) h h75 := X.tr (c2 := 0) (s2 := 0) Qh75 (by decide +kernel) (by decide) (by decide)
                have th75_9_6 : fld h75 9 6 = fld h 9 6 := Qh75.f (a1 := 9) (a2 := 9) (j1 := 6) (j2 := 7) (by decide +kernel) ⟨by decide, by decide⟩ ⟨by decide, by decide⟩ ⟨by decide, by decide⟩
                have Bh75 : rB t n h75 := B.fr Qh75 (by decide +kernel)
                have Vh75 : rV n (pA t n s) := (W0).a (by omega)
                refine zwif_eq (q := 141) (nx := 111) (by decide +kernel) (fun c76 => ?_) (fun c76 => ?_)
                · exfalso; omega
                · refine zwW_p [(1, 0, 2), (1, 1, 0), (0, 1, 0)] (q := 114) (ls' := [(2, 9), (0, a)]) (st' := [(0, 1), (0, a), (2, 9)]) (by decide +kernel) rfl ?_
                  refine zwW_add (nx := 115) (by decide +kernel) ⟨by omega, by omega⟩ ?_
                  refine zwW_cm Ch75.1 (op := 60) (k' := 241) (n := 1) (kd := 7) (m := 9) (nx := 118) (r := 9) (tl := [(0, (a + 1))]) (st' := []) (by decide +kernel) rfl (by decide +kernel) (Nat.ble_eq_true_of_le (by omega)) (HS (by omega) h75 Ch75 t n (pA t n s) Bh75 f74 Vh75.wk) ?_
                  rintro v79 h80 ⟨Ch80, Qh80, f77, f78⟩
                  have Xh80 : zXR msxK (0) (0) h h80 := Xh75.tr (c2 := 0) (s2 := 0) Qh80 (by decide +kernel) (by decide) (by decide)
                  have Bh80 : rB t n h80 := Bh75.fr Qh80 (by decide +kernel)
                  have S115 := f78
                  have Vh80 : rV n ((sub t n) (pA t n s)).2 := (Vh75).fn (hs t n)
                  refine zwif_eq (q := 141) (nx := 121) (by decide +kernel) (fun c81 => ?_) (fun c81 => ?_)
                  · refine zwW_p [(0, 0, 0)] (q := 142) (ls' := [(2, 9), (0, a)]) (st' := [(0, 0)]) (by decide +kernel) rfl ?_
                    refine zwW_ret (nx := 143) (a := 1) (b := 0) (by decide +kernel) rfl (Or.inr (Or.inl ⟨rfl, by omega⟩)) ?_
                    refine ⟨Ch80, Xh80.le (by decide) (by decide), by omega, ?_⟩
                    show rR t n h80 0 (pFac t n o (sub t n) s)
                    first
                    | (rw [pFac_num (by omega) (by omega), ← rfl]; exact rR_t S115.1)
                    | (rw [pFac_wd (by omega) ⟨by omega, by omega⟩, ← rfl]; exact rR_t S115.1)
                    | (rw [pFac_par (ho.resolve_right (fun z => by omega)).2 (by omega) (S115.b1 (by omega)) (by omega)]; exact rR_t S115.1)
                    | (rw [pFac_pn (ho.resolve_right (fun z => by omega)).2 (by omega) (S115.b1 (by omega)) (by omega)]; exact rR_f S115.1)
                    | (rw [pFac_pf (ho.resolve_right (fun z => by omega)).2 (by omega) (S115.b0 (by omega))]; exact S115.ze (by omega))
                    | (rw [pFac_no (fun z => by omega) (fun z => by omega) (fun z => absurd z.1 (fun z1 => by have y := ho.resolve_left (fun y => by omega); rw [z1] at y; cases y.2))]; exact rR_f S115.1)
                    | (exfalso; omega)
                  · refine zwW_p [(1, 0, 2)] (q := 122) (ls' := [(2, 9), (0, a)]) (st' := [(2, 9)]) (by decide +kernel) rfl ?_
                    refine zwW_gs Ch80.1 (kd := 7) (bn := 4) (n := 9) (t := 0) (lo := -2147483648) (hi := 2147483647) (nx := 125) (by decide +kernel) ?_
                    intro v82 ev82 lv82 uv82
                    have kv82 : v82 = pK t n (sub t n (pA t n s)).2.1 := ev82.trans (S115.1).kd
                    refine zwW_p [(0, 41, 0)] (q := 127) (ls' := [(2, 9), (0, a)]) (st' := [(0, 41), (0, v82)]) (by decide +kernel) rfl ?_
                    refine zwic_ne (q := 141) (nx := 130) (by decide +kernel) (fun c83 => ?_) (fun c83 => ?_)
                    · refine zwW_p [(0, 0, 0)] (q := 142) (ls' := [(2, 9), (0, a)]) (st' := [(0, 0)]) (by decide +kernel) rfl ?_
                      refine zwW_ret (nx := 143) (a := 1) (b := 0) (by decide +kernel) rfl (Or.inr (Or.inl ⟨rfl, by omega⟩)) ?_
                      refine ⟨Ch80, Xh80.le (by decide) (by decide), by omega, ?_⟩
                      show rR t n h80 0 (pFac t n o (sub t n) s)
                      first
                      | (rw [pFac_num (by omega) (by omega), ← rfl]; exact rR_t S115.1)
                      | (rw [pFac_wd (by omega) ⟨by omega, by omega⟩, ← rfl]; exact rR_t S115.1)
                      | (rw [pFac_par (ho.resolve_right (fun z => by omega)).2 (by omega) (S115.b1 (by omega)) (by omega)]; exact rR_t S115.1)
                      | (rw [pFac_pn (ho.resolve_right (fun z => by omega)).2 (by omega) (S115.b1 (by omega)) (by omega)]; exact rR_f S115.1)
                      | (rw [pFac_pf (ho.resolve_right (fun z => by omega)).2 (by omega) (S115.b0 (by omega))]; exact S115.ze (by omega))
                      | (rw [pFac_no (fun z => by omega) (fun z => by omega) (fun z => absurd z.1 (fun z1 => by have y := ho.resolve_left (fun y => by omega); rw [z1] at y; cases y.2))]; exact rR_f S115.1)
                      | (exfalso; omega)
                    · refine zwW_p [(1, 0, 2)] (q := 131) (ls' := [(2, 9), (0, a)]) (st' := [(2, 9)]) (by decide +kernel) rfl ?_
                      refine zwW_cm Ch80.1 (op := 60) (k' := 198) (n := 0) (kd := 7) (m := 9) (nx := 134) (r := 9) (tl := []) (st' := []) (by decide +kernel) rfl (by decide +kernel) (Nat.ble_eq_true_of_le (by omega)) (x198_q h80 Ch80 t n (sub t n (pA t n s)).2 Bh80 S115.1 (Vh80.wk).2) ?_
                      rintro x h85 ⟨Ch85, Qh85, rfl, f84⟩
                      have Xh85 : zXR msxK (0) (0) h h85 := Xh80.tr (c2 := 0) (s2 := 0) Qh85 (by decide +kernel) (by decide) (by decide)
                      have th85_9_6 : fld h85 9 6 = fld h80 9 6 := Qh85.f (a1 := 9) (a2 := 9) (j1 := 6) (j2 := 7) (by decide +kernel) ⟨by decide, by decide⟩ ⟨by decide, by decide⟩ ⟨by decide, by decide⟩
                      have Bh85 : rB t n h85 := Bh80.fr Qh85 (by decide +kernel)
                      have Vh85 : rV n (pA t n ((sub t n (pA t n s)).2)) := (Vh80.wk).a (by omega)
                      refine zwif_eq (q := 141) (nx := 137) (by decide +kernel) (fun c86 => ?_) (fun c86 => ?_)
                      · exfalso; omega
                      · refine zwW_p [(0, 1, 0), (24, 142, 0)] (q := 142) (ls' := [(2, 9), (0, a)]) (st' := [(0, 1)]) (by decide +kernel) rfl ?_
                        refine zwW_ret (nx := 143) (a := 1) (b := 0) (by decide +kernel) rfl (Or.inr (Or.inl ⟨rfl, by omega⟩)) ?_
                        refine ⟨Ch85, Xh85.le (by decide) (by decide), by omega, ?_⟩
                        show rR t n h85 1 (pFac t n o (sub t n) s)
                        first
                        | (rw [pFac_num (by omega) (by omega), ← rfl]; exact rR_t f84)
                        | (rw [pFac_wd (by omega) ⟨by omega, by omega⟩, ← rfl]; exact rR_t f84)
                        | (rw [pFac_par (ho.resolve_right (fun z => by omega)).2 (by omega) (S115.b1 (by omega)) (by omega)]; exact rR_t f84)
                        | (rw [pFac_pn (ho.resolve_right (fun z => by omega)).2 (by omega) (S115.b1 (by omega)) (by omega)]; exact rR_f f84)
                        | (rw [pFac_pf (ho.resolve_right (fun z => by omega)).2 (by omega) (S115.b0 (by omega))]; exact S115.ze (by omega))
                        | (rw [pFac_no (fun z => by omega) (fun z => by omega) (fun z => absurd z.1 (fun z1 => by have y := ho.resolve_left (fun y => by omega); rw [z1] at y; cases y.2))]; exact rR_f f84)
                        | (exfalso; omega)
          · exfalso; omega
        · refine zwif_ne (q := 89) (nx := 63) (by decide +kernel) (fun c87 => ?_) (fun c87 => ?_)
          · exfalso; omega
          · refine zwW_p [(1, 0, 2), (0, -1, 0), (1, 0, 2)] (q := 66) (ls' := [(2, 9), (0, a)]) (st' := [(2, 9), (0, -1), (2, 9)]) (by decide +kernel) rfl ?_
            refine zwW_gs C.1 (kd := 7) (bn := 5) (n := 9) (t := 0) (lo := -2147483648) (hi := 2147483647) (nx := 69) (by decide +kernel) ?_
            intro v88 ev88 lv88 uv88
            have kv88 : pK t n s.1 = 1 ∨ pK t n s.1 = 2 → v88 = pV t n s.1 := fun z => ev88.trans ((Q0).vl z)
            have VV := kv88 (by omega)
            refine zwW_sub (nx := 70) (by decide +kernel) ⟨by omega, by omega⟩ ?_
            refine zwW_cm C.1 (op := 60) (k' := 243) (n := 1) (kd := 7) (m := 9) (nx := 73) (r := 9) (tl := [(0, (-1 - v88))]) (st' := []) (by decide +kernel) rfl (by decide +kernel) (Nat.ble_eq_true_of_le (by omega)) (x243_q h C (-1 - v88) t n s (by omega) Q0 (W0.lt B Q0 (by omega))) ?_
            rintro x h90 ⟨Ch90, Qh90, rfl, f89⟩
            have Xh90 : zXR msxK (0) (0) h h90 := X.tr (c2 := 0) (s2 := 0) Qh90 (by decide +kernel) (by decide) (by decide)
            have Bh90 : rB t n h90 := B.fr Qh90 (by decide +kernel)
            refine zwif_eq (q := 87) (nx := 76) (by decide +kernel) (fun c91 => ?_) (fun c91 => ?_)
            · exfalso; omega
            · refine zwW_p [(1, 0, 2)] (q := 77) (ls' := [(2, 9), (0, a)]) (st' := [(2, 9)]) (by decide +kernel) rfl ?_
              refine zwW_cm Ch90.1 (op := 60) (k' := 198) (n := 0) (kd := 7) (m := 9) (nx := 80) (r := 9) (tl := []) (st' := []) (by decide +kernel) rfl (by decide +kernel) (Nat.ble_eq_true_of_le (by omega)) (x198_q h90 Ch90 t n (pW (-1 - v88) s) Bh90 f89 (W0).2) ?_
              rintro x h93 ⟨Ch93, Qh93, rfl, f92⟩
              have Xh93 : zXR msxK (0) (0) h h93 := Xh90.tr (c2 := 0) (s2 := 0) Qh93 (by decide +kernel) (by decide) (by decide)
              have th93_9_6 : fld h93 9 6 = fld h90 9 6 := Qh93.f (a1 := 9) (a2 := 9) (j1 := 6) (j2 := 7) (by decide +kernel) ⟨by decide, by decide⟩ ⟨by decide, by decide⟩ ⟨by decide, by decide⟩
              have Bh93 : rB t n h93 := Bh90.fr Qh93 (by decide +kernel)
              refine zwif_eq (q := 87) (nx := 83) (by decide +kernel) (fun c94 => ?_) (fun c94 => ?_)
              · exfalso; omega
              · refine zwW_p [(0, 1, 0), (24, 88, 0)] (q := 88) (ls' := [(2, 9), (0, a)]) (st' := [(0, 1)]) (by decide +kernel) rfl ?_
                refine zwW_ret (nx := 89) (a := 1) (b := 0) (by decide +kernel) rfl (Or.inr (Or.inl ⟨rfl, by omega⟩)) ?_
                refine ⟨Ch93, Xh93.le (by decide) (by decide), by omega, ?_⟩
                show rR t n h93 1 (pFac t n o (sub t n) s)
                first
                | (rw [pFac_num (by omega) (by omega), ← VV]; exact rR_t f92)
                | (rw [pFac_wd (by omega) ⟨by omega, by omega⟩, ← VV]; exact rR_t f92)
                | (rw [pFac_par (ho.resolve_right (fun z => by omega)).2 (by omega) (S115.b1 (by omega)) (by omega)]; exact rR_t f92)
                | (rw [pFac_pn (ho.resolve_right (fun z => by omega)).2 (by omega) (S115.b1 (by omega)) (by omega)]; exact rR_f f92)
                | (rw [pFac_pf (ho.resolve_right (fun z => by omega)).2 (by omega) (S115.b0 (by omega))]; exact S115.ze (by omega))
                | (rw [pFac_no (fun z => by omega) (fun z => by omega) (fun z => absurd z.1 (fun z1 => by have y := ho.resolve_left (fun y => by omega); rw [z1] at y; cases y.2))]; exact rR_f f92)
                | (exfalso; omega)
    · refine zwW_p [(1, 0, 2), (1, 0, 2)] (q := 20) (ls' := [(2, 9), (0, a)]) (st' := [(2, 9), (2, 9)]) (by decide +kernel) rfl ?_
      refine zwW_gs C.1 (kd := 7) (bn := 5) (n := 9) (t := 0) (lo := -2147483648) (hi := 2147483647) (nx := 23) (by decide +kernel) ?_
      intro v95 ev95 lv95 uv95
      have kv95 : pK t n s.1 = 1 ∨ pK t n s.1 = 2 → v95 = pV t n s.1 := fun z => ev95.trans ((Q0).vl z)
      have VV := kv95 (by omega)
      refine zwW_cm C.1 (op := 60) (k' := 243) (n := 1) (kd := 7) (m := 9) (nx := 26) (r := 9) (tl := [(0, v95)]) (st' := []) (by decide +kernel) rfl (by decide +kernel) (Nat.ble_eq_true_of_le (by omega)) (x243_q h C v95 t n s (by omega) Q0 (W0.lt B Q0 (by omega))) ?_
      rintro x h97 ⟨Ch97, Qh97, rfl, f96⟩
      have Xh97 : zXR msxK (0) (0) h h97 := X.tr (c2 := 0) (s2 := 0) Qh97 (by decide +kernel) (by decide) (by decide)
      have Bh97 : rB t n h97 := B.fr Qh97 (by decide +kernel)
      refine zwif_eq (q := 40) (nx := 29) (by decide +kernel) (fun c98 => ?_) (fun c98 => ?_)
      · exfalso; omega
      · refine zwW_p [(1, 0, 2)] (q := 30) (ls' := [(2, 9), (0, a)]) (st' := [(2, 9)]) (by decide +kernel) rfl ?_
        refine zwW_cm Ch97.1 (op := 60) (k' := 198) (n := 0) (kd := 7) (m := 9) (nx := 33) (r := 9) (tl := []) (st' := []) (by decide +kernel) rfl (by decide +kernel) (Nat.ble_eq_true_of_le (by omega)) (x198_q h97 Ch97 t n (pW v95 s) Bh97 f96 (W0).2) ?_
        rintro x h100 ⟨Ch100, Qh100, rfl, f99⟩
        have Xh100 : zXR msxK (0) (0) h h100 := Xh97.tr (c2 := 0) (s2 := 0) Qh100 (by decide +kernel) (by decide) (by decide)
        have th100_9_6 : fld h100 9 6 = fld h97 9 6 := Qh100.f (a1 := 9) (a2 := 9) (j1 := 6) (j2 := 7) (by decide +kernel) ⟨by decide, by decide⟩ ⟨by decide, by decide⟩ ⟨by decide, by decide⟩
        have Bh100 : rB t n h100 := Bh97.fr Qh100 (by decide +kernel)
        refine zwif_eq (q := 40) (nx := 36) (by decide +kernel) (fun c101 => ?_) (fun c101 => ?_)
        · exfalso; omega
        · refine zwW_p [(0, 1, 0), (24, 41, 0)] (q := 41) (ls' := [(2, 9), (0, a)]) (st' := [(0, 1)]) (by decide +kernel) rfl ?_
          refine zwW_ret (nx := 42) (a := 1) (b := 0) (by decide +kernel) rfl (Or.inr (Or.inl ⟨rfl, by omega⟩)) ?_
          refine ⟨Ch100, Xh100.le (by decide) (by decide), by omega, ?_⟩
          show rR t n h100 1 (pFac t n o (sub t n) s)
          first
          | (rw [pFac_num (by omega) (by omega), ← VV]; exact rR_t f99)
          | (rw [pFac_wd (by omega) ⟨by omega, by omega⟩, ← VV]; exact rR_t f99)
          | (rw [pFac_par (ho.resolve_right (fun z => by omega)).2 (by omega) (S115.b1 (by omega)) (by omega)]; exact rR_t f99)
          | (rw [pFac_pn (ho.resolve_right (fun z => by omega)).2 (by omega) (S115.b1 (by omega)) (by omega)]; exact rR_f f99)
          | (rw [pFac_pf (ho.resolve_right (fun z => by omega)).2 (by omega) (S115.b0 (by omega))]; exact S115.ze (by omega))
          | (rw [pFac_no (fun z => by omega) (fun z => by omega) (fun z => absurd z.1 (fun z1 => by have y := ho.resolve_left (fun y => by omega); rw [z1] at y; cases y.2))]; exact rR_f f99)
          | (exfalso; omega)
-- WheelLand$Reader.product(I)Z
theorem x262_q {sc : List Int} (a : Int) (D0 : Nat) (pa : 0 ≤ a ∧ a ≤ 8) (o : Bool) (sub : pT → Nat → pQ → pR) (ho : (a < 8 ∧ o = true) ∨ (8 ≤ a ∧ o = false)) (hs : ∀ (t : pT) (n : Nat), pG n (sub t n)) (HS : a < 8 → rX sc D0 241 (a + 1) sub) : rX sc (D0 + 21) 262 a (fun t n => pPro t n (pFac t n o (sub t n))) := by
  intro h C t n s B Q0 W0
  refine zwC_of (D := D0 + 20) 5 (by decide +kernel) rfl (ls := [(2, 9), (0, a), (9, 0), (9, 0), (9, 0)]) rfl ?_
  have X : zXR msxK 0 0 h h := zXR.rf _ _
  refine zwW_p [(1, 0, 2), (1, 1, 0)] (q := 2) (ls' := [(2, 9), (0, a), (9, 0), (9, 0), (9, 0)]) (st' := [(0, a), (2, 9)]) (by decide +kernel) rfl ?_
  refine zwW_cm C.1 (op := 60) (k' := 280) (n := 1) (kd := 7) (m := 9) (nx := 5) (r := 9) (tl := [(0, a)]) (st' := []) (by decide +kernel) rfl (by decide +kernel) (Nat.ble_eq_true_of_le (by omega)) (x280_q a D0 pa o sub ho hs HS h C t n s B Q0 W0) ?_
  rintro v3 h4 ⟨Ch4, Qh4, f1, f2⟩
  have Xh4 : zXR msxK (0) (0) h h4 := X.tr (c2 := 0) (s2 := 0) Qh4 (by decide +kernel) (by decide) (by decide)
  have Bh4 : rB t n h4 := B.fr Qh4 (by decide +kernel)
  have S2 := f2
  have Wh4 : rW n ((pFac t n o (sub t n)) s).2 := (W0).fn (pG_fac (hs t n))
  refine zwW_p [(2, 2, 0), (0, 0, 0), (2, 3, 0)] (q := 8) (ls' := [(2, 9), (0, a), (0, v3), (0, 0), (9, 0)]) (st' := []) (by decide +kernel) rfl ?_
  have L5 : ∀ (n0 : Nat) (v2L5 v3L5 : Int) (w4L5 : Vl) (hL5 : Hp), n0 = ((1000 - v3L5)).toNat → (rB t n hL5) → (rL t n hL5 v2L5 (400 - (v3L5).toNat) (pLp t n 42 47 (pFac t n o (sub t n))) (pPro t n (pFac t n o (sub t n)) s)) → (0 ≤ v2L5 ∧ v2L5 ≤ 1) → (0 ≤ v3L5 ∧ v3L5 ≤ 1000) → CI hL5 → zXR msxK (0) (0) h hL5 → zwW sc (D0 + 20) 262 8 [(2, 9), (0, a), (0, v2L5), (0, v3L5), w4L5] [] hL5 (zwRt 0 (fun x g => CI g ∧ zXR msxK (0) (0) h g ∧ (0 ≤ x ∧ x ≤ 1) ∧ rR t n g x ((pPro t n (pFac t n o (sub t n))) s))) := by
    intro n0
    induction n0 using Nat.strongRecOn with
    | ind n0 IHL5 =>
      intro v2L5 v3L5 w4L5 hL5 hnL5 iL5_0 iL5_1 iL5_2 iL5_3 ChL5 XhL5
      obtain ⟨qL, QL, WL, OL⟩ := iL5_1
      refine zwW_p [(1, 3, 0), (0, 400, 0)] (q := 12) (ls' := [(2, 9), (0, a), (0, v2L5), (0, v3L5), w4L5]) (st' := [(0, 400), (0, v3L5)]) (by decide +kernel) rfl ?_
      refine zwic_ge (q := 78) (nx := 15) (by decide +kernel) (fun c6 => ?_) (fun c6 => ?_)
      · refine zwW_p [(1, 2, 0)] (q := 79) (ls' := [(2, 9), (0, a), (0, v2L5), (0, v3L5), w4L5]) (st' := [(0, v2L5)]) (by decide +kernel) rfl ?_
        refine zwW_ret (nx := 80) (a := 1) (b := 0) (by decide +kernel) rfl (Or.inr (Or.inl ⟨rfl, by omega⟩)) ?_
        refine ⟨ChL5, XhL5.le (by decide) (by decide), by omega, ?_⟩
        show rR t n hL5 v2L5 (pPro t n (pFac t n o (sub t n)) s)
        first
        | (exact rL_x QL OL (Or.inr (pLp_z (Or.inl (by omega)))))
        | (exact rL_x QL OL (Or.inl (by omega)))
        | (exact rL_x QL OL (Or.inr (pLp_z (Or.inr (by omega)))))
        | (exfalso; omega)
      · refine zwW_p [(1, 2, 0)] (q := 16) (ls' := [(2, 9), (0, a), (0, v2L5), (0, v3L5), w4L5]) (st' := [(0, v2L5)]) (by decide +kernel) rfl ?_
        refine zwif_eq (q := 78) (nx := 19) (by decide +kernel) (fun c7 => ?_) (fun c7 => ?_)
        · refine zwW_p [(1, 2, 0)] (q := 79) (ls' := [(2, 9), (0, a), (0, v2L5), (0, v3L5), w4L5]) (st' := [(0, v2L5)]) (by decide +kernel) rfl ?_
          refine zwW_ret (nx := 80) (a := 1) (b := 0) (by decide +kernel) rfl (Or.inr (Or.inl ⟨rfl, by omega⟩)) ?_
          refine ⟨ChL5, XhL5.le (by decide) (by decide), by omega, ?_⟩
          show rR t n hL5 v2L5 (pPro t n (pFac t n o (sub t n)) s)
          first
          | (exact rL_x QL OL (Or.inr (pLp_z (Or.inl (by omega)))))
          | (exact rL_x QL OL (Or.inl (by omega)))
          | (exact rL_x QL OL (Or.inr (pLp_z (Or.inr (by omega)))))
          | (exfalso; omega)
        · refine zwW_p [(1, 0, 2)] (q := 20) (ls' := [(2, 9), (0, a), (0, v2L5), (0, v3L5), w4L5]) (st' := [(2, 9)]) (by decide +kernel) rfl ?_
          refine zwW_gs ChL5.1 (kd := 7) (bn := 4) (n := 9) (t := 0) (lo := -2147483648) (hi := 2147483647) (nx := 23) (by decide +kernel) ?_
          intro v8 ev8 lv8 uv8
          have kv8 : v8 = pK t n qL.1 := ev8.trans (QL).kd
          refine zwW_p [(0, 42, 0)] (q := 25) (ls' := [(2, 9), (0, a), (0, v2L5), (0, v3L5), w4L5]) (st' := [(0, 42), (0, v8)]) (by decide +kernel) rfl ?_
          refine zwic_eq (q := 37) (nx := 28) (by decide +kernel) (fun c9 => ?_) (fun c9 => ?_)
          · refine zwW_p [(1, 0, 2)] (q := 38) (ls' := [(2, 9), (0, a), (0, v2L5), (0, v3L5), w4L5]) (st' := [(2, 9)]) (by decide +kernel) rfl ?_
            refine zwW_gs ChL5.1 (kd := 7) (bn := 4) (n := 9) (t := 0) (lo := -2147483648) (hi := 2147483647) (nx := 41) (by decide +kernel) ?_
            intro v10 ev10 lv10 uv10
            have kv10 : v10 = pK t n qL.1 := ev10.trans (QL).kd
            refine zwW_p [(2, 4, 0), (1, 0, 2)] (q := 44) (ls' := [(2, 9), (0, a), (0, v2L5), (0, v3L5), (0, v10)]) (st' := [(2, 9)]) (by decide +kernel) rfl ?_
            refine zwW_cm ChL5.1 (op := 60) (k' := 198) (n := 0) (kd := 7) (m := 9) (nx := 47) (r := 9) (tl := []) (st' := []) (by decide +kernel) rfl (by decide +kernel) (Nat.ble_eq_true_of_le (by omega)) (x198_q hL5 ChL5 t n qL iL5_0 QL (WL).2) ?_
            rintro x h12 ⟨Ch12, Qh12, rfl, f11⟩
            have Xh12 : zXR msxK (0) (0) h h12 := XhL5.tr (c2 := 0) (s2 := 0) Qh12 (by decide +kernel) (by decide) (by decide)
            have th12_9_6 : fld h12 9 6 = fld hL5 9 6 := Qh12.f (a1 := 9) (a2 := 9) (j1 := 6) (j2 := 7) (by decide +kernel) ⟨by decide, by decide⟩ ⟨by decide, by decide⟩ ⟨by decide, by decide⟩
            have Bh12 : rB t n h12 := iL5_0.fr Qh12 (by decide +kernel)
            have Vh12 : rV n (pA t n qL) := (WL).a (by omega)
            refine zwW_p [(15, 0, 0), (1, 0, 2), (1, 1, 0)] (q := 50) (ls' := [(2, 9), (0, a), (0, v2L5), (0, v3L5), (0, v10)]) (st' := [(0, a), (2, 9)]) (by decide +kernel) rfl ?_
            refine zwW_cm Ch12.1 (op := 60) (k' := 280) (n := 1) (kd := 7) (m := 9) (nx := 53) (r := 9) (tl := [(0, a)]) (st' := []) (by decide +kernel) rfl (by decide +kernel) (Nat.ble_eq_true_of_le (by omega)) (x280_q a D0 pa o sub ho hs HS h12 Ch12 t n (pA t n qL) Bh12 f11 Vh12.wk) ?_
            rintro v15 h16 ⟨Ch16, Qh16, f13, f14⟩
            have Xh16 : zXR msxK (0) (0) h h16 := Xh12.tr (c2 := 0) (s2 := 0) Qh16 (by decide +kernel) (by decide) (by decide)
            have Bh16 : rB t n h16 := Bh12.fr Qh16 (by decide +kernel)
            have S50 := f14
            have Vh16 : rV n ((pFac t n o (sub t n)) (pA t n qL)).2 := (Vh12).fn (pG_fac (hs t n))
            refine zwif_eq (q := 70) (nx := 56) (by decide +kernel) (fun c17 => ?_) (fun c17 => ?_)
            · refine zwW_p [(0, 0, 0), (2, 2, 0)] (q := 72) (ls' := [(2, 9), (0, a), (0, 0), (0, v3L5), (0, v10)]) (st' := []) (by decide +kernel) rfl ?_
              have LB : rL t n h16 0 (400 - (v3L5 + 1).toNat) (pLp t n 42 47 (pFac t n o (sub t n))) (pPro t n (pFac t n o (sub t n)) s) := by
                first
                | exact rL_t S50.1 Vh16.wk ((x_one OL (by omega)).trans (pLp_n (k := 400 - (v3L5 + 1).toNat) (by omega) (by omega) (S50.b1 (by omega)) (by omega)))
                | exact rL_f S50.1 Vh16.wk ((x_one OL (by omega)).trans (pLp_f (k := 400 - (v3L5 + 1).toNat) (by omega) (by omega) (S50.b0 (by omega))))
              refine zwW_inc (i := 3) (c := 1) (x := v3L5) (nx := 75) (by decide +kernel) rfl ⟨by omega, by omega⟩ (ls' := [(2, 9), (0, a), (0, 0), (0, (v3L5 + 1)), (0, v10)]) rfl ?_
              refine zwW_p [(24, 8, 0)] (q := 8) (ls' := [(2, 9), (0, a), (0, 0), (0, (v3L5 + 1)), (0, v10)]) (st' := []) (by decide +kernel) rfl ?_
              exact IHL5 ((1000 - (v3L5 + 1))).toNat (by omega) 0 (v3L5 + 1) (0, v10) h16 rfl (Bh16) (LB) (by omega) (by omega) Ch16 (Xh16.le (by decide) (by decide))
            · refine zwW_p [(1, 0, 2), (1, 4, 0)] (q := 59) (ls' := [(2, 9), (0, a), (0, v2L5), (0, v3L5), (0, v10)]) (st' := [(0, v10), (2, 9)]) (by decide +kernel) rfl ?_
              refine zwW_neg (nx := 60) (by decide +kernel) ⟨by omega, by omega⟩ ?_
              refine zwW_cm Ch16.1 (op := 60) (k' := 243) (n := 1) (kd := 7) (m := 9) (nx := 63) (r := 9) (tl := [(0, (-v10))]) (st' := []) (by decide +kernel) rfl (by decide +kernel) (Nat.ble_eq_true_of_le (by omega)) (x243_q h16 Ch16 (-v10) t n (pFac t n o (sub t n) (pA t n qL)).2 (by omega) S50.1 (Vh16.lt Bh16 S50.1)) ?_
              rintro x h19 ⟨Ch19, Qh19, rfl, f18⟩
              have Xh19 : zXR msxK (0) (0) h h19 := Xh16.tr (c2 := 0) (s2 := 0) Qh19 (by decide +kernel) (by decide) (by decide)
              have Bh19 : rB t n h19 := Bh16.fr Qh19 (by decide +kernel)
              refine zwif_eq (q := 70) (nx := 66) (by decide +kernel) (fun c20 => ?_) (fun c20 => ?_)
              · exfalso; omega
              · refine zwW_p [(0, 1, 0), (24, 71, 0), (2, 2, 0)] (q := 72) (ls' := [(2, 9), (0, a), (0, 1), (0, v3L5), (0, v10)]) (st' := []) (by decide +kernel) rfl ?_
                have LB : rL t n h19 1 (400 - (v3L5 + 1).toNat) (pLp t n 42 47 (pFac t n o (sub t n))) (pPro t n (pFac t n o (sub t n)) s) := by
                  first
                  | exact rL_t f18 (Vh16).pw ((x_one OL (by omega)).trans (pLp_n (k := 400 - (v3L5 + 1).toNat) (by omega) (by omega) (S50.b1 (by omega)) (by omega)))
                  | exact rL_f S50.1 (Vh16).pw ((x_one OL (by omega)).trans (pLp_f (k := 400 - (v3L5 + 1).toNat) (by omega) (by omega) (S50.b0 (by omega))))
                refine zwW_inc (i := 3) (c := 1) (x := v3L5) (nx := 75) (by decide +kernel) rfl ⟨by omega, by omega⟩ (ls' := [(2, 9), (0, a), (0, 1), (0, (v3L5 + 1)), (0, v10)]) rfl ?_
                refine zwW_p [(24, 8, 0)] (q := 8) (ls' := [(2, 9), (0, a), (0, 1), (0, (v3L5 + 1)), (0, v10)]) (st' := []) (by decide +kernel) rfl ?_
                exact IHL5 ((1000 - (v3L5 + 1))).toNat (by omega) 1 (v3L5 + 1) (0, v10) h19 rfl (Bh19) (LB) (by omega) (by omega) Ch19 (Xh19.le (by decide) (by decide))
          · refine zwW_p [(1, 0, 2)] (q := 29) (ls' := [(2, 9), (0, a), (0, v2L5), (0, v3L5), w4L5]) (st' := [(2, 9)]) (by decide +kernel) rfl ?_
            refine zwW_gs ChL5.1 (kd := 7) (bn := 4) (n := 9) (t := 0) (lo := -2147483648) (hi := 2147483647) (nx := 32) (by decide +kernel) ?_
            intro v21 ev21 lv21 uv21
            have kv21 : v21 = pK t n qL.1 := ev21.trans (QL).kd
            refine zwW_p [(0, 47, 0)] (q := 34) (ls' := [(2, 9), (0, a), (0, v2L5), (0, v3L5), w4L5]) (st' := [(0, 47), (0, v21)]) (by decide +kernel) rfl ?_
            refine zwic_ne (q := 78) (nx := 37) (by decide +kernel) (fun c22 => ?_) (fun c22 => ?_)
            · refine zwW_p [(1, 2, 0)] (q := 79) (ls' := [(2, 9), (0, a), (0, v2L5), (0, v3L5), w4L5]) (st' := [(0, v2L5)]) (by decide +kernel) rfl ?_
              refine zwW_ret (nx := 80) (a := 1) (b := 0) (by decide +kernel) rfl (Or.inr (Or.inl ⟨rfl, by omega⟩)) ?_
              refine ⟨ChL5, XhL5.le (by decide) (by decide), by omega, ?_⟩
              show rR t n hL5 v2L5 (pPro t n (pFac t n o (sub t n)) s)
              first
              | (exact rL_x QL OL (Or.inr (pLp_z (Or.inl (by omega)))))
              | (exact rL_x QL OL (Or.inl (by omega)))
              | (exact rL_x QL OL (Or.inr (pLp_z (Or.inr (by omega)))))
              | (exfalso; omega)
            · refine zwW_p [(1, 0, 2)] (q := 38) (ls' := [(2, 9), (0, a), (0, v2L5), (0, v3L5), w4L5]) (st' := [(2, 9)]) (by decide +kernel) rfl ?_
              refine zwW_gs ChL5.1 (kd := 7) (bn := 4) (n := 9) (t := 0) (lo := -2147483648) (hi := 2147483647) (nx := 41) (by decide +kernel) ?_
              intro v23 ev23 lv23 uv23
              have kv23 : v23 = pK t n qL.1 := ev23.trans (QL).kd
              refine zwW_p [(2, 4, 0), (1, 0, 2)] (q := 44) (ls' := [(2, 9), (0, a), (0, v2L5), (0, v3L5), (0, v23)]) (st' := [(2, 9)]) (by decide +kernel) rfl ?_
              refine zwW_cm ChL5.1 (op := 60) (k' := 198) (n := 0) (kd := 7) (m := 9) (nx := 47) (r := 9) (tl := []) (st' := []) (by decide +kernel) rfl (by decide +kernel) (Nat.ble_eq_true_of_le (by omega)) (x198_q hL5 ChL5 t n qL iL5_0 QL (WL).2) ?_
              rintro x h25 ⟨Ch25, Qh25, rfl, f24⟩
              have Xh25 : zXR msxK (0) (0) h h25 := XhL5.tr (c2 := 0) (s2 := 0) Qh25 (by decide +kernel) (by decide) (by decide)
              have th25_9_6 : fld h25 9 6 = fld hL5 9 6 := Qh25.f (a1 := 9) (a2 := 9) (j1 := 6) (j2 := 7) (by decide +kernel) ⟨by decide, by decide⟩ ⟨by decide, by decide⟩ ⟨by decide, by decide⟩
              have Bh25 : rB t n h25 := iL5_0.fr Qh25 (by decide +kernel)
              have Vh25 : rV n (pA t n qL) := (WL).a (by omega)
              refine zwW_p [(15, 0, 0), (1, 0, 2), (1, 1, 0)] (q := 50) (ls' := [(2, 9), (0, a), (0, v2L5), (0, v3L5), (0, v23)]) (st' := [(0, a), (2, 9)]) (by decide +kernel) rfl ?_
              refine zwW_cm Ch25.1 (op := 60) (k' := 280) (n := 1) (kd := 7) (m := 9) (nx := 53) (r := 9) (tl := [(0, a)]) (st' := []) (by decide +kernel) rfl (by decide +kernel) (Nat.ble_eq_true_of_le (by omega)) (x280_q a D0 pa o sub ho hs HS h25 Ch25 t n (pA t n qL) Bh25 f24 Vh25.wk) ?_
              rintro v28 h29 ⟨Ch29, Qh29, f26, f27⟩
              have Xh29 : zXR msxK (0) (0) h h29 := Xh25.tr (c2 := 0) (s2 := 0) Qh29 (by decide +kernel) (by decide) (by decide)
              have Bh29 : rB t n h29 := Bh25.fr Qh29 (by decide +kernel)
              have S50 := f27
              have Vh29 : rV n ((pFac t n o (sub t n)) (pA t n qL)).2 := (Vh25).fn (pG_fac (hs t n))
              refine zwif_eq (q := 70) (nx := 56) (by decide +kernel) (fun c30 => ?_) (fun c30 => ?_)
              · refine zwW_p [(0, 0, 0), (2, 2, 0)] (q := 72) (ls' := [(2, 9), (0, a), (0, 0), (0, v3L5), (0, v23)]) (st' := []) (by decide +kernel) rfl ?_
                have LB : rL t n h29 0 (400 - (v3L5 + 1).toNat) (pLp t n 42 47 (pFac t n o (sub t n))) (pPro t n (pFac t n o (sub t n)) s) := by
                  first
                  | exact rL_t S50.1 Vh29.wk ((x_one OL (by omega)).trans (pLp_n (k := 400 - (v3L5 + 1).toNat) (by omega) (by omega) (S50.b1 (by omega)) (by omega)))
                  | exact rL_f S50.1 Vh29.wk ((x_one OL (by omega)).trans (pLp_f (k := 400 - (v3L5 + 1).toNat) (by omega) (by omega) (S50.b0 (by omega))))
                refine zwW_inc (i := 3) (c := 1) (x := v3L5) (nx := 75) (by decide +kernel) rfl ⟨by omega, by omega⟩ (ls' := [(2, 9), (0, a), (0, 0), (0, (v3L5 + 1)), (0, v23)]) rfl ?_
                refine zwW_p [(24, 8, 0)] (q := 8) (ls' := [(2, 9), (0, a), (0, 0), (0, (v3L5 + 1)), (0, v23)]) (st' := []) (by decide +kernel) rfl ?_
                exact IHL5 ((1000 - (v3L5 + 1))).toNat (by omega) 0 (v3L5 + 1) (0, v23) h29 rfl (Bh29) (LB) (by omega) (by omega) Ch29 (Xh29.le (by decide) (by decide))
              · refine zwW_p [(1, 0, 2), (1, 4, 0)] (q := 59) (ls' := [(2, 9), (0, a), (0, v2L5), (0, v3L5), (0, v23)]) (st' := [(0, v23), (2, 9)]) (by decide +kernel) rfl ?_
                refine zwW_neg (nx := 60) (by decide +kernel) ⟨by omega, by omega⟩ ?_
                refine zwW_cm Ch29.1 (op := 60) (k' := 243) (n := 1) (kd := 7) (m := 9) (nx := 63) (r := 9) (tl := [(0, (-v23))]) (st' := []) (by decide +kernel) rfl (by decide +kernel) (Nat.ble_eq_true_of_le (by omega)) (x243_q h29 Ch29 (-v23) t n (pFac t n o (sub t n) (pA t n qL)).2 (by omega) S50.1 (Vh29.lt Bh29 S50.1)) ?_
                rintro x h32 ⟨Ch32, Qh32, rfl, f31⟩
                have Xh32 : zXR msxK (0) (0) h h32 := Xh29.tr (c2 := 0) (s2 := 0) Qh32 (by decide +kernel) (by decide) (by decide)
                have Bh32 : rB t n h32 := Bh29.fr Qh32 (by decide +kernel)
                refine zwif_eq (q := 70) (nx := 66) (by decide +kernel) (fun c33 => ?_) (fun c33 => ?_)
                · exfalso; omega
                · refine zwW_p [(0, 1, 0), (24, 71, 0), (2, 2, 0)] (q := 72) (ls' := [(2, 9), (0, a), (0, 1), (0, v3L5), (0, v23)]) (st' := []) (by decide +kernel) rfl ?_
                  have LB : rL t n h32 1 (400 - (v3L5 + 1).toNat) (pLp t n 42 47 (pFac t n o (sub t n))) (pPro t n (pFac t n o (sub t n)) s) := by
                    first
                    | exact rL_t f31 (Vh29).pw ((x_one OL (by omega)).trans (pLp_n (k := 400 - (v3L5 + 1).toNat) (by omega) (by omega) (S50.b1 (by omega)) (by omega)))
                    | exact rL_f S50.1 (Vh29).pw ((x_one OL (by omega)).trans (pLp_f (k := 400 - (v3L5 + 1).toNat) (by omega) (by omega) (S50.b0 (by omega))))
                  refine zwW_inc (i := 3) (c := 1) (x := v3L5) (nx := 75) (by decide +kernel) rfl ⟨by omega, by omega⟩ (ls' := [(2, 9), (0, a), (0, 1), (0, (v3L5 + 1)), (0, v23)]) rfl ?_
                  refine zwW_p [(24, 8, 0)] (q := 8) (ls' := [(2, 9), (0, a), (0, 1), (0, (v3L5 + 1)), (0, v23)]) (st' := []) (by decide +kernel) rfl ?_
                  exact IHL5 ((1000 - (v3L5 + 1))).toNat (by omega) 1 (v3L5 + 1) (0, v23) h32 rfl (Bh32) (LB) (by omega) (by omega) Ch32 (Xh32.le (by decide) (by decide))
  exact L5 _ v3 0 (9, 0) h4 rfl (Bh4) (rL_0 S2 Wh4) (by omega) (by omega) Ch4 (Xh4.le (by decide) (by decide))
-- WheelLand$Reader.sum(I)Z
theorem x241_q {sc : List Int} (a : Int) (D0 : Nat) (pa : 0 ≤ a ∧ a ≤ 8) (o : Bool) (sub : pT → Nat → pQ → pR) (ho : (a < 8 ∧ o = true) ∨ (8 ≤ a ∧ o = false)) (hs : ∀ (t : pT) (n : Nat), pG n (sub t n)) (HS : a < 8 → rX sc D0 241 (a + 1) sub) : rX sc (D0 + 22) 241 a (fun t n => pSm0 t n (pFac t n o (sub t n))) := by
  intro h C t n s B Q0 W0
  refine zwC_of (D := D0 + 21) 5 (by decide +kernel) rfl (ls := [(2, 9), (0, a), (9, 0), (9, 0), (9, 0)]) rfl ?_
  have X : zXR msxK 0 0 h h := zXR.rf _ _
  refine zwW_p [(1, 0, 2), (1, 1, 0)] (q := 2) (ls' := [(2, 9), (0, a), (9, 0), (9, 0), (9, 0)]) (st' := [(0, a), (2, 9)]) (by decide +kernel) rfl ?_
  refine zwW_cm C.1 (op := 60) (k' := 262) (n := 1) (kd := 7) (m := 9) (nx := 5) (r := 9) (tl := [(0, a)]) (st' := []) (by decide +kernel) rfl (by decide +kernel) (Nat.ble_eq_true_of_le (by omega)) (x262_q a D0 pa o sub ho hs HS h C t n s B Q0 W0) ?_
  rintro v3 h4 ⟨Ch4, Qh4, f1, f2⟩
  have Xh4 : zXR msxK (0) (0) h h4 := X.tr (c2 := 0) (s2 := 0) Qh4 (by decide +kernel) (by decide) (by decide)
  have Bh4 : rB t n h4 := B.fr Qh4 (by decide +kernel)
  have S2 := f2
  have Wh4 : rW n ((pPro t n (pFac t n o (sub t n))) s).2 := (W0).fn (pG_pro (pG_fac (hs t n)))
  refine zwW_p [(2, 2, 0), (0, 0, 0), (2, 3, 0)] (q := 8) (ls' := [(2, 9), (0, a), (0, v3), (0, 0), (9, 0)]) (st' := []) (by decide +kernel) rfl ?_
  have L5 : ∀ (n0 : Nat) (v2L5 v3L5 : Int) (w4L5 : Vl) (hL5 : Hp), n0 = ((1000 - v3L5)).toNat → (rB t n hL5) → (rL t n hL5 v2L5 (400 - (v3L5).toNat) (pLp t n 43 45 (pPro t n (pFac t n o (sub t n)))) (pSm0 t n (pFac t n o (sub t n)) s)) → (0 ≤ v2L5 ∧ v2L5 ≤ 1) → (0 ≤ v3L5 ∧ v3L5 ≤ 1000) → CI hL5 → zXR msxK (0) (0) h hL5 → zwW sc (D0 + 21) 241 8 [(2, 9), (0, a), (0, v2L5), (0, v3L5), w4L5] [] hL5 (zwRt 0 (fun x g => CI g ∧ zXR msxK (0) (0) h g ∧ (0 ≤ x ∧ x ≤ 1) ∧ rR t n g x ((pSm0 t n (pFac t n o (sub t n))) s))) := by
    intro n0
    induction n0 using Nat.strongRecOn with
    | ind n0 IHL5 =>
      intro v2L5 v3L5 w4L5 hL5 hnL5 iL5_0 iL5_1 iL5_2 iL5_3 ChL5 XhL5
      obtain ⟨qL, QL, WL, OL⟩ := iL5_1
      refine zwW_p [(1, 3, 0), (0, 400, 0)] (q := 12) (ls' := [(2, 9), (0, a), (0, v2L5), (0, v3L5), w4L5]) (st' := [(0, 400), (0, v3L5)]) (by decide +kernel) rfl ?_
      refine zwic_ge (q := 78) (nx := 15) (by decide +kernel) (fun c6 => ?_) (fun c6 => ?_)
      · refine zwW_p [(1, 2, 0)] (q := 79) (ls' := [(2, 9), (0, a), (0, v2L5), (0, v3L5), w4L5]) (st' := [(0, v2L5)]) (by decide +kernel) rfl ?_
        refine zwW_ret (nx := 80) (a := 1) (b := 0) (by decide +kernel) rfl (Or.inr (Or.inl ⟨rfl, by omega⟩)) ?_
        refine ⟨ChL5, XhL5.le (by decide) (by decide), by omega, ?_⟩
        show rR t n hL5 v2L5 (pSm0 t n (pFac t n o (sub t n)) s)
        first
        | (exact rL_x QL OL (Or.inr (pLp_z (Or.inl (by omega)))))
        | (exact rL_x QL OL (Or.inl (by omega)))
        | (exact rL_x QL OL (Or.inr (pLp_z (Or.inr (by omega)))))
        | (exfalso; omega)
      · refine zwW_p [(1, 2, 0)] (q := 16) (ls' := [(2, 9), (0, a), (0, v2L5), (0, v3L5), w4L5]) (st' := [(0, v2L5)]) (by decide +kernel) rfl ?_
        refine zwif_eq (q := 78) (nx := 19) (by decide +kernel) (fun c7 => ?_) (fun c7 => ?_)
        · refine zwW_p [(1, 2, 0)] (q := 79) (ls' := [(2, 9), (0, a), (0, v2L5), (0, v3L5), w4L5]) (st' := [(0, v2L5)]) (by decide +kernel) rfl ?_
          refine zwW_ret (nx := 80) (a := 1) (b := 0) (by decide +kernel) rfl (Or.inr (Or.inl ⟨rfl, by omega⟩)) ?_
          refine ⟨ChL5, XhL5.le (by decide) (by decide), by omega, ?_⟩
          show rR t n hL5 v2L5 (pSm0 t n (pFac t n o (sub t n)) s)
          first
          | (exact rL_x QL OL (Or.inr (pLp_z (Or.inl (by omega)))))
          | (exact rL_x QL OL (Or.inl (by omega)))
          | (exact rL_x QL OL (Or.inr (pLp_z (Or.inr (by omega)))))
          | (exfalso; omega)
        · refine zwW_p [(1, 0, 2)] (q := 20) (ls' := [(2, 9), (0, a), (0, v2L5), (0, v3L5), w4L5]) (st' := [(2, 9)]) (by decide +kernel) rfl ?_
          refine zwW_gs ChL5.1 (kd := 7) (bn := 4) (n := 9) (t := 0) (lo := -2147483648) (hi := 2147483647) (nx := 23) (by decide +kernel) ?_
          intro v8 ev8 lv8 uv8
          have kv8 : v8 = pK t n qL.1 := ev8.trans (QL).kd
          refine zwW_p [(0, 43, 0)] (q := 25) (ls' := [(2, 9), (0, a), (0, v2L5), (0, v3L5), w4L5]) (st' := [(0, 43), (0, v8)]) (by decide +kernel) rfl ?_
          refine zwic_eq (q := 37) (nx := 28) (by decide +kernel) (fun c9 => ?_) (fun c9 => ?_)
          · refine zwW_p [(1, 0, 2)] (q := 38) (ls' := [(2, 9), (0, a), (0, v2L5), (0, v3L5), w4L5]) (st' := [(2, 9)]) (by decide +kernel) rfl ?_
            refine zwW_gs ChL5.1 (kd := 7) (bn := 4) (n := 9) (t := 0) (lo := -2147483648) (hi := 2147483647) (nx := 41) (by decide +kernel) ?_
            intro v10 ev10 lv10 uv10
            have kv10 : v10 = pK t n qL.1 := ev10.trans (QL).kd
            refine zwW_p [(2, 4, 0), (1, 0, 2)] (q := 44) (ls' := [(2, 9), (0, a), (0, v2L5), (0, v3L5), (0, v10)]) (st' := [(2, 9)]) (by decide +kernel) rfl ?_
            refine zwW_cm ChL5.1 (op := 60) (k' := 198) (n := 0) (kd := 7) (m := 9) (nx := 47) (r := 9) (tl := []) (st' := []) (by decide +kernel) rfl (by decide +kernel) (Nat.ble_eq_true_of_le (by omega)) (x198_q hL5 ChL5 t n qL iL5_0 QL (WL).2) ?_
            rintro x h12 ⟨Ch12, Qh12, rfl, f11⟩
            have Xh12 : zXR msxK (0) (0) h h12 := XhL5.tr (c2 := 0) (s2 := 0) Qh12 (by decide +kernel) (by decide) (by decide)
            have th12_9_6 : fld h12 9 6 = fld hL5 9 6 := Qh12.f (a1 := 9) (a2 := 9) (j1 := 6) (j2 := 7) (by decide +kernel) ⟨by decide, by decide⟩ ⟨by decide, by decide⟩ ⟨by decide, by decide⟩
            have Bh12 : rB t n h12 := iL5_0.fr Qh12 (by decide +kernel)
            have Vh12 : rV n (pA t n qL) := (WL).a (by omega)
            refine zwW_p [(15, 0, 0), (1, 0, 2), (1, 1, 0)] (q := 50) (ls' := [(2, 9), (0, a), (0, v2L5), (0, v3L5), (0, v10)]) (st' := [(0, a), (2, 9)]) (by decide +kernel) rfl ?_
            refine zwW_cm Ch12.1 (op := 60) (k' := 262) (n := 1) (kd := 7) (m := 9) (nx := 53) (r := 9) (tl := [(0, a)]) (st' := []) (by decide +kernel) rfl (by decide +kernel) (Nat.ble_eq_true_of_le (by omega)) (x262_q a D0 pa o sub ho hs HS h12 Ch12 t n (pA t n qL) Bh12 f11 Vh12.wk) ?_
            rintro v15 h16 ⟨Ch16, Qh16, f13, f14⟩
            have Xh16 : zXR msxK (0) (0) h h16 := Xh12.tr (c2 := 0) (s2 := 0) Qh16 (by decide +kernel) (by decide) (by decide)
            have Bh16 : rB t n h16 := Bh12.fr Qh16 (by decide +kernel)
            have S50 := f14
            have Vh16 : rV n ((pPro t n (pFac t n o (sub t n))) (pA t n qL)).2 := (Vh12).fn (pG_pro (pG_fac (hs t n)))
            refine zwif_eq (q := 70) (nx := 56) (by decide +kernel) (fun c17 => ?_) (fun c17 => ?_)
            · refine zwW_p [(0, 0, 0), (2, 2, 0)] (q := 72) (ls' := [(2, 9), (0, a), (0, 0), (0, v3L5), (0, v10)]) (st' := []) (by decide +kernel) rfl ?_
              have LB : rL t n h16 0 (400 - (v3L5 + 1).toNat) (pLp t n 43 45 (pPro t n (pFac t n o (sub t n)))) (pSm0 t n (pFac t n o (sub t n)) s) := by
                first
                | exact rL_t S50.1 Vh16.wk ((x_one OL (by omega)).trans (pLp_n (k := 400 - (v3L5 + 1).toNat) (by omega) (by omega) (S50.b1 (by omega)) (by omega)))
                | exact rL_f S50.1 Vh16.wk ((x_one OL (by omega)).trans (pLp_f (k := 400 - (v3L5 + 1).toNat) (by omega) (by omega) (S50.b0 (by omega))))
              refine zwW_inc (i := 3) (c := 1) (x := v3L5) (nx := 75) (by decide +kernel) rfl ⟨by omega, by omega⟩ (ls' := [(2, 9), (0, a), (0, 0), (0, (v3L5 + 1)), (0, v10)]) rfl ?_
              refine zwW_p [(24, 8, 0)] (q := 8) (ls' := [(2, 9), (0, a), (0, 0), (0, (v3L5 + 1)), (0, v10)]) (st' := []) (by decide +kernel) rfl ?_
              exact IHL5 ((1000 - (v3L5 + 1))).toNat (by omega) 0 (v3L5 + 1) (0, v10) h16 rfl (Bh16) (LB) (by omega) (by omega) Ch16 (Xh16.le (by decide) (by decide))
            · refine zwW_p [(1, 0, 2), (1, 4, 0)] (q := 59) (ls' := [(2, 9), (0, a), (0, v2L5), (0, v3L5), (0, v10)]) (st' := [(0, v10), (2, 9)]) (by decide +kernel) rfl ?_
              refine zwW_neg (nx := 60) (by decide +kernel) ⟨by omega, by omega⟩ ?_
              refine zwW_cm Ch16.1 (op := 60) (k' := 243) (n := 1) (kd := 7) (m := 9) (nx := 63) (r := 9) (tl := [(0, (-v10))]) (st' := []) (by decide +kernel) rfl (by decide +kernel) (Nat.ble_eq_true_of_le (by omega)) (x243_q h16 Ch16 (-v10) t n (pPro t n (pFac t n o (sub t n)) (pA t n qL)).2 (by omega) S50.1 (Vh16.lt Bh16 S50.1)) ?_
              rintro x h19 ⟨Ch19, Qh19, rfl, f18⟩
              have Xh19 : zXR msxK (0) (0) h h19 := Xh16.tr (c2 := 0) (s2 := 0) Qh19 (by decide +kernel) (by decide) (by decide)
              have Bh19 : rB t n h19 := Bh16.fr Qh19 (by decide +kernel)
              refine zwif_eq (q := 70) (nx := 66) (by decide +kernel) (fun c20 => ?_) (fun c20 => ?_)
              · exfalso; omega
              · refine zwW_p [(0, 1, 0), (24, 71, 0), (2, 2, 0)] (q := 72) (ls' := [(2, 9), (0, a), (0, 1), (0, v3L5), (0, v10)]) (st' := []) (by decide +kernel) rfl ?_
                have LB : rL t n h19 1 (400 - (v3L5 + 1).toNat) (pLp t n 43 45 (pPro t n (pFac t n o (sub t n)))) (pSm0 t n (pFac t n o (sub t n)) s) := by
                  first
                  | exact rL_t f18 (Vh16).pw ((x_one OL (by omega)).trans (pLp_n (k := 400 - (v3L5 + 1).toNat) (by omega) (by omega) (S50.b1 (by omega)) (by omega)))
                  | exact rL_f S50.1 (Vh16).pw ((x_one OL (by omega)).trans (pLp_f (k := 400 - (v3L5 + 1).toNat) (by omega) (by omega) (S50.b0 (by omega))))
                refine zwW_inc (i := 3) (c := 1) (x := v3L5) (nx := 75) (by decide +kernel) rfl ⟨by omega, by omega⟩ (ls' := [(2, 9), (0, a), (0, 1), (0, (v3L5 + 1)), (0, v10)]) rfl ?_
                refine zwW_p [(24, 8, 0)] (q := 8) (ls' := [(2, 9), (0, a), (0, 1), (0, (v3L5 + 1)), (0, v10)]) (st' := []) (by decide +kernel) rfl ?_
                exact IHL5 ((1000 - (v3L5 + 1))).toNat (by omega) 1 (v3L5 + 1) (0, v10) h19 rfl (Bh19) (LB) (by omega) (by omega) Ch19 (Xh19.le (by decide) (by decide))
          · refine zwW_p [(1, 0, 2)] (q := 29) (ls' := [(2, 9), (0, a), (0, v2L5), (0, v3L5), w4L5]) (st' := [(2, 9)]) (by decide +kernel) rfl ?_
            refine zwW_gs ChL5.1 (kd := 7) (bn := 4) (n := 9) (t := 0) (lo := -2147483648) (hi := 2147483647) (nx := 32) (by decide +kernel) ?_
            intro v21 ev21 lv21 uv21
            have kv21 : v21 = pK t n qL.1 := ev21.trans (QL).kd
            refine zwW_p [(0, 45, 0)] (q := 34) (ls' := [(2, 9), (0, a), (0, v2L5), (0, v3L5), w4L5]) (st' := [(0, 45), (0, v21)]) (by decide +kernel) rfl ?_
            refine zwic_ne (q := 78) (nx := 37) (by decide +kernel) (fun c22 => ?_) (fun c22 => ?_)
            · refine zwW_p [(1, 2, 0)] (q := 79) (ls' := [(2, 9), (0, a), (0, v2L5), (0, v3L5), w4L5]) (st' := [(0, v2L5)]) (by decide +kernel) rfl ?_
              refine zwW_ret (nx := 80) (a := 1) (b := 0) (by decide +kernel) rfl (Or.inr (Or.inl ⟨rfl, by omega⟩)) ?_
              refine ⟨ChL5, XhL5.le (by decide) (by decide), by omega, ?_⟩
              show rR t n hL5 v2L5 (pSm0 t n (pFac t n o (sub t n)) s)
              first
              | (exact rL_x QL OL (Or.inr (pLp_z (Or.inl (by omega)))))
              | (exact rL_x QL OL (Or.inl (by omega)))
              | (exact rL_x QL OL (Or.inr (pLp_z (Or.inr (by omega)))))
              | (exfalso; omega)
            · refine zwW_p [(1, 0, 2)] (q := 38) (ls' := [(2, 9), (0, a), (0, v2L5), (0, v3L5), w4L5]) (st' := [(2, 9)]) (by decide +kernel) rfl ?_
              refine zwW_gs ChL5.1 (kd := 7) (bn := 4) (n := 9) (t := 0) (lo := -2147483648) (hi := 2147483647) (nx := 41) (by decide +kernel) ?_
              intro v23 ev23 lv23 uv23
              have kv23 : v23 = pK t n qL.1 := ev23.trans (QL).kd
              refine zwW_p [(2, 4, 0), (1, 0, 2)] (q := 44) (ls' := [(2, 9), (0, a), (0, v2L5), (0, v3L5), (0, v23)]) (st' := [(2, 9)]) (by decide +kernel) rfl ?_
              refine zwW_cm ChL5.1 (op := 60) (k' := 198) (n := 0) (kd := 7) (m := 9) (nx := 47) (r := 9) (tl := []) (st' := []) (by decide +kernel) rfl (by decide +kernel) (Nat.ble_eq_true_of_le (by omega)) (x198_q hL5 ChL5 t n qL iL5_0 QL (WL).2) ?_
              rintro x h25 ⟨Ch25, Qh25, rfl, f24⟩
              have Xh25 : zXR msxK (0) (0) h h25 := XhL5.tr (c2 := 0) (s2 := 0) Qh25 (by decide +kernel) (by decide) (by decide)
              have th25_9_6 : fld h25 9 6 = fld hL5 9 6 := Qh25.f (a1 := 9) (a2 := 9) (j1 := 6) (j2 := 7) (by decide +kernel) ⟨by decide, by decide⟩ ⟨by decide, by decide⟩ ⟨by decide, by decide⟩
              have Bh25 : rB t n h25 := iL5_0.fr Qh25 (by decide +kernel)
              have Vh25 : rV n (pA t n qL) := (WL).a (by omega)
              refine zwW_p [(15, 0, 0), (1, 0, 2), (1, 1, 0)] (q := 50) (ls' := [(2, 9), (0, a), (0, v2L5), (0, v3L5), (0, v23)]) (st' := [(0, a), (2, 9)]) (by decide +kernel) rfl ?_
              refine zwW_cm Ch25.1 (op := 60) (k' := 262) (n := 1) (kd := 7) (m := 9) (nx := 53) (r := 9) (tl := [(0, a)]) (st' := []) (by decide +kernel) rfl (by decide +kernel) (Nat.ble_eq_true_of_le (by omega)) (x262_q a D0 pa o sub ho hs HS h25 Ch25 t n (pA t n qL) Bh25 f24 Vh25.wk) ?_
              rintro v28 h29 ⟨Ch29, Qh29, f26, f27⟩
              have Xh29 : zXR msxK (0) (0) h h29 := Xh25.tr (c2 := 0) (s2 := 0) Qh29 (by decide +kernel) (by decide) (by decide)
              have Bh29 : rB t n h29 := Bh25.fr Qh29 (by decide +kernel)
              have S50 := f27
              have Vh29 : rV n ((pPro t n (pFac t n o (sub t n))) (pA t n qL)).2 := (Vh25).fn (pG_pro (pG_fac (hs t n)))
              refine zwif_eq (q := 70) (nx := 56) (by decide +kernel) (fun c30 => ?_) (fun c30 => ?_)
              · refine zwW_p [(0, 0, 0), (2, 2, 0)] (q := 72) (ls' := [(2, 9), (0, a), (0, 0), (0, v3L5), (0, v23)]) (st' := []) (by decide +kernel) rfl ?_
                have LB : rL t n h29 0 (400 - (v3L5 + 1).toNat) (pLp t n 43 45 (pPro t n (pFac t n o (sub t n)))) (pSm0 t n (pFac t n o (sub t n)) s) := by
                  first
                  | exact rL_t S50.1 Vh29.wk ((x_one OL (by omega)).trans (pLp_n (k := 400 - (v3L5 + 1).toNat) (by omega) (by omega) (S50.b1 (by omega)) (by omega)))
                  | exact rL_f S50.1 Vh29.wk ((x_one OL (by omega)).trans (pLp_f (k := 400 - (v3L5 + 1).toNat) (by omega) (by omega) (S50.b0 (by omega))))
                refine zwW_inc (i := 3) (c := 1) (x := v3L5) (nx := 75) (by decide +kernel) rfl ⟨by omega, by omega⟩ (ls' := [(2, 9), (0, a), (0, 0), (0, (v3L5 + 1)), (0, v23)]) rfl ?_
                refine zwW_p [(24, 8, 0)] (q := 8) (ls' := [(2, 9), (0, a), (0, 0), (0, (v3L5 + 1)), (0, v23)]) (st' := []) (by decide +kernel) rfl ?_
                exact IHL5 ((1000 - (v3L5 + 1))).toNat (by omega) 0 (v3L5 + 1) (0, v23) h29 rfl (Bh29) (LB) (by omega) (by omega) Ch29 (Xh29.le (by decide) (by decide))
              · refine zwW_p [(1, 0, 2), (1, 4, 0)] (q := 59) (ls' := [(2, 9), (0, a), (0, v2L5), (0, v3L5), (0, v23)]) (st' := [(0, v23), (2, 9)]) (by decide +kernel) rfl ?_
                refine zwW_neg (nx := 60) (by decide +kernel) ⟨by omega, by omega⟩ ?_
                refine zwW_cm Ch29.1 (op := 60) (k' := 243) (n := 1) (kd := 7) (m := 9) (nx := 63) (r := 9) (tl := [(0, (-v23))]) (st' := []) (by decide +kernel) rfl (by decide +kernel) (Nat.ble_eq_true_of_le (by omega)) (x243_q h29 Ch29 (-v23) t n (pPro t n (pFac t n o (sub t n)) (pA t n qL)).2 (by omega) S50.1 (Vh29.lt Bh29 S50.1)) ?_
                rintro x h32 ⟨Ch32, Qh32, rfl, f31⟩
                have Xh32 : zXR msxK (0) (0) h h32 := Xh29.tr (c2 := 0) (s2 := 0) Qh32 (by decide +kernel) (by decide) (by decide)
                have Bh32 : rB t n h32 := Bh29.fr Qh32 (by decide +kernel)
                refine zwif_eq (q := 70) (nx := 66) (by decide +kernel) (fun c33 => ?_) (fun c33 => ?_)
                · exfalso; omega
                · refine zwW_p [(0, 1, 0), (24, 71, 0), (2, 2, 0)] (q := 72) (ls' := [(2, 9), (0, a), (0, 1), (0, v3L5), (0, v23)]) (st' := []) (by decide +kernel) rfl ?_
                  have LB : rL t n h32 1 (400 - (v3L5 + 1).toNat) (pLp t n 43 45 (pPro t n (pFac t n o (sub t n)))) (pSm0 t n (pFac t n o (sub t n)) s) := by
                    first
                    | exact rL_t f31 (Vh29).pw ((x_one OL (by omega)).trans (pLp_n (k := 400 - (v3L5 + 1).toNat) (by omega) (by omega) (S50.b1 (by omega)) (by omega)))
                    | exact rL_f S50.1 (Vh29).pw ((x_one OL (by omega)).trans (pLp_f (k := 400 - (v3L5 + 1).toNat) (by omega) (by omega) (S50.b0 (by omega))))
                  refine zwW_inc (i := 3) (c := 1) (x := v3L5) (nx := 75) (by decide +kernel) rfl ⟨by omega, by omega⟩ (ls' := [(2, 9), (0, a), (0, 1), (0, (v3L5 + 1)), (0, v23)]) rfl ?_
                  refine zwW_p [(24, 8, 0)] (q := 8) (ls' := [(2, 9), (0, a), (0, 1), (0, (v3L5 + 1)), (0, v23)]) (st' := []) (by decide +kernel) rfl ?_
                  exact IHL5 ((1000 - (v3L5 + 1))).toNat (by omega) 1 (v3L5 + 1) (0, v23) h32 rfl (Bh32) (LB) (by omega) (by omega) Ch32 (Xh32.le (by decide) (by decide))
  exact L5 _ v3 0 (9, 0) h4 rfl (Bh4) (rL_0 S2 Wh4) (by omega) (by omega) Ch4 (Xh4.le (by decide) (by decide))
-- WheelLand$Reader.holds(I)Z
theorem x281_q {sc : List Int} (a : Int) (D0 : Nat) (pa : 0 ≤ a ∧ a ≤ 8) (o : Bool) (sub : pT → Nat → pQ → pR) (ho : (a < 8 ∧ o = true) ∨ (8 ≤ a ∧ o = false)) (hs : ∀ (t : pT) (n : Nat), pG n (sub t n)) (HS : a < 8 → rX sc D0 241 (a + 1) sub) (hol eit : pT → Nat → pQ → pR) (hh : ∀ (t : pT) (n : Nat), pG n (hol t n)) (he : ∀ (t : pT) (n : Nat), pG n (eit t n)) (HT : a < 8 → rX sc D0 281 (a + 1) hol) (HE : a < 8 → rX sc D0 242 (a + 1) eit) : rX sc (D0 + 23) 281 a (fun t n => pHol t n o (hol t n) (eit t n) (pSm0 t n (pFac t n o (sub t n)))) := by
  intro h C t n s B Q0 W0
  refine zwC_of (D := D0 + 22) 3 (by decide +kernel) rfl (ls := [(2, 9), (0, a), (9, 0)]) rfl ?_
  have X : zXR msxK 0 0 h h := zXR.rf _ _
  refine zwW_p [(1, 0, 2), (0, 20, 0)] (q := 3) (ls' := [(2, 9), (0, a), (9, 0)]) (st' := [(0, 20), (2, 9)]) (by decide +kernel) rfl ?_
  refine zwW_cm C.1 (op := 60) (k' := 264) (n := 1) (kd := 7) (m := 9) (nx := 6) (r := 9) (tl := [(0, 20)]) (st' := []) (by decide +kernel) rfl (by decide +kernel) (Nat.ble_eq_true_of_le (by omega)) (x264_p h C 20 t n s.1 (by omega) Q0.1) ?_
  rintro x _ ⟨rfl, ⟨rfl, c1⟩ | ⟨rfl, c1⟩⟩
  · refine zwif_eq (q := 47) (nx := 9) (by decide +kernel) (fun c2 => ?_) (fun c2 => ?_)
    · exfalso; omega
    · refine zwW_p [(1, 1, 0), (0, 8, 0)] (q := 12) (ls' := [(2, 9), (0, a), (9, 0)]) (st' := [(0, 8), (0, a)]) (by decide +kernel) rfl ?_
      refine zwic_ge (q := 45) (nx := 15) (by decide +kernel) (fun c3 => ?_) (fun c3 => ?_)
      · refine zwW_p [(0, 0, 0)] (q := 46) (ls' := [(2, 9), (0, a), (9, 0)]) (st' := [(0, 0)]) (by decide +kernel) rfl ?_
        refine zwW_ret (nx := 47) (a := 1) (b := 0) (by decide +kernel) rfl (Or.inr (Or.inl ⟨rfl, by omega⟩)) ?_
        refine ⟨C, X.le (by decide) (by decide), by omega, ?_⟩
        show rR t n h 0 (pHol t n o (hol t n) (eit t n) (pSm0 t n (pFac t n o (sub t n))) s)
        first
        | (rw [pHol_n1 c1.1 c1.2 (ho.resolve_right (fun z => by omega)).2 (S26.b1 (by omega))]; exact rR_t Q0)
        | (rw [pHol_n0 c1.1 c1.2 (ho.resolve_right (fun z => by omega)).2 (S26.b0 (by omega))]; exact S26.ze (by omega))
        | (rw [pHol_nd c1.1 c1.2 (fun z1 => by have y := ho.resolve_left (fun y => by omega); rw [z1] at y; cases y.2)]; exact rR_f Q0)
        | (rw [pHol_b1 (by omega) (ho.resolve_right (fun z => by omega)).2 (S73.b1 (by omega)) (by omega)]; exact rR_t Q0)
        | (rw [pHol_bn (by omega) (ho.resolve_right (fun z => by omega)).2 (S73.b1 (by omega)) (by omega)]; exact rR_f Q0)
        | (rw [pHol_b0 (by omega) (ho.resolve_right (fun z => by omega)).2 (S73.b0 (by omega))]; exact S73.ze (by omega))
        | (rw [pHol_bd (by omega) (fun z1 => by have y := ho.resolve_left (fun y => by omega); rw [z1] at y; cases y.2)]; exact rR_f Q0)
        | (rw [pHol_s0 c1 (by omega) (S103.b0 (by omega))]; exact S103.ze (by omega))
        | (rw [pHol_sn c1 (by omega) (S103.b1 (by omega)) (by omega)]; exact rR_f Q0)
        | (rw [pHol_s1 c1 (by omega) (S103.b1 (by omega)) (by omega) (S145.b1 (by omega)), ← kz]; exact rR_t Q0)
        | (rw [pHol_s2 c1 (by omega) (S103.b1 (by omega)) (by omega) (S145.b0 (by omega))]; exact S145.ze (by omega))
        | (exfalso; omega)
      · refine zwW_p [(1, 0, 2)] (q := 16) (ls' := [(2, 9), (0, a), (9, 0)]) (st' := [(2, 9)]) (by decide +kernel) rfl ?_
        refine zwW_cm C.1 (op := 60) (k' := 198) (n := 0) (kd := 7) (m := 9) (nx := 19) (r := 9) (tl := []) (st' := []) (by decide +kernel) rfl (by decide +kernel) (Nat.ble_eq_true_of_le (by omega)) (x198_q h C t n s B Q0 (W0).2) ?_
        rintro x h5 ⟨Ch5, Qh5, rfl, f4⟩
        have Xh5 : zXR msxK (0) (0) h h5 := X.tr (c2 := 0) (s2 := 0) Qh5 (by decide +kernel) (by decide) (by decide)
        have th5_9_6 : fld h5 9 6 = fld h 9 6 := Qh5.f (a1 := 9) (a2 := 9) (j1 := 6) (j2 := 7) (by decide +kernel) ⟨by decide, by decide⟩ ⟨by decide, by decide⟩ ⟨by decide, by decide⟩
        have Bh5 : rB t n h5 := B.fr Qh5 (by decide +kernel)
        have Vh5 : rV n (pA t n s) := (W0).a (by omega)
        refine zwif_eq (q := 45) (nx := 22) (by decide +kernel) (fun c6 => ?_) (fun c6 => ?_)
        · exfalso; omega
        · refine zwW_p [(1, 0, 2), (1, 1, 0), (0, 1, 0)] (q := 25) (ls' := [(2, 9), (0, a), (9, 0)]) (st' := [(0, 1), (0, a), (2, 9)]) (by decide +kernel) rfl ?_
          refine zwW_add (nx := 26) (by decide +kernel) ⟨by omega, by omega⟩ ?_
          refine zwW_cm Ch5.1 (op := 60) (k' := 281) (n := 1) (kd := 7) (m := 9) (nx := 29) (r := 9) (tl := [(0, (a + 1))]) (st' := []) (by decide +kernel) rfl (by decide +kernel) (Nat.ble_eq_true_of_le (by omega)) (HT (by omega) h5 Ch5 t n (pA t n s) Bh5 f4 Vh5.wk) ?_
          rintro v9 h10 ⟨Ch10, Qh10, f7, f8⟩
          have Xh10 : zXR msxK (0) (0) h h10 := Xh5.tr (c2 := 0) (s2 := 0) Qh10 (by decide +kernel) (by decide) (by decide)
          have Bh10 : rB t n h10 := Bh5.fr Qh10 (by decide +kernel)
          have S26 := f8
          have Vh10 : rV n ((hol t n) (pA t n s)).2 := (Vh5).fn (hh t n)
          refine zwif_eq (q := 45) (nx := 32) (by decide +kernel) (fun c11 => ?_) (fun c11 => ?_)
          · refine zwW_p [(0, 0, 0)] (q := 46) (ls' := [(2, 9), (0, a), (9, 0)]) (st' := [(0, 0)]) (by decide +kernel) rfl ?_
            refine zwW_ret (nx := 47) (a := 1) (b := 0) (by decide +kernel) rfl (Or.inr (Or.inl ⟨rfl, by omega⟩)) ?_
            refine ⟨Ch10, Xh10.le (by decide) (by decide), by omega, ?_⟩
            show rR t n h10 0 (pHol t n o (hol t n) (eit t n) (pSm0 t n (pFac t n o (sub t n))) s)
            first
            | (rw [pHol_n1 c1.1 c1.2 (ho.resolve_right (fun z => by omega)).2 (S26.b1 (by omega))]; exact rR_t S26.1)
            | (rw [pHol_n0 c1.1 c1.2 (ho.resolve_right (fun z => by omega)).2 (S26.b0 (by omega))]; exact S26.ze (by omega))
            | (rw [pHol_nd c1.1 c1.2 (fun z1 => by have y := ho.resolve_left (fun y => by omega); rw [z1] at y; cases y.2)]; exact rR_f S26.1)
            | (rw [pHol_b1 (by omega) (ho.resolve_right (fun z => by omega)).2 (S73.b1 (by omega)) (by omega)]; exact rR_t S26.1)
            | (rw [pHol_bn (by omega) (ho.resolve_right (fun z => by omega)).2 (S73.b1 (by omega)) (by omega)]; exact rR_f S26.1)
            | (rw [pHol_b0 (by omega) (ho.resolve_right (fun z => by omega)).2 (S73.b0 (by omega))]; exact S73.ze (by omega))
            | (rw [pHol_bd (by omega) (fun z1 => by have y := ho.resolve_left (fun y => by omega); rw [z1] at y; cases y.2)]; exact rR_f S26.1)
            | (rw [pHol_s0 c1 (by omega) (S103.b0 (by omega))]; exact S103.ze (by omega))
            | (rw [pHol_sn c1 (by omega) (S103.b1 (by omega)) (by omega)]; exact rR_f S26.1)
            | (rw [pHol_s1 c1 (by omega) (S103.b1 (by omega)) (by omega) (S145.b1 (by omega)), ← kz]; exact rR_t S26.1)
            | (rw [pHol_s2 c1 (by omega) (S103.b1 (by omega)) (by omega) (S145.b0 (by omega))]; exact S145.ze (by omega))
            | (exfalso; omega)
          · refine zwW_p [(1, 0, 2), (0, -20, 0)] (q := 35) (ls' := [(2, 9), (0, a), (9, 0)]) (st' := [(0, -20), (2, 9)]) (by decide +kernel) rfl ?_
            refine zwW_cm Ch10.1 (op := 60) (k' := 243) (n := 1) (kd := 7) (m := 9) (nx := 38) (r := 9) (tl := [(0, -20)]) (st' := []) (by decide +kernel) rfl (by decide +kernel) (Nat.ble_eq_true_of_le (by omega)) (x243_q h10 Ch10 (-20) t n (hol t n (pA t n s)).2 (by omega) S26.1 (Vh10.lt Bh10 S26.1)) ?_
            rintro x h13 ⟨Ch13, Qh13, rfl, f12⟩
            have Xh13 : zXR msxK (0) (0) h h13 := Xh10.tr (c2 := 0) (s2 := 0) Qh13 (by decide +kernel) (by decide) (by decide)
            have Bh13 : rB t n h13 := Bh10.fr Qh13 (by decide +kernel)
            refine zwif_eq (q := 45) (nx := 41) (by decide +kernel) (fun c14 => ?_) (fun c14 => ?_)
            · exfalso; omega
            · refine zwW_p [(0, 1, 0), (24, 46, 0)] (q := 46) (ls' := [(2, 9), (0, a), (9, 0)]) (st' := [(0, 1)]) (by decide +kernel) rfl ?_
              refine zwW_ret (nx := 47) (a := 1) (b := 0) (by decide +kernel) rfl (Or.inr (Or.inl ⟨rfl, by omega⟩)) ?_
              refine ⟨Ch13, Xh13.le (by decide) (by decide), by omega, ?_⟩
              show rR t n h13 1 (pHol t n o (hol t n) (eit t n) (pSm0 t n (pFac t n o (sub t n))) s)
              first
              | (rw [pHol_n1 c1.1 c1.2 (ho.resolve_right (fun z => by omega)).2 (S26.b1 (by omega))]; exact rR_t f12)
              | (rw [pHol_n0 c1.1 c1.2 (ho.resolve_right (fun z => by omega)).2 (S26.b0 (by omega))]; exact S26.ze (by omega))
              | (rw [pHol_nd c1.1 c1.2 (fun z1 => by have y := ho.resolve_left (fun y => by omega); rw [z1] at y; cases y.2)]; exact rR_f f12)
              | (rw [pHol_b1 (by omega) (ho.resolve_right (fun z => by omega)).2 (S73.b1 (by omega)) (by omega)]; exact rR_t f12)
              | (rw [pHol_bn (by omega) (ho.resolve_right (fun z => by omega)).2 (S73.b1 (by omega)) (by omega)]; exact rR_f f12)
              | (rw [pHol_b0 (by omega) (ho.resolve_right (fun z => by omega)).2 (S73.b0 (by omega))]; exact S73.ze (by omega))
              | (rw [pHol_bd (by omega) (fun z1 => by have y := ho.resolve_left (fun y => by omega); rw [z1] at y; cases y.2)]; exact rR_f f12)
              | (rw [pHol_s0 c1 (by omega) (S103.b0 (by omega))]; exact S103.ze (by omega))
              | (rw [pHol_sn c1 (by omega) (S103.b1 (by omega)) (by omega)]; exact rR_f f12)
              | (rw [pHol_s1 c1 (by omega) (S103.b1 (by omega)) (by omega) (S145.b1 (by omega)), ← kz]; exact rR_t f12)
              | (rw [pHol_s2 c1 (by omega) (S103.b1 (by omega)) (by omega) (S145.b0 (by omega))]; exact S145.ze (by omega))
              | (exfalso; omega)
  · refine zwif_eq (q := 47) (nx := 9) (by decide +kernel) (fun c15 => ?_) (fun c15 => ?_)
    · refine zwW_p [(1, 0, 2)] (q := 48) (ls' := [(2, 9), (0, a), (9, 0)]) (st' := [(2, 9)]) (by decide +kernel) rfl ?_
      refine zwW_gs C.1 (kd := 7) (bn := 4) (n := 9) (t := 0) (lo := -2147483648) (hi := 2147483647) (nx := 51) (by decide +kernel) ?_
      intro v16 ev16 lv16 uv16
      have kv16 : v16 = pK t n s.1 := ev16.trans (Q0).kd
      refine zwW_p [(0, 91, 0)] (q := 53) (ls' := [(2, 9), (0, a), (9, 0)]) (st' := [(0, 91), (0, v16)]) (by decide +kernel) rfl ?_
      refine zwic_ne (q := 101) (nx := 56) (by decide +kernel) (fun c17 => ?_) (fun c17 => ?_)
      · refine zwW_p [(1, 0, 2), (1, 1, 0)] (q := 103) (ls' := [(2, 9), (0, a), (9, 0)]) (st' := [(0, a), (2, 9)]) (by decide +kernel) rfl ?_
        refine zwW_cm C.1 (op := 60) (k' := 241) (n := 1) (kd := 7) (m := 9) (nx := 106) (r := 9) (tl := [(0, a)]) (st' := []) (by decide +kernel) rfl (by decide +kernel) (Nat.ble_eq_true_of_le (by omega)) (x241_q a D0 pa o sub ho hs HS h C t n s B Q0 W0) ?_
        rintro v20 h21 ⟨Ch21, Qh21, f18, f19⟩
        have Xh21 : zXR msxK (0) (0) h h21 := X.tr (c2 := 0) (s2 := 0) Qh21 (by decide +kernel) (by decide) (by decide)
        have Bh21 : rB t n h21 := B.fr Qh21 (by decide +kernel)
        have S103 := f19
        have Wh21 : rW n ((pSm0 t n (pFac t n o (sub t n))) s).2 := (W0).fn (pG_sm0 (pG_fac (hs t n)))
        refine zwif_ne (q := 111) (nx := 109) (by decide +kernel) (fun c22 => ?_) (fun c22 => ?_)
        · refine zwW_p [(1, 0, 2)] (q := 112) (ls' := [(2, 9), (0, a), (9, 0)]) (st' := [(2, 9)]) (by decide +kernel) rfl ?_
          refine zwW_gs Ch21.1 (kd := 7) (bn := 4) (n := 9) (t := 0) (lo := -2147483648) (hi := 2147483647) (nx := 115) (by decide +kernel) ?_
          intro v23 ev23 lv23 uv23
          have kv23 : v23 = pK t n (pSm0 t n (pFac t n o (sub t n)) s).2.1 := ev23.trans (S103.1).kd
          refine zwW_p [(2, 2, 0), (1, 2, 0), (0, 60, 0)] (q := 119) (ls' := [(2, 9), (0, a), (0, v23)]) (st' := [(0, 60), (0, v23)]) (by decide +kernel) rfl ?_
          refine zwic_eq (q := 136) (nx := 122) (by decide +kernel) (fun c24 => ?_) (fun c24 => ?_)
          · refine zwW_p [(1, 0, 2)] (q := 137) (ls' := [(2, 9), (0, a), (0, v23)]) (st' := [(2, 9)]) (by decide +kernel) rfl ?_
            refine zwW_cm Ch21.1 (op := 60) (k' := 198) (n := 0) (kd := 7) (m := 9) (nx := 140) (r := 9) (tl := []) (st' := []) (by decide +kernel) rfl (by decide +kernel) (Nat.ble_eq_true_of_le (by omega)) (x198_q h21 Ch21 t n (pSm0 t n (pFac t n o (sub t n)) s).2 Bh21 S103.1 (Wh21).2) ?_
            rintro x h26 ⟨Ch26, Qh26, rfl, f25⟩
            have Xh26 : zXR msxK (0) (0) h h26 := Xh21.tr (c2 := 0) (s2 := 0) Qh26 (by decide +kernel) (by decide) (by decide)
            have th26_9_6 : fld h26 9 6 = fld h21 9 6 := Qh26.f (a1 := 9) (a2 := 9) (j1 := 6) (j2 := 7) (by decide +kernel) ⟨by decide, by decide⟩ ⟨by decide, by decide⟩ ⟨by decide, by decide⟩
            have Bh26 : rB t n h26 := Bh21.fr Qh26 (by decide +kernel)
            have Vh26 : rV n (pA t n ((pSm0 t n (pFac t n o (sub t n)) s).2)) := (Wh21).a (by omega)
            refine zwif_eq (q := 164) (nx := 143) (by decide +kernel) (fun c27 => ?_) (fun c27 => ?_)
            · exfalso; omega
            · refine zwW_p [(1, 0, 2), (1, 1, 0)] (q := 145) (ls' := [(2, 9), (0, a), (0, v23)]) (st' := [(0, a), (2, 9)]) (by decide +kernel) rfl ?_
              refine zwW_cm Ch26.1 (op := 60) (k' := 241) (n := 1) (kd := 7) (m := 9) (nx := 148) (r := 9) (tl := [(0, a)]) (st' := []) (by decide +kernel) rfl (by decide +kernel) (Nat.ble_eq_true_of_le (by omega)) (x241_q a D0 pa o sub ho hs HS h26 Ch26 t n (pA t n ((pSm0 t n (pFac t n o (sub t n)) s).2)) Bh26 f25 Vh26.wk) ?_
              rintro v30 h31 ⟨Ch31, Qh31, f28, f29⟩
              have Xh31 : zXR msxK (0) (0) h h31 := Xh26.tr (c2 := 0) (s2 := 0) Qh31 (by decide +kernel) (by decide) (by decide)
              have Bh31 : rB t n h31 := Bh26.fr Qh31 (by decide +kernel)
              have S145 := f29
              have Vh31 : rV n ((pSm0 t n (pFac t n o (sub t n))) (pA t n ((pSm0 t n (pFac t n o (sub t n)) s).2))).2 := (Vh26).fn (pG_sm0 (pG_fac (hs t n)))
              refine zwif_eq (q := 164) (nx := 151) (by decide +kernel) (fun c32 => ?_) (fun c32 => ?_)
              · refine zwW_p [(0, 0, 0)] (q := 165) (ls' := [(2, 9), (0, a), (0, v23)]) (st' := [(0, 0)]) (by decide +kernel) rfl ?_
                refine zwW_ret (nx := 166) (a := 1) (b := 0) (by decide +kernel) rfl (Or.inr (Or.inl ⟨rfl, by omega⟩)) ?_
                refine ⟨Ch31, Xh31.le (by decide) (by decide), by omega, ?_⟩
                show rR t n h31 0 (pHol t n o (hol t n) (eit t n) (pSm0 t n (pFac t n o (sub t n))) s)
                first
                | (rw [pHol_n1 c1.1 c1.2 (ho.resolve_right (fun z => by omega)).2 (S26.b1 (by omega))]; exact rR_t S145.1)
                | (rw [pHol_n0 c1.1 c1.2 (ho.resolve_right (fun z => by omega)).2 (S26.b0 (by omega))]; exact S26.ze (by omega))
                | (rw [pHol_nd c1.1 c1.2 (fun z1 => by have y := ho.resolve_left (fun y => by omega); rw [z1] at y; cases y.2)]; exact rR_f S145.1)
                | (rw [pHol_b1 (by omega) (ho.resolve_right (fun z => by omega)).2 (S73.b1 (by omega)) (by omega)]; exact rR_t S145.1)
                | (rw [pHol_bn (by omega) (ho.resolve_right (fun z => by omega)).2 (S73.b1 (by omega)) (by omega)]; exact rR_f S145.1)
                | (rw [pHol_b0 (by omega) (ho.resolve_right (fun z => by omega)).2 (S73.b0 (by omega))]; exact S73.ze (by omega))
                | (rw [pHol_bd (by omega) (fun z1 => by have y := ho.resolve_left (fun y => by omega); rw [z1] at y; cases y.2)]; exact rR_f S145.1)
                | (rw [pHol_s0 c1 (by omega) (S103.b0 (by omega))]; exact S103.ze (by omega))
                | (rw [pHol_sn c1 (by omega) (S103.b1 (by omega)) (by omega)]; exact rR_f S145.1)
                | (rw [pHol_s1 c1 (by omega) (S103.b1 (by omega)) (by omega) (S145.b1 (by omega)), ← kv23]; exact rR_t S145.1)
                | (rw [pHol_s2 c1 (by omega) (S103.b1 (by omega)) (by omega) (S145.b0 (by omega))]; exact S145.ze (by omega))
                | (exfalso; omega)
              · refine zwW_p [(1, 0, 2), (1, 2, 0)] (q := 153) (ls' := [(2, 9), (0, a), (0, v23)]) (st' := [(0, v23), (2, 9)]) (by decide +kernel) rfl ?_
                refine zwW_neg (nx := 154) (by decide +kernel) ⟨by omega, by omega⟩ ?_
                refine zwW_cm Ch31.1 (op := 60) (k' := 243) (n := 1) (kd := 7) (m := 9) (nx := 157) (r := 9) (tl := [(0, (-v23))]) (st' := []) (by decide +kernel) rfl (by decide +kernel) (Nat.ble_eq_true_of_le (by omega)) (x243_q h31 Ch31 (-v23) t n (pSm0 t n (pFac t n o (sub t n)) (pA t n ((pSm0 t n (pFac t n o (sub t n)) s).2))).2 (by omega) S145.1 (Vh31.lt Bh31 S145.1)) ?_
                rintro x h34 ⟨Ch34, Qh34, rfl, f33⟩
                have Xh34 : zXR msxK (0) (0) h h34 := Xh31.tr (c2 := 0) (s2 := 0) Qh34 (by decide +kernel) (by decide) (by decide)
                have Bh34 : rB t n h34 := Bh31.fr Qh34 (by decide +kernel)
                refine zwif_eq (q := 164) (nx := 160) (by decide +kernel) (fun c35 => ?_) (fun c35 => ?_)
                · exfalso; omega
                · refine zwW_p [(0, 1, 0), (24, 165, 0)] (q := 165) (ls' := [(2, 9), (0, a), (0, v23)]) (st' := [(0, 1)]) (by decide +kernel) rfl ?_
                  refine zwW_ret (nx := 166) (a := 1) (b := 0) (by decide +kernel) rfl (Or.inr (Or.inl ⟨rfl, by omega⟩)) ?_
                  refine ⟨Ch34, Xh34.le (by decide) (by decide), by omega, ?_⟩
                  show rR t n h34 1 (pHol t n o (hol t n) (eit t n) (pSm0 t n (pFac t n o (sub t n))) s)
                  first
                  | (rw [pHol_n1 c1.1 c1.2 (ho.resolve_right (fun z => by omega)).2 (S26.b1 (by omega))]; exact rR_t f33)
                  | (rw [pHol_n0 c1.1 c1.2 (ho.resolve_right (fun z => by omega)).2 (S26.b0 (by omega))]; exact S26.ze (by omega))
                  | (rw [pHol_nd c1.1 c1.2 (fun z1 => by have y := ho.resolve_left (fun y => by omega); rw [z1] at y; cases y.2)]; exact rR_f f33)
                  | (rw [pHol_b1 (by omega) (ho.resolve_right (fun z => by omega)).2 (S73.b1 (by omega)) (by omega)]; exact rR_t f33)
                  | (rw [pHol_bn (by omega) (ho.resolve_right (fun z => by omega)).2 (S73.b1 (by omega)) (by omega)]; exact rR_f f33)
                  | (rw [pHol_b0 (by omega) (ho.resolve_right (fun z => by omega)).2 (S73.b0 (by omega))]; exact S73.ze (by omega))
                  | (rw [pHol_bd (by omega) (fun z1 => by have y := ho.resolve_left (fun y => by omega); rw [z1] at y; cases y.2)]; exact rR_f f33)
                  | (rw [pHol_s0 c1 (by omega) (S103.b0 (by omega))]; exact S103.ze (by omega))
                  | (rw [pHol_sn c1 (by omega) (S103.b1 (by omega)) (by omega)]; exact rR_f f33)
                  | (rw [pHol_s1 c1 (by omega) (S103.b1 (by omega)) (by omega) (S145.b1 (by omega)), ← kv23]; exact rR_t f33)
                  | (rw [pHol_s2 c1 (by omega) (S103.b1 (by omega)) (by omega) (S145.b0 (by omega))]; exact S145.ze (by omega))
                  | (exfalso; omega)
          · refine zwW_p [(1, 2, 0), (0, 62, 0)] (q := 125) (ls' := [(2, 9), (0, a), (0, v23)]) (st' := [(0, 62), (0, v23)]) (by decide +kernel) rfl ?_
            refine zwic_eq (q := 136) (nx := 128) (by decide +kernel) (fun c36 => ?_) (fun c36 => ?_)
            · refine zwW_p [(1, 0, 2)] (q := 137) (ls' := [(2, 9), (0, a), (0, v23)]) (st' := [(2, 9)]) (by decide +kernel) rfl ?_
              refine zwW_cm Ch21.1 (op := 60) (k' := 198) (n := 0) (kd := 7) (m := 9) (nx := 140) (r := 9) (tl := []) (st' := []) (by decide +kernel) rfl (by decide +kernel) (Nat.ble_eq_true_of_le (by omega)) (x198_q h21 Ch21 t n (pSm0 t n (pFac t n o (sub t n)) s).2 Bh21 S103.1 (Wh21).2) ?_
              rintro x h38 ⟨Ch38, Qh38, rfl, f37⟩
              have Xh38 : zXR msxK (0) (0) h h38 := Xh21.tr (c2 := 0) (s2 := 0) Qh38 (by decide +kernel) (by decide) (by decide)
              have th38_9_6 : fld h38 9 6 = fld h21 9 6 := Qh38.f (a1 := 9) (a2 := 9) (j1 := 6) (j2 := 7) (by decide +kernel) ⟨by decide, by decide⟩ ⟨by decide, by decide⟩ ⟨by decide, by decide⟩
              have Bh38 : rB t n h38 := Bh21.fr Qh38 (by decide +kernel)
              have Vh38 : rV n (pA t n ((pSm0 t n (pFac t n o (sub t n)) s).2)) := (Wh21).a (by omega)
              refine zwif_eq (q := 164) (nx := 143) (by decide +kernel) (fun c39 => ?_) (fun c39 => ?_)
              · exfalso; omega
              · refine zwW_p [(1, 0, 2), (1, 1, 0)] (q := 145) (ls' := [(2, 9), (0, a), (0, v23)]) (st' := [(0, a), (2, 9)]) (by decide +kernel) rfl ?_
                refine zwW_cm Ch38.1 (op := 60) (k' := 241) (n := 1) (kd := 7) (m := 9) (nx := 148) (r := 9) (tl := [(0, a)]) (st' := []) (by decide +kernel) rfl (by decide +kernel) (Nat.ble_eq_true_of_le (by omega)) (x241_q a D0 pa o sub ho hs HS h38 Ch38 t n (pA t n ((pSm0 t n (pFac t n o (sub t n)) s).2)) Bh38 f37 Vh38.wk) ?_
                rintro v42 h43 ⟨Ch43, Qh43, f40, f41⟩
                have Xh43 : zXR msxK (0) (0) h h43 := Xh38.tr (c2 := 0) (s2 := 0) Qh43 (by decide +kernel) (by decide) (by decide)
                have Bh43 : rB t n h43 := Bh38.fr Qh43 (by decide +kernel)
                have S145 := f41
                have Vh43 : rV n ((pSm0 t n (pFac t n o (sub t n))) (pA t n ((pSm0 t n (pFac t n o (sub t n)) s).2))).2 := (Vh38).fn (pG_sm0 (pG_fac (hs t n)))
                refine zwif_eq (q := 164) (nx := 151) (by decide +kernel) (fun c44 => ?_) (fun c44 => ?_)
                · refine zwW_p [(0, 0, 0)] (q := 165) (ls' := [(2, 9), (0, a), (0, v23)]) (st' := [(0, 0)]) (by decide +kernel) rfl ?_
                  refine zwW_ret (nx := 166) (a := 1) (b := 0) (by decide +kernel) rfl (Or.inr (Or.inl ⟨rfl, by omega⟩)) ?_
                  refine ⟨Ch43, Xh43.le (by decide) (by decide), by omega, ?_⟩
                  show rR t n h43 0 (pHol t n o (hol t n) (eit t n) (pSm0 t n (pFac t n o (sub t n))) s)
                  first
                  | (rw [pHol_n1 c1.1 c1.2 (ho.resolve_right (fun z => by omega)).2 (S26.b1 (by omega))]; exact rR_t S145.1)
                  | (rw [pHol_n0 c1.1 c1.2 (ho.resolve_right (fun z => by omega)).2 (S26.b0 (by omega))]; exact S26.ze (by omega))
                  | (rw [pHol_nd c1.1 c1.2 (fun z1 => by have y := ho.resolve_left (fun y => by omega); rw [z1] at y; cases y.2)]; exact rR_f S145.1)
                  | (rw [pHol_b1 (by omega) (ho.resolve_right (fun z => by omega)).2 (S73.b1 (by omega)) (by omega)]; exact rR_t S145.1)
                  | (rw [pHol_bn (by omega) (ho.resolve_right (fun z => by omega)).2 (S73.b1 (by omega)) (by omega)]; exact rR_f S145.1)
                  | (rw [pHol_b0 (by omega) (ho.resolve_right (fun z => by omega)).2 (S73.b0 (by omega))]; exact S73.ze (by omega))
                  | (rw [pHol_bd (by omega) (fun z1 => by have y := ho.resolve_left (fun y => by omega); rw [z1] at y; cases y.2)]; exact rR_f S145.1)
                  | (rw [pHol_s0 c1 (by omega) (S103.b0 (by omega))]; exact S103.ze (by omega))
                  | (rw [pHol_sn c1 (by omega) (S103.b1 (by omega)) (by omega)]; exact rR_f S145.1)
                  | (rw [pHol_s1 c1 (by omega) (S103.b1 (by omega)) (by omega) (S145.b1 (by omega)), ← kv23]; exact rR_t S145.1)
                  | (rw [pHol_s2 c1 (by omega) (S103.b1 (by omega)) (by omega) (S145.b0 (by omega))]; exact S145.ze (by omega))
                  | (exfalso; omega)
                · refine zwW_p [(1, 0, 2), (1, 2, 0)] (q := 153) (ls' := [(2, 9), (0, a), (0, v23)]) (st' := [(0, v23), (2, 9)]) (by decide +kernel) rfl ?_
                  refine zwW_neg (nx := 154) (by decide +kernel) ⟨by omega, by omega⟩ ?_
                  refine zwW_cm Ch43.1 (op := 60) (k' := 243) (n := 1) (kd := 7) (m := 9) (nx := 157) (r := 9) (tl := [(0, (-v23))]) (st' := []) (by decide +kernel) rfl (by decide +kernel) (Nat.ble_eq_true_of_le (by omega)) (x243_q h43 Ch43 (-v23) t n (pSm0 t n (pFac t n o (sub t n)) (pA t n ((pSm0 t n (pFac t n o (sub t n)) s).2))).2 (by omega) S145.1 (Vh43.lt Bh43 S145.1)) ?_
                  rintro x h46 ⟨Ch46, Qh46, rfl, f45⟩
                  have Xh46 : zXR msxK (0) (0) h h46 := Xh43.tr (c2 := 0) (s2 := 0) Qh46 (by decide +kernel) (by decide) (by decide)
                  have Bh46 : rB t n h46 := Bh43.fr Qh46 (by decide +kernel)
                  refine zwif_eq (q := 164) (nx := 160) (by decide +kernel) (fun c47 => ?_) (fun c47 => ?_)
                  · exfalso; omega
                  · refine zwW_p [(0, 1, 0), (24, 165, 0)] (q := 165) (ls' := [(2, 9), (0, a), (0, v23)]) (st' := [(0, 1)]) (by decide +kernel) rfl ?_
                    refine zwW_ret (nx := 166) (a := 1) (b := 0) (by decide +kernel) rfl (Or.inr (Or.inl ⟨rfl, by omega⟩)) ?_
                    refine ⟨Ch46, Xh46.le (by decide) (by decide), by omega, ?_⟩
                    show rR t n h46 1 (pHol t n o (hol t n) (eit t n) (pSm0 t n (pFac t n o (sub t n))) s)
                    first
                    | (rw [pHol_n1 c1.1 c1.2 (ho.resolve_right (fun z => by omega)).2 (S26.b1 (by omega))]; exact rR_t f45)
                    | (rw [pHol_n0 c1.1 c1.2 (ho.resolve_right (fun z => by omega)).2 (S26.b0 (by omega))]; exact S26.ze (by omega))
                    | (rw [pHol_nd c1.1 c1.2 (fun z1 => by have y := ho.resolve_left (fun y => by omega); rw [z1] at y; cases y.2)]; exact rR_f f45)
                    | (rw [pHol_b1 (by omega) (ho.resolve_right (fun z => by omega)).2 (S73.b1 (by omega)) (by omega)]; exact rR_t f45)
                    | (rw [pHol_bn (by omega) (ho.resolve_right (fun z => by omega)).2 (S73.b1 (by omega)) (by omega)]; exact rR_f f45)
                    | (rw [pHol_b0 (by omega) (ho.resolve_right (fun z => by omega)).2 (S73.b0 (by omega))]; exact S73.ze (by omega))
                    | (rw [pHol_bd (by omega) (fun z1 => by have y := ho.resolve_left (fun y => by omega); rw [z1] at y; cases y.2)]; exact rR_f f45)
                    | (rw [pHol_s0 c1 (by omega) (S103.b0 (by omega))]; exact S103.ze (by omega))
                    | (rw [pHol_sn c1 (by omega) (S103.b1 (by omega)) (by omega)]; exact rR_f f45)
                    | (rw [pHol_s1 c1 (by omega) (S103.b1 (by omega)) (by omega) (S145.b1 (by omega)), ← kv23]; exact rR_t f45)
                    | (rw [pHol_s2 c1 (by omega) (S103.b1 (by omega)) (by omega) (S145.b0 (by omega))]; exact S145.ze (by omega))
                    | (exfalso; omega)
            · refine zwW_p [(1, 2, 0), (0, 61, 0)] (q := 131) (ls' := [(2, 9), (0, a), (0, v23)]) (st' := [(0, 61), (0, v23)]) (by decide +kernel) rfl ?_
              refine zwic_eq (q := 136) (nx := 134) (by decide +kernel) (fun c48 => ?_) (fun c48 => ?_)
              · refine zwW_p [(1, 0, 2)] (q := 137) (ls' := [(2, 9), (0, a), (0, v23)]) (st' := [(2, 9)]) (by decide +kernel) rfl ?_
                refine zwW_cm Ch21.1 (op := 60) (k' := 198) (n := 0) (kd := 7) (m := 9) (nx := 140) (r := 9) (tl := []) (st' := []) (by decide +kernel) rfl (by decide +kernel) (Nat.ble_eq_true_of_le (by omega)) (x198_q h21 Ch21 t n (pSm0 t n (pFac t n o (sub t n)) s).2 Bh21 S103.1 (Wh21).2) ?_
                rintro x h50 ⟨Ch50, Qh50, rfl, f49⟩
                have Xh50 : zXR msxK (0) (0) h h50 := Xh21.tr (c2 := 0) (s2 := 0) Qh50 (by decide +kernel) (by decide) (by decide)
                have th50_9_6 : fld h50 9 6 = fld h21 9 6 := Qh50.f (a1 := 9) (a2 := 9) (j1 := 6) (j2 := 7) (by decide +kernel) ⟨by decide, by decide⟩ ⟨by decide, by decide⟩ ⟨by decide, by decide⟩
                have Bh50 : rB t n h50 := Bh21.fr Qh50 (by decide +kernel)
                have Vh50 : rV n (pA t n ((pSm0 t n (pFac t n o (sub t n)) s).2)) := (Wh21).a (by omega)
                refine zwif_eq (q := 164) (nx := 143) (by decide +kernel) (fun c51 => ?_) (fun c51 => ?_)
                · exfalso; omega
                · refine zwW_p [(1, 0, 2), (1, 1, 0)] (q := 145) (ls' := [(2, 9), (0, a), (0, v23)]) (st' := [(0, a), (2, 9)]) (by decide +kernel) rfl ?_
                  refine zwW_cm Ch50.1 (op := 60) (k' := 241) (n := 1) (kd := 7) (m := 9) (nx := 148) (r := 9) (tl := [(0, a)]) (st' := []) (by decide +kernel) rfl (by decide +kernel) (Nat.ble_eq_true_of_le (by omega)) (x241_q a D0 pa o sub ho hs HS h50 Ch50 t n (pA t n ((pSm0 t n (pFac t n o (sub t n)) s).2)) Bh50 f49 Vh50.wk) ?_
                  rintro v54 h55 ⟨Ch55, Qh55, f52, f53⟩
                  have Xh55 : zXR msxK (0) (0) h h55 := Xh50.tr (c2 := 0) (s2 := 0) Qh55 (by decide +kernel) (by decide) (by decide)
                  have Bh55 : rB t n h55 := Bh50.fr Qh55 (by decide +kernel)
                  have S145 := f53
                  have Vh55 : rV n ((pSm0 t n (pFac t n o (sub t n))) (pA t n ((pSm0 t n (pFac t n o (sub t n)) s).2))).2 := (Vh50).fn (pG_sm0 (pG_fac (hs t n)))
                  refine zwif_eq (q := 164) (nx := 151) (by decide +kernel) (fun c56 => ?_) (fun c56 => ?_)
                  · refine zwW_p [(0, 0, 0)] (q := 165) (ls' := [(2, 9), (0, a), (0, v23)]) (st' := [(0, 0)]) (by decide +kernel) rfl ?_
                    refine zwW_ret (nx := 166) (a := 1) (b := 0) (by decide +kernel) rfl (Or.inr (Or.inl ⟨rfl, by omega⟩)) ?_
                    refine ⟨Ch55, Xh55.le (by decide) (by decide), by omega, ?_⟩
                    show rR t n h55 0 (pHol t n o (hol t n) (eit t n) (pSm0 t n (pFac t n o (sub t n))) s)
                    first
                    | (rw [pHol_n1 c1.1 c1.2 (ho.resolve_right (fun z => by omega)).2 (S26.b1 (by omega))]; exact rR_t S145.1)
                    | (rw [pHol_n0 c1.1 c1.2 (ho.resolve_right (fun z => by omega)).2 (S26.b0 (by omega))]; exact S26.ze (by omega))
                    | (rw [pHol_nd c1.1 c1.2 (fun z1 => by have y := ho.resolve_left (fun y => by omega); rw [z1] at y; cases y.2)]; exact rR_f S145.1)
                    | (rw [pHol_b1 (by omega) (ho.resolve_right (fun z => by omega)).2 (S73.b1 (by omega)) (by omega)]; exact rR_t S145.1)
                    | (rw [pHol_bn (by omega) (ho.resolve_right (fun z => by omega)).2 (S73.b1 (by omega)) (by omega)]; exact rR_f S145.1)
                    | (rw [pHol_b0 (by omega) (ho.resolve_right (fun z => by omega)).2 (S73.b0 (by omega))]; exact S73.ze (by omega))
                    | (rw [pHol_bd (by omega) (fun z1 => by have y := ho.resolve_left (fun y => by omega); rw [z1] at y; cases y.2)]; exact rR_f S145.1)
                    | (rw [pHol_s0 c1 (by omega) (S103.b0 (by omega))]; exact S103.ze (by omega))
                    | (rw [pHol_sn c1 (by omega) (S103.b1 (by omega)) (by omega)]; exact rR_f S145.1)
                    | (rw [pHol_s1 c1 (by omega) (S103.b1 (by omega)) (by omega) (S145.b1 (by omega)), ← kv23]; exact rR_t S145.1)
                    | (rw [pHol_s2 c1 (by omega) (S103.b1 (by omega)) (by omega) (S145.b0 (by omega))]; exact S145.ze (by omega))
                    | (exfalso; omega)
                  · refine zwW_p [(1, 0, 2), (1, 2, 0)] (q := 153) (ls' := [(2, 9), (0, a), (0, v23)]) (st' := [(0, v23), (2, 9)]) (by decide +kernel) rfl ?_
                    refine zwW_neg (nx := 154) (by decide +kernel) ⟨by omega, by omega⟩ ?_
                    refine zwW_cm Ch55.1 (op := 60) (k' := 243) (n := 1) (kd := 7) (m := 9) (nx := 157) (r := 9) (tl := [(0, (-v23))]) (st' := []) (by decide +kernel) rfl (by decide +kernel) (Nat.ble_eq_true_of_le (by omega)) (x243_q h55 Ch55 (-v23) t n (pSm0 t n (pFac t n o (sub t n)) (pA t n ((pSm0 t n (pFac t n o (sub t n)) s).2))).2 (by omega) S145.1 (Vh55.lt Bh55 S145.1)) ?_
                    rintro x h58 ⟨Ch58, Qh58, rfl, f57⟩
                    have Xh58 : zXR msxK (0) (0) h h58 := Xh55.tr (c2 := 0) (s2 := 0) Qh58 (by decide +kernel) (by decide) (by decide)
                    have Bh58 : rB t n h58 := Bh55.fr Qh58 (by decide +kernel)
                    refine zwif_eq (q := 164) (nx := 160) (by decide +kernel) (fun c59 => ?_) (fun c59 => ?_)
                    · exfalso; omega
                    · refine zwW_p [(0, 1, 0), (24, 165, 0)] (q := 165) (ls' := [(2, 9), (0, a), (0, v23)]) (st' := [(0, 1)]) (by decide +kernel) rfl ?_
                      refine zwW_ret (nx := 166) (a := 1) (b := 0) (by decide +kernel) rfl (Or.inr (Or.inl ⟨rfl, by omega⟩)) ?_
                      refine ⟨Ch58, Xh58.le (by decide) (by decide), by omega, ?_⟩
                      show rR t n h58 1 (pHol t n o (hol t n) (eit t n) (pSm0 t n (pFac t n o (sub t n))) s)
                      first
                      | (rw [pHol_n1 c1.1 c1.2 (ho.resolve_right (fun z => by omega)).2 (S26.b1 (by omega))]; exact rR_t f57)
                      | (rw [pHol_n0 c1.1 c1.2 (ho.resolve_right (fun z => by omega)).2 (S26.b0 (by omega))]; exact S26.ze (by omega))
                      | (rw [pHol_nd c1.1 c1.2 (fun z1 => by have y := ho.resolve_left (fun y => by omega); rw [z1] at y; cases y.2)]; exact rR_f f57)
                      | (rw [pHol_b1 (by omega) (ho.resolve_right (fun z => by omega)).2 (S73.b1 (by omega)) (by omega)]; exact rR_t f57)
                      | (rw [pHol_bn (by omega) (ho.resolve_right (fun z => by omega)).2 (S73.b1 (by omega)) (by omega)]; exact rR_f f57)
                      | (rw [pHol_b0 (by omega) (ho.resolve_right (fun z => by omega)).2 (S73.b0 (by omega))]; exact S73.ze (by omega))
                      | (rw [pHol_bd (by omega) (fun z1 => by have y := ho.resolve_left (fun y => by omega); rw [z1] at y; cases y.2)]; exact rR_f f57)
                      | (rw [pHol_s0 c1 (by omega) (S103.b0 (by omega))]; exact S103.ze (by omega))
                      | (rw [pHol_sn c1 (by omega) (S103.b1 (by omega)) (by omega)]; exact rR_f f57)
                      | (rw [pHol_s1 c1 (by omega) (S103.b1 (by omega)) (by omega) (S145.b1 (by omega)), ← kv23]; exact rR_t f57)
                      | (rw [pHol_s2 c1 (by omega) (S103.b1 (by omega)) (by omega) (S145.b0 (by omega))]; exact S145.ze (by omega))
                      | (exfalso; omega)
              · refine zwW_p [(0, 0, 0)] (q := 135) (ls' := [(2, 9), (0, a), (0, v23)]) (st' := [(0, 0)]) (by decide +kernel) rfl ?_
                refine zwW_ret (nx := 136) (a := 1) (b := 0) (by decide +kernel) rfl (Or.inr (Or.inl ⟨rfl, by omega⟩)) ?_
                refine ⟨Ch21, Xh21.le (by decide) (by decide), by omega, ?_⟩
                show rR t n h21 0 (pHol t n o (hol t n) (eit t n) (pSm0 t n (pFac t n o (sub t n))) s)
                first
                | (rw [pHol_n1 c1.1 c1.2 (ho.resolve_right (fun z => by omega)).2 (S26.b1 (by omega))]; exact rR_t S103.1)
                | (rw [pHol_n0 c1.1 c1.2 (ho.resolve_right (fun z => by omega)).2 (S26.b0 (by omega))]; exact S26.ze (by omega))
                | (rw [pHol_nd c1.1 c1.2 (fun z1 => by have y := ho.resolve_left (fun y => by omega); rw [z1] at y; cases y.2)]; exact rR_f S103.1)
                | (rw [pHol_b1 (by omega) (ho.resolve_right (fun z => by omega)).2 (S73.b1 (by omega)) (by omega)]; exact rR_t S103.1)
                | (rw [pHol_bn (by omega) (ho.resolve_right (fun z => by omega)).2 (S73.b1 (by omega)) (by omega)]; exact rR_f S103.1)
                | (rw [pHol_b0 (by omega) (ho.resolve_right (fun z => by omega)).2 (S73.b0 (by omega))]; exact S73.ze (by omega))
                | (rw [pHol_bd (by omega) (fun z1 => by have y := ho.resolve_left (fun y => by omega); rw [z1] at y; cases y.2)]; exact rR_f S103.1)
                | (rw [pHol_s0 c1 (by omega) (S103.b0 (by omega))]; exact S103.ze (by omega))
                | (rw [pHol_sn c1 (by omega) (S103.b1 (by omega)) (by omega)]; exact rR_f S103.1)
                | (rw [pHol_s1 c1 (by omega) (S103.b1 (by omega)) (by omega) (S145.b1 (by omega)), ← kv23]; exact rR_t S103.1)
                | (rw [pHol_s2 c1 (by omega) (S103.b1 (by omega)) (by omega) (S145.b0 (by omega))]; exact S145.ze (by omega))
                | (exfalso; omega)
        · refine zwW_p [(0, 0, 0)] (q := 110) (ls' := [(2, 9), (0, a), (9, 0)]) (st' := [(0, 0)]) (by decide +kernel) rfl ?_
          refine zwW_ret (nx := 111) (a := 1) (b := 0) (by decide +kernel) rfl (Or.inr (Or.inl ⟨rfl, by omega⟩)) ?_
          refine ⟨Ch21, Xh21.le (by decide) (by decide), by omega, ?_⟩
          show rR t n h21 0 (pHol t n o (hol t n) (eit t n) (pSm0 t n (pFac t n o (sub t n))) s)
          first
          | (rw [pHol_n1 c1.1 c1.2 (ho.resolve_right (fun z => by omega)).2 (S26.b1 (by omega))]; exact rR_t S103.1)
          | (rw [pHol_n0 c1.1 c1.2 (ho.resolve_right (fun z => by omega)).2 (S26.b0 (by omega))]; exact S26.ze (by omega))
          | (rw [pHol_nd c1.1 c1.2 (fun z1 => by have y := ho.resolve_left (fun y => by omega); rw [z1] at y; cases y.2)]; exact rR_f S103.1)
          | (rw [pHol_b1 (by omega) (ho.resolve_right (fun z => by omega)).2 (S73.b1 (by omega)) (by omega)]; exact rR_t S103.1)
          | (rw [pHol_bn (by omega) (ho.resolve_right (fun z => by omega)).2 (S73.b1 (by omega)) (by omega)]; exact rR_f S103.1)
          | (rw [pHol_b0 (by omega) (ho.resolve_right (fun z => by omega)).2 (S73.b0 (by omega))]; exact S73.ze (by omega))
          | (rw [pHol_bd (by omega) (fun z1 => by have y := ho.resolve_left (fun y => by omega); rw [z1] at y; cases y.2)]; exact rR_f S103.1)
          | (rw [pHol_s0 c1 (by omega) (S103.b0 (by omega))]; exact S103.ze (by omega))
          | (rw [pHol_sn c1 (by omega) (S103.b1 (by omega)) (by omega)]; exact rR_f S103.1)
          | (rw [pHol_s1 c1 (by omega) (S103.b1 (by omega)) (by omega) (S145.b1 (by omega)), ← kz]; exact rR_t S103.1)
          | (rw [pHol_s2 c1 (by omega) (S103.b1 (by omega)) (by omega) (S145.b0 (by omega))]; exact S145.ze (by omega))
          | (exfalso; omega)
      · refine zwW_p [(1, 1, 0), (0, 8, 0)] (q := 59) (ls' := [(2, 9), (0, a), (9, 0)]) (st' := [(0, 8), (0, a)]) (by decide +kernel) rfl ?_
        refine zwic_ge (q := 99) (nx := 62) (by decide +kernel) (fun c60 => ?_) (fun c60 => ?_)
        · refine zwW_p [(0, 0, 0)] (q := 100) (ls' := [(2, 9), (0, a), (9, 0)]) (st' := [(0, 0)]) (by decide +kernel) rfl ?_
          refine zwW_ret (nx := 101) (a := 1) (b := 0) (by decide +kernel) rfl (Or.inr (Or.inl ⟨rfl, by omega⟩)) ?_
          refine ⟨C, X.le (by decide) (by decide), by omega, ?_⟩
          show rR t n h 0 (pHol t n o (hol t n) (eit t n) (pSm0 t n (pFac t n o (sub t n))) s)
          first
          | (rw [pHol_n1 c1.1 c1.2 (ho.resolve_right (fun z => by omega)).2 (S26.b1 (by omega))]; exact rR_t Q0)
          | (rw [pHol_n0 c1.1 c1.2 (ho.resolve_right (fun z => by omega)).2 (S26.b0 (by omega))]; exact S26.ze (by omega))
          | (rw [pHol_nd c1.1 c1.2 (fun z1 => by have y := ho.resolve_left (fun y => by omega); rw [z1] at y; cases y.2)]; exact rR_f Q0)
          | (rw [pHol_b1 (by omega) (ho.resolve_right (fun z => by omega)).2 (S73.b1 (by omega)) (by omega)]; exact rR_t Q0)
          | (rw [pHol_bn (by omega) (ho.resolve_right (fun z => by omega)).2 (S73.b1 (by omega)) (by omega)]; exact rR_f Q0)
          | (rw [pHol_b0 (by omega) (ho.resolve_right (fun z => by omega)).2 (S73.b0 (by omega))]; exact S73.ze (by omega))
          | (rw [pHol_bd (by omega) (fun z1 => by have y := ho.resolve_left (fun y => by omega); rw [z1] at y; cases y.2)]; exact rR_f Q0)
          | (rw [pHol_s0 c1 (by omega) (S103.b0 (by omega))]; exact S103.ze (by omega))
          | (rw [pHol_sn c1 (by omega) (S103.b1 (by omega)) (by omega)]; exact rR_f Q0)
          | (rw [pHol_s1 c1 (by omega) (S103.b1 (by omega)) (by omega) (S145.b1 (by omega)), ← kz]; exact rR_t Q0)
          | (rw [pHol_s2 c1 (by omega) (S103.b1 (by omega)) (by omega) (S145.b0 (by omega))]; exact S145.ze (by omega))
          | (exfalso; omega)
        · refine zwW_p [(1, 0, 2)] (q := 63) (ls' := [(2, 9), (0, a), (9, 0)]) (st' := [(2, 9)]) (by decide +kernel) rfl ?_
          refine zwW_cm C.1 (op := 60) (k' := 198) (n := 0) (kd := 7) (m := 9) (nx := 66) (r := 9) (tl := []) (st' := []) (by decide +kernel) rfl (by decide +kernel) (Nat.ble_eq_true_of_le (by omega)) (x198_q h C t n s B Q0 (W0).2) ?_
          rintro x h62 ⟨Ch62, Qh62, rfl, f61⟩
          have Xh62 : zXR msxK (0) (0) h h62 := X.tr (c2 := 0) (s2 := 0) Qh62 (by decide +kernel) (by decide) (by decide)
          have th62_9_6 : fld h62 9 6 = fld h 9 6 := Qh62.f (a1 := 9) (a2 := 9) (j1 := 6) (j2 := 7) (by decide +kernel) ⟨by decide, by decide⟩ ⟨by decide, by decide⟩ ⟨by decide, by decide⟩
          have Bh62 : rB t n h62 := B.fr Qh62 (by decide +kernel)
          have Vh62 : rV n (pA t n s) := (W0).a (by omega)
          refine zwif_eq (q := 99) (nx := 69) (by decide +kernel) (fun c63 => ?_) (fun c63 => ?_)
          · exfalso; omega
          · refine zwW_p [(1, 0, 2), (1, 1, 0), (0, 1, 0)] (q := 72) (ls' := [(2, 9), (0, a), (9, 0)]) (st' := [(0, 1), (0, a), (2, 9)]) (by decide +kernel) rfl ?_
            refine zwW_add (nx := 73) (by decide +kernel) ⟨by omega, by omega⟩ ?_
            refine zwW_cm Ch62.1 (op := 60) (k' := 242) (n := 1) (kd := 7) (m := 9) (nx := 76) (r := 9) (tl := [(0, (a + 1))]) (st' := []) (by decide +kernel) rfl (by decide +kernel) (Nat.ble_eq_true_of_le (by omega)) (HE (by omega) h62 Ch62 t n (pA t n s) Bh62 f61 Vh62.wk) ?_
            rintro v66 h67 ⟨Ch67, Qh67, f64, f65⟩
            have Xh67 : zXR msxK (0) (0) h h67 := Xh62.tr (c2 := 0) (s2 := 0) Qh67 (by decide +kernel) (by decide) (by decide)
            have Bh67 : rB t n h67 := Bh62.fr Qh67 (by decide +kernel)
            have S73 := f65
            have Vh67 : rV n ((eit t n) (pA t n s)).2 := (Vh62).fn (he t n)
            refine zwif_eq (q := 99) (nx := 79) (by decide +kernel) (fun c68 => ?_) (fun c68 => ?_)
            · refine zwW_p [(0, 0, 0)] (q := 100) (ls' := [(2, 9), (0, a), (9, 0)]) (st' := [(0, 0)]) (by decide +kernel) rfl ?_
              refine zwW_ret (nx := 101) (a := 1) (b := 0) (by decide +kernel) rfl (Or.inr (Or.inl ⟨rfl, by omega⟩)) ?_
              refine ⟨Ch67, Xh67.le (by decide) (by decide), by omega, ?_⟩
              show rR t n h67 0 (pHol t n o (hol t n) (eit t n) (pSm0 t n (pFac t n o (sub t n))) s)
              first
              | (rw [pHol_n1 c1.1 c1.2 (ho.resolve_right (fun z => by omega)).2 (S26.b1 (by omega))]; exact rR_t S73.1)
              | (rw [pHol_n0 c1.1 c1.2 (ho.resolve_right (fun z => by omega)).2 (S26.b0 (by omega))]; exact S26.ze (by omega))
              | (rw [pHol_nd c1.1 c1.2 (fun z1 => by have y := ho.resolve_left (fun y => by omega); rw [z1] at y; cases y.2)]; exact rR_f S73.1)
              | (rw [pHol_b1 (by omega) (ho.resolve_right (fun z => by omega)).2 (S73.b1 (by omega)) (by omega)]; exact rR_t S73.1)
              | (rw [pHol_bn (by omega) (ho.resolve_right (fun z => by omega)).2 (S73.b1 (by omega)) (by omega)]; exact rR_f S73.1)
              | (rw [pHol_b0 (by omega) (ho.resolve_right (fun z => by omega)).2 (S73.b0 (by omega))]; exact S73.ze (by omega))
              | (rw [pHol_bd (by omega) (fun z1 => by have y := ho.resolve_left (fun y => by omega); rw [z1] at y; cases y.2)]; exact rR_f S73.1)
              | (rw [pHol_s0 c1 (by omega) (S103.b0 (by omega))]; exact S103.ze (by omega))
              | (rw [pHol_sn c1 (by omega) (S103.b1 (by omega)) (by omega)]; exact rR_f S73.1)
              | (rw [pHol_s1 c1 (by omega) (S103.b1 (by omega)) (by omega) (S145.b1 (by omega)), ← kz]; exact rR_t S73.1)
              | (rw [pHol_s2 c1 (by omega) (S103.b1 (by omega)) (by omega) (S145.b0 (by omega))]; exact S145.ze (by omega))
              | (exfalso; omega)
            · refine zwW_p [(1, 0, 2)] (q := 80) (ls' := [(2, 9), (0, a), (9, 0)]) (st' := [(2, 9)]) (by decide +kernel) rfl ?_
              refine zwW_gs Ch67.1 (kd := 7) (bn := 4) (n := 9) (t := 0) (lo := -2147483648) (hi := 2147483647) (nx := 83) (by decide +kernel) ?_
              intro v69 ev69 lv69 uv69
              have kv69 : v69 = pK t n (eit t n (pA t n s)).2.1 := ev69.trans (S73.1).kd
              refine zwW_p [(0, 93, 0)] (q := 85) (ls' := [(2, 9), (0, a), (9, 0)]) (st' := [(0, 93), (0, v69)]) (by decide +kernel) rfl ?_
              refine zwic_ne (q := 99) (nx := 88) (by decide +kernel) (fun c70 => ?_) (fun c70 => ?_)
              · refine zwW_p [(0, 0, 0)] (q := 100) (ls' := [(2, 9), (0, a), (9, 0)]) (st' := [(0, 0)]) (by decide +kernel) rfl ?_
                refine zwW_ret (nx := 101) (a := 1) (b := 0) (by decide +kernel) rfl (Or.inr (Or.inl ⟨rfl, by omega⟩)) ?_
                refine ⟨Ch67, Xh67.le (by decide) (by decide), by omega, ?_⟩
                show rR t n h67 0 (pHol t n o (hol t n) (eit t n) (pSm0 t n (pFac t n o (sub t n))) s)
                first
                | (rw [pHol_n1 c1.1 c1.2 (ho.resolve_right (fun z => by omega)).2 (S26.b1 (by omega))]; exact rR_t S73.1)
                | (rw [pHol_n0 c1.1 c1.2 (ho.resolve_right (fun z => by omega)).2 (S26.b0 (by omega))]; exact S26.ze (by omega))
                | (rw [pHol_nd c1.1 c1.2 (fun z1 => by have y := ho.resolve_left (fun y => by omega); rw [z1] at y; cases y.2)]; exact rR_f S73.1)
                | (rw [pHol_b1 (by omega) (ho.resolve_right (fun z => by omega)).2 (S73.b1 (by omega)) (by omega)]; exact rR_t S73.1)
                | (rw [pHol_bn (by omega) (ho.resolve_right (fun z => by omega)).2 (S73.b1 (by omega)) (by omega)]; exact rR_f S73.1)
                | (rw [pHol_b0 (by omega) (ho.resolve_right (fun z => by omega)).2 (S73.b0 (by omega))]; exact S73.ze (by omega))
                | (rw [pHol_bd (by omega) (fun z1 => by have y := ho.resolve_left (fun y => by omega); rw [z1] at y; cases y.2)]; exact rR_f S73.1)
                | (rw [pHol_s0 c1 (by omega) (S103.b0 (by omega))]; exact S103.ze (by omega))
                | (rw [pHol_sn c1 (by omega) (S103.b1 (by omega)) (by omega)]; exact rR_f S73.1)
                | (rw [pHol_s1 c1 (by omega) (S103.b1 (by omega)) (by omega) (S145.b1 (by omega)), ← kz]; exact rR_t S73.1)
                | (rw [pHol_s2 c1 (by omega) (S103.b1 (by omega)) (by omega) (S145.b0 (by omega))]; exact S145.ze (by omega))
                | (exfalso; omega)
              · refine zwW_p [(1, 0, 2)] (q := 89) (ls' := [(2, 9), (0, a), (9, 0)]) (st' := [(2, 9)]) (by decide +kernel) rfl ?_
                refine zwW_cm Ch67.1 (op := 60) (k' := 198) (n := 0) (kd := 7) (m := 9) (nx := 92) (r := 9) (tl := []) (st' := []) (by decide +kernel) rfl (by decide +kernel) (Nat.ble_eq_true_of_le (by omega)) (x198_q h67 Ch67 t n (eit t n (pA t n s)).2 Bh67 S73.1 (Vh67.wk).2) ?_
                rintro x h72 ⟨Ch72, Qh72, rfl, f71⟩
                have Xh72 : zXR msxK (0) (0) h h72 := Xh67.tr (c2 := 0) (s2 := 0) Qh72 (by decide +kernel) (by decide) (by decide)
                have th72_9_6 : fld h72 9 6 = fld h67 9 6 := Qh72.f (a1 := 9) (a2 := 9) (j1 := 6) (j2 := 7) (by decide +kernel) ⟨by decide, by decide⟩ ⟨by decide, by decide⟩ ⟨by decide, by decide⟩
                have Bh72 : rB t n h72 := Bh67.fr Qh72 (by decide +kernel)
                have Vh72 : rV n (pA t n ((eit t n (pA t n s)).2)) := (Vh67.wk).a (by omega)
                refine zwif_eq (q := 99) (nx := 95) (by decide +kernel) (fun c73 => ?_) (fun c73 => ?_)
                · exfalso; omega
                · refine zwW_p [(0, 1, 0), (24, 100, 0)] (q := 100) (ls' := [(2, 9), (0, a), (9, 0)]) (st' := [(0, 1)]) (by decide +kernel) rfl ?_
                  refine zwW_ret (nx := 101) (a := 1) (b := 0) (by decide +kernel) rfl (Or.inr (Or.inl ⟨rfl, by omega⟩)) ?_
                  refine ⟨Ch72, Xh72.le (by decide) (by decide), by omega, ?_⟩
                  show rR t n h72 1 (pHol t n o (hol t n) (eit t n) (pSm0 t n (pFac t n o (sub t n))) s)
                  first
                  | (rw [pHol_n1 c1.1 c1.2 (ho.resolve_right (fun z => by omega)).2 (S26.b1 (by omega))]; exact rR_t f71)
                  | (rw [pHol_n0 c1.1 c1.2 (ho.resolve_right (fun z => by omega)).2 (S26.b0 (by omega))]; exact S26.ze (by omega))
                  | (rw [pHol_nd c1.1 c1.2 (fun z1 => by have y := ho.resolve_left (fun y => by omega); rw [z1] at y; cases y.2)]; exact rR_f f71)
                  | (rw [pHol_b1 (by omega) (ho.resolve_right (fun z => by omega)).2 (S73.b1 (by omega)) (by omega)]; exact rR_t f71)
                  | (rw [pHol_bn (by omega) (ho.resolve_right (fun z => by omega)).2 (S73.b1 (by omega)) (by omega)]; exact rR_f f71)
                  | (rw [pHol_b0 (by omega) (ho.resolve_right (fun z => by omega)).2 (S73.b0 (by omega))]; exact S73.ze (by omega))
                  | (rw [pHol_bd (by omega) (fun z1 => by have y := ho.resolve_left (fun y => by omega); rw [z1] at y; cases y.2)]; exact rR_f f71)
                  | (rw [pHol_s0 c1 (by omega) (S103.b0 (by omega))]; exact S103.ze (by omega))
                  | (rw [pHol_sn c1 (by omega) (S103.b1 (by omega)) (by omega)]; exact rR_f f71)
                  | (rw [pHol_s1 c1 (by omega) (S103.b1 (by omega)) (by omega) (S145.b1 (by omega)), ← kz]; exact rR_t f71)
                  | (rw [pHol_s2 c1 (by omega) (S103.b1 (by omega)) (by omega) (S145.b0 (by omega))]; exact S145.ze (by omega))
                  | (exfalso; omega)
    · exfalso; omega
-- WheelLand$Reader.both(I)Z
theorem x263_q {sc : List Int} (a : Int) (D0 : Nat) (pa : 0 ≤ a ∧ a ≤ 8) (o : Bool) (sub : pT → Nat → pQ → pR) (ho : (a < 8 ∧ o = true) ∨ (8 ≤ a ∧ o = false)) (hs : ∀ (t : pT) (n : Nat), pG n (sub t n)) (HS : a < 8 → rX sc D0 241 (a + 1) sub) (hol eit : pT → Nat → pQ → pR) (hh : ∀ (t : pT) (n : Nat), pG n (hol t n)) (he : ∀ (t : pT) (n : Nat), pG n (eit t n)) (HT : a < 8 → rX sc D0 281 (a + 1) hol) (HE : a < 8 → rX sc D0 242 (a + 1) eit) : rX sc (D0 + 24) 263 a (fun t n => pBth t n (pHol t n o (hol t n) (eit t n) (pSm0 t n (pFac t n o (sub t n))))) := by
  intro h C t n s B Q0 W0
  refine zwC_of (D := D0 + 23) 4 (by decide +kernel) rfl (ls := [(2, 9), (0, a), (9, 0), (9, 0)]) rfl ?_
  have X : zXR msxK 0 0 h h := zXR.rf _ _
  refine zwW_p [(1, 0, 2), (1, 1, 0)] (q := 2) (ls' := [(2, 9), (0, a), (9, 0), (9, 0)]) (st' := [(0, a), (2, 9)]) (by decide +kernel) rfl ?_
  refine zwW_cm C.1 (op := 60) (k' := 281) (n := 1) (kd := 7) (m := 9) (nx := 5) (r := 9) (tl := [(0, a)]) (st' := []) (by decide +kernel) rfl (by decide +kernel) (Nat.ble_eq_true_of_le (by omega)) (x281_q a D0 pa o sub ho hs HS hol eit hh he HT HE h C t n s B Q0 W0) ?_
  rintro v3 h4 ⟨Ch4, Qh4, f1, f2⟩
  have Xh4 : zXR msxK (0) (0) h h4 := X.tr (c2 := 0) (s2 := 0) Qh4 (by decide +kernel) (by decide) (by decide)
  have Bh4 : rB t n h4 := B.fr Qh4 (by decide +kernel)
  have S2 := f2
  have Wh4 : rW n ((pHol t n o (hol t n) (eit t n) (pSm0 t n (pFac t n o (sub t n)))) s).2 := (W0).fn (pG_hol (hh t n) (he t n) (pG_sm0 (pG_fac (hs t n))))
  refine zwW_p [(2, 2, 0), (0, 0, 0), (2, 3, 0)] (q := 8) (ls' := [(2, 9), (0, a), (0, v3), (0, 0)]) (st' := []) (by decide +kernel) rfl ?_
  have L5 : ∀ (n0 : Nat) (v2L5 v3L5 : Int) (hL5 : Hp), n0 = ((1000 - v3L5)).toNat → (rB t n hL5) → (rL t n hL5 v2L5 (400 - (v3L5).toNat) (pLw t n 19 (pHol t n o (hol t n) (eit t n) (pSm0 t n (pFac t n o (sub t n))))) (pBth t n (pHol t n o (hol t n) (eit t n) (pSm0 t n (pFac t n o (sub t n)))) s)) → (0 ≤ v2L5 ∧ v2L5 ≤ 1) → (0 ≤ v3L5 ∧ v3L5 ≤ 1000) → CI hL5 → zXR msxK (0) (0) h hL5 → zwW sc (D0 + 23) 263 8 [(2, 9), (0, a), (0, v2L5), (0, v3L5)] [] hL5 (zwRt 0 (fun x g => CI g ∧ zXR msxK (0) (0) h g ∧ (0 ≤ x ∧ x ≤ 1) ∧ rR t n g x ((pBth t n (pHol t n o (hol t n) (eit t n) (pSm0 t n (pFac t n o (sub t n))))) s))) := by
    intro n0
    induction n0 using Nat.strongRecOn with
    | ind n0 IHL5 =>
      intro v2L5 v3L5 hL5 hnL5 iL5_0 iL5_1 iL5_2 iL5_3 ChL5 XhL5
      obtain ⟨qL, QL, WL, OL⟩ := iL5_1
      refine zwW_p [(1, 3, 0), (0, 400, 0)] (q := 12) (ls' := [(2, 9), (0, a), (0, v2L5), (0, v3L5)]) (st' := [(0, 400), (0, v3L5)]) (by decide +kernel) rfl ?_
      refine zwic_ge (q := 62) (nx := 15) (by decide +kernel) (fun c6 => ?_) (fun c6 => ?_)
      · refine zwW_p [(1, 2, 0)] (q := 63) (ls' := [(2, 9), (0, a), (0, v2L5), (0, v3L5)]) (st' := [(0, v2L5)]) (by decide +kernel) rfl ?_
        refine zwW_ret (nx := 64) (a := 1) (b := 0) (by decide +kernel) rfl (Or.inr (Or.inl ⟨rfl, by omega⟩)) ?_
        refine ⟨ChL5, XhL5.le (by decide) (by decide), by omega, ?_⟩
        show rR t n hL5 v2L5 (pBth t n (pHol t n o (hol t n) (eit t n) (pSm0 t n (pFac t n o (sub t n)))) s)
        first
        | (exact rL_x QL OL (Or.inr (pLw_z (Or.inl (by omega)))))
        | (exact rL_x QL OL (Or.inl (by omega)))
        | (exact rL_x QL OL (Or.inr (pLw_z (Or.inr trivial))))
        | (exfalso; omega)
      · refine zwW_p [(1, 2, 0)] (q := 16) (ls' := [(2, 9), (0, a), (0, v2L5), (0, v3L5)]) (st' := [(0, v2L5)]) (by decide +kernel) rfl ?_
        refine zwif_eq (q := 62) (nx := 19) (by decide +kernel) (fun c7 => ?_) (fun c7 => ?_)
        · refine zwW_p [(1, 2, 0)] (q := 63) (ls' := [(2, 9), (0, a), (0, v2L5), (0, v3L5)]) (st' := [(0, v2L5)]) (by decide +kernel) rfl ?_
          refine zwW_ret (nx := 64) (a := 1) (b := 0) (by decide +kernel) rfl (Or.inr (Or.inl ⟨rfl, by omega⟩)) ?_
          refine ⟨ChL5, XhL5.le (by decide) (by decide), by omega, ?_⟩
          show rR t n hL5 v2L5 (pBth t n (pHol t n o (hol t n) (eit t n) (pSm0 t n (pFac t n o (sub t n)))) s)
          first
          | (exact rL_x QL OL (Or.inr (pLw_z (Or.inl (by omega)))))
          | (exact rL_x QL OL (Or.inl (by omega)))
          | (exact rL_x QL OL (Or.inr (pLw_z (Or.inr trivial))))
          | (exfalso; omega)
        · refine zwW_p [(1, 0, 2), (0, 19, 0)] (q := 22) (ls' := [(2, 9), (0, a), (0, v2L5), (0, v3L5)]) (st' := [(0, 19), (2, 9)]) (by decide +kernel) rfl ?_
          refine zwW_cm ChL5.1 (op := 60) (k' := 264) (n := 1) (kd := 7) (m := 9) (nx := 25) (r := 9) (tl := [(0, 19)]) (st' := []) (by decide +kernel) rfl (by decide +kernel) (Nat.ble_eq_true_of_le (by omega)) (x264_p hL5 ChL5 19 t n qL.1 (by omega) QL.1) ?_
          rintro x _ ⟨rfl, ⟨rfl, c8⟩ | ⟨rfl, c8⟩⟩
          · refine zwif_eq (q := 62) (nx := 28) (by decide +kernel) (fun c9 => ?_) (fun c9 => ?_)
            · exfalso; omega
            · refine zwW_p [(1, 0, 2)] (q := 29) (ls' := [(2, 9), (0, a), (0, v2L5), (0, v3L5)]) (st' := [(2, 9)]) (by decide +kernel) rfl ?_
              have KZ := c8.1
              refine zwW_cm ChL5.1 (op := 60) (k' := 198) (n := 0) (kd := 7) (m := 9) (nx := 32) (r := 9) (tl := []) (st' := []) (by decide +kernel) rfl (by decide +kernel) (Nat.ble_eq_true_of_le (by omega)) (x198_q hL5 ChL5 t n qL iL5_0 QL (WL).2) ?_
              rintro x h11 ⟨Ch11, Qh11, rfl, f10⟩
              have Xh11 : zXR msxK (0) (0) h h11 := XhL5.tr (c2 := 0) (s2 := 0) Qh11 (by decide +kernel) (by decide) (by decide)
              have th11_9_6 : fld h11 9 6 = fld hL5 9 6 := Qh11.f (a1 := 9) (a2 := 9) (j1 := 6) (j2 := 7) (by decide +kernel) ⟨by decide, by decide⟩ ⟨by decide, by decide⟩ ⟨by decide, by decide⟩
              have Bh11 : rB t n h11 := iL5_0.fr Qh11 (by decide +kernel)
              have Vh11 : rV n (pA t n qL) := (WL).a (by omega)
              refine zwW_p [(15, 0, 0), (1, 0, 2), (1, 1, 0)] (q := 35) (ls' := [(2, 9), (0, a), (0, v2L5), (0, v3L5)]) (st' := [(0, a), (2, 9)]) (by decide +kernel) rfl ?_
              refine zwW_cm Ch11.1 (op := 60) (k' := 281) (n := 1) (kd := 7) (m := 9) (nx := 38) (r := 9) (tl := [(0, a)]) (st' := []) (by decide +kernel) rfl (by decide +kernel) (Nat.ble_eq_true_of_le (by omega)) (x281_q a D0 pa o sub ho hs HS hol eit hh he HT HE h11 Ch11 t n (pA t n qL) Bh11 f10 Vh11.wk) ?_
              rintro v14 h15 ⟨Ch15, Qh15, f12, f13⟩
              have Xh15 : zXR msxK (0) (0) h h15 := Xh11.tr (c2 := 0) (s2 := 0) Qh15 (by decide +kernel) (by decide) (by decide)
              have Bh15 : rB t n h15 := Bh11.fr Qh15 (by decide +kernel)
              have S35 := f13
              have Vh15 : rV n ((pHol t n o (hol t n) (eit t n) (pSm0 t n (pFac t n o (sub t n)))) (pA t n qL)).2 := (Vh11).fn (pG_hol (hh t n) (he t n) (pG_sm0 (pG_fac (hs t n))))
              refine zwif_eq (q := 54) (nx := 41) (by decide +kernel) (fun c16 => ?_) (fun c16 => ?_)
              · refine zwW_p [(0, 0, 0), (2, 2, 0)] (q := 56) (ls' := [(2, 9), (0, a), (0, 0), (0, v3L5)]) (st' := []) (by decide +kernel) rfl ?_
                have LB : rL t n h15 0 (400 - (v3L5 + 1).toNat) (pLw t n 19 (pHol t n o (hol t n) (eit t n) (pSm0 t n (pFac t n o (sub t n))))) (pBth t n (pHol t n o (hol t n) (eit t n) (pSm0 t n (pFac t n o (sub t n)))) s) := by
                  first
                  | exact rL_t S35.1 Vh15.wk ((x_one OL (by omega)).trans (pLw_n (k := 400 - (v3L5 + 1).toNat) (by omega) c8 (S35.b1 (by omega))))
                  | exact rL_f S35.1 Vh15.wk ((x_one OL (by omega)).trans (pLw_f (k := 400 - (v3L5 + 1).toNat) (by omega) c8 (S35.b0 (by omega))))
                refine zwW_inc (i := 3) (c := 1) (x := v3L5) (nx := 59) (by decide +kernel) rfl ⟨by omega, by omega⟩ (ls' := [(2, 9), (0, a), (0, 0), (0, (v3L5 + 1))]) rfl ?_
                refine zwW_p [(24, 8, 0)] (q := 8) (ls' := [(2, 9), (0, a), (0, 0), (0, (v3L5 + 1))]) (st' := []) (by decide +kernel) rfl ?_
                exact IHL5 ((1000 - (v3L5 + 1))).toNat (by omega) 0 (v3L5 + 1) h15 rfl (Bh15) (LB) (by omega) (by omega) Ch15 (Xh15.le (by decide) (by decide))
              · refine zwW_p [(1, 0, 2), (0, -19, 0)] (q := 44) (ls' := [(2, 9), (0, a), (0, v2L5), (0, v3L5)]) (st' := [(0, -19), (2, 9)]) (by decide +kernel) rfl ?_
                refine zwW_cm Ch15.1 (op := 60) (k' := 243) (n := 1) (kd := 7) (m := 9) (nx := 47) (r := 9) (tl := [(0, -19)]) (st' := []) (by decide +kernel) rfl (by decide +kernel) (Nat.ble_eq_true_of_le (by omega)) (x243_q h15 Ch15 (-19) t n (pHol t n o (hol t n) (eit t n) (pSm0 t n (pFac t n o (sub t n))) (pA t n qL)).2 (by omega) S35.1 (Vh15.lt Bh15 S35.1)) ?_
                rintro x h18 ⟨Ch18, Qh18, rfl, f17⟩
                have Xh18 : zXR msxK (0) (0) h h18 := Xh15.tr (c2 := 0) (s2 := 0) Qh18 (by decide +kernel) (by decide) (by decide)
                have Bh18 : rB t n h18 := Bh15.fr Qh18 (by decide +kernel)
                refine zwif_eq (q := 54) (nx := 50) (by decide +kernel) (fun c19 => ?_) (fun c19 => ?_)
                · exfalso; omega
                · refine zwW_p [(0, 1, 0), (24, 55, 0), (2, 2, 0)] (q := 56) (ls' := [(2, 9), (0, a), (0, 1), (0, v3L5)]) (st' := []) (by decide +kernel) rfl ?_
                  have LB : rL t n h18 1 (400 - (v3L5 + 1).toNat) (pLw t n 19 (pHol t n o (hol t n) (eit t n) (pSm0 t n (pFac t n o (sub t n))))) (pBth t n (pHol t n o (hol t n) (eit t n) (pSm0 t n (pFac t n o (sub t n)))) s) := by
                    first
                    | exact rL_t f17 (Vh15).pw ((x_one OL (by omega)).trans (pLw_n (k := 400 - (v3L5 + 1).toNat) (by omega) c8 (S35.b1 (by omega))))
                    | exact rL_f S35.1 (Vh15).pw ((x_one OL (by omega)).trans (pLw_f (k := 400 - (v3L5 + 1).toNat) (by omega) c8 (S35.b0 (by omega))))
                  refine zwW_inc (i := 3) (c := 1) (x := v3L5) (nx := 59) (by decide +kernel) rfl ⟨by omega, by omega⟩ (ls' := [(2, 9), (0, a), (0, 1), (0, (v3L5 + 1))]) rfl ?_
                  refine zwW_p [(24, 8, 0)] (q := 8) (ls' := [(2, 9), (0, a), (0, 1), (0, (v3L5 + 1))]) (st' := []) (by decide +kernel) rfl ?_
                  exact IHL5 ((1000 - (v3L5 + 1))).toNat (by omega) 1 (v3L5 + 1) h18 rfl (Bh18) (LB) (by omega) (by omega) Ch18 (Xh18.le (by decide) (by decide))
          · refine zwif_eq (q := 62) (nx := 28) (by decide +kernel) (fun c20 => ?_) (fun c20 => ?_)
            · refine zwW_p [(1, 2, 0)] (q := 63) (ls' := [(2, 9), (0, a), (0, v2L5), (0, v3L5)]) (st' := [(0, v2L5)]) (by decide +kernel) rfl ?_
              refine zwW_ret (nx := 64) (a := 1) (b := 0) (by decide +kernel) rfl (Or.inr (Or.inl ⟨rfl, by omega⟩)) ?_
              refine ⟨ChL5, XhL5.le (by decide) (by decide), by omega, ?_⟩
              show rR t n hL5 v2L5 (pBth t n (pHol t n o (hol t n) (eit t n) (pSm0 t n (pFac t n o (sub t n)))) s)
              first
              | (exact rL_x QL OL (Or.inr (pLw_z (Or.inl (by omega)))))
              | (exact rL_x QL OL (Or.inl (by omega)))
              | (exact rL_x QL OL (Or.inr (pLw_z (Or.inr c8))))
              | (exfalso; omega)
            · exfalso; omega
  exact L5 _ v3 0 h4 rfl (Bh4) (rL_0 S2 Wh4) (by omega) (by omega) Ch4 (Xh4.le (by decide) (by decide))
-- WheelLand$Reader.either(I)Z
theorem x242_q {sc : List Int} (a : Int) (D0 : Nat) (pa : 0 ≤ a ∧ a ≤ 8) (o : Bool) (sub : pT → Nat → pQ → pR) (ho : (a < 8 ∧ o = true) ∨ (8 ≤ a ∧ o = false)) (hs : ∀ (t : pT) (n : Nat), pG n (sub t n)) (HS : a < 8 → rX sc D0 241 (a + 1) sub) (hol eit : pT → Nat → pQ → pR) (hh : ∀ (t : pT) (n : Nat), pG n (hol t n)) (he : ∀ (t : pT) (n : Nat), pG n (eit t n)) (HT : a < 8 → rX sc D0 281 (a + 1) hol) (HE : a < 8 → rX sc D0 242 (a + 1) eit) : rX sc (D0 + 25) 242 a (fun t n => pEi0 t n (pHol t n o (hol t n) (eit t n) (pSm0 t n (pFac t n o (sub t n))))) := by
  intro h C t n s B Q0 W0
  refine zwC_of (D := D0 + 24) 4 (by decide +kernel) rfl (ls := [(2, 9), (0, a), (9, 0), (9, 0)]) rfl ?_
  have X : zXR msxK 0 0 h h := zXR.rf _ _
  refine zwW_p [(1, 0, 2), (1, 1, 0)] (q := 2) (ls' := [(2, 9), (0, a), (9, 0), (9, 0)]) (st' := [(0, a), (2, 9)]) (by decide +kernel) rfl ?_
  refine zwW_cm C.1 (op := 60) (k' := 263) (n := 1) (kd := 7) (m := 9) (nx := 5) (r := 9) (tl := [(0, a)]) (st' := []) (by decide +kernel) rfl (by decide +kernel) (Nat.ble_eq_true_of_le (by omega)) (x263_q a D0 pa o sub ho hs HS hol eit hh he HT HE h C t n s B Q0 W0) ?_
  rintro v3 h4 ⟨Ch4, Qh4, f1, f2⟩
  have Xh4 : zXR msxK (0) (0) h h4 := X.tr (c2 := 0) (s2 := 0) Qh4 (by decide +kernel) (by decide) (by decide)
  have Bh4 : rB t n h4 := B.fr Qh4 (by decide +kernel)
  have S2 := f2
  have Wh4 : rW n ((pBth t n (pHol t n o (hol t n) (eit t n) (pSm0 t n (pFac t n o (sub t n))))) s).2 := (W0).fn (pG_bth (pG_hol (hh t n) (he t n) (pG_sm0 (pG_fac (hs t n)))))
  refine zwW_p [(2, 2, 0), (0, 0, 0), (2, 3, 0)] (q := 8) (ls' := [(2, 9), (0, a), (0, v3), (0, 0)]) (st' := []) (by decide +kernel) rfl ?_
  have L5 : ∀ (n0 : Nat) (v2L5 v3L5 : Int) (hL5 : Hp), n0 = ((1000 - v3L5)).toNat → (rB t n hL5) → (rL t n hL5 v2L5 (400 - (v3L5).toNat) (pLw t n 18 (pBth t n (pHol t n o (hol t n) (eit t n) (pSm0 t n (pFac t n o (sub t n)))))) (pEi0 t n (pHol t n o (hol t n) (eit t n) (pSm0 t n (pFac t n o (sub t n)))) s)) → (0 ≤ v2L5 ∧ v2L5 ≤ 1) → (0 ≤ v3L5 ∧ v3L5 ≤ 1000) → CI hL5 → zXR msxK (0) (0) h hL5 → zwW sc (D0 + 24) 242 8 [(2, 9), (0, a), (0, v2L5), (0, v3L5)] [] hL5 (zwRt 0 (fun x g => CI g ∧ zXR msxK (0) (0) h g ∧ (0 ≤ x ∧ x ≤ 1) ∧ rR t n g x ((pEi0 t n (pHol t n o (hol t n) (eit t n) (pSm0 t n (pFac t n o (sub t n))))) s))) := by
    intro n0
    induction n0 using Nat.strongRecOn with
    | ind n0 IHL5 =>
      intro v2L5 v3L5 hL5 hnL5 iL5_0 iL5_1 iL5_2 iL5_3 ChL5 XhL5
      obtain ⟨qL, QL, WL, OL⟩ := iL5_1
      refine zwW_p [(1, 3, 0), (0, 400, 0)] (q := 12) (ls' := [(2, 9), (0, a), (0, v2L5), (0, v3L5)]) (st' := [(0, 400), (0, v3L5)]) (by decide +kernel) rfl ?_
      refine zwic_ge (q := 62) (nx := 15) (by decide +kernel) (fun c6 => ?_) (fun c6 => ?_)
      · refine zwW_p [(1, 2, 0)] (q := 63) (ls' := [(2, 9), (0, a), (0, v2L5), (0, v3L5)]) (st' := [(0, v2L5)]) (by decide +kernel) rfl ?_
        refine zwW_ret (nx := 64) (a := 1) (b := 0) (by decide +kernel) rfl (Or.inr (Or.inl ⟨rfl, by omega⟩)) ?_
        refine ⟨ChL5, XhL5.le (by decide) (by decide), by omega, ?_⟩
        show rR t n hL5 v2L5 (pEi0 t n (pHol t n o (hol t n) (eit t n) (pSm0 t n (pFac t n o (sub t n)))) s)
        first
        | (exact rL_x QL OL (Or.inr (pLw_z (Or.inl (by omega)))))
        | (exact rL_x QL OL (Or.inl (by omega)))
        | (exact rL_x QL OL (Or.inr (pLw_z (Or.inr trivial))))
        | (exfalso; omega)
      · refine zwW_p [(1, 2, 0)] (q := 16) (ls' := [(2, 9), (0, a), (0, v2L5), (0, v3L5)]) (st' := [(0, v2L5)]) (by decide +kernel) rfl ?_
        refine zwif_eq (q := 62) (nx := 19) (by decide +kernel) (fun c7 => ?_) (fun c7 => ?_)
        · refine zwW_p [(1, 2, 0)] (q := 63) (ls' := [(2, 9), (0, a), (0, v2L5), (0, v3L5)]) (st' := [(0, v2L5)]) (by decide +kernel) rfl ?_
          refine zwW_ret (nx := 64) (a := 1) (b := 0) (by decide +kernel) rfl (Or.inr (Or.inl ⟨rfl, by omega⟩)) ?_
          refine ⟨ChL5, XhL5.le (by decide) (by decide), by omega, ?_⟩
          show rR t n hL5 v2L5 (pEi0 t n (pHol t n o (hol t n) (eit t n) (pSm0 t n (pFac t n o (sub t n)))) s)
          first
          | (exact rL_x QL OL (Or.inr (pLw_z (Or.inl (by omega)))))
          | (exact rL_x QL OL (Or.inl (by omega)))
          | (exact rL_x QL OL (Or.inr (pLw_z (Or.inr trivial))))
          | (exfalso; omega)
        · refine zwW_p [(1, 0, 2), (0, 18, 0)] (q := 22) (ls' := [(2, 9), (0, a), (0, v2L5), (0, v3L5)]) (st' := [(0, 18), (2, 9)]) (by decide +kernel) rfl ?_
          refine zwW_cm ChL5.1 (op := 60) (k' := 264) (n := 1) (kd := 7) (m := 9) (nx := 25) (r := 9) (tl := [(0, 18)]) (st' := []) (by decide +kernel) rfl (by decide +kernel) (Nat.ble_eq_true_of_le (by omega)) (x264_p hL5 ChL5 18 t n qL.1 (by omega) QL.1) ?_
          rintro x _ ⟨rfl, ⟨rfl, c8⟩ | ⟨rfl, c8⟩⟩
          · refine zwif_eq (q := 62) (nx := 28) (by decide +kernel) (fun c9 => ?_) (fun c9 => ?_)
            · exfalso; omega
            · refine zwW_p [(1, 0, 2)] (q := 29) (ls' := [(2, 9), (0, a), (0, v2L5), (0, v3L5)]) (st' := [(2, 9)]) (by decide +kernel) rfl ?_
              have KZ := c8.1
              refine zwW_cm ChL5.1 (op := 60) (k' := 198) (n := 0) (kd := 7) (m := 9) (nx := 32) (r := 9) (tl := []) (st' := []) (by decide +kernel) rfl (by decide +kernel) (Nat.ble_eq_true_of_le (by omega)) (x198_q hL5 ChL5 t n qL iL5_0 QL (WL).2) ?_
              rintro x h11 ⟨Ch11, Qh11, rfl, f10⟩
              have Xh11 : zXR msxK (0) (0) h h11 := XhL5.tr (c2 := 0) (s2 := 0) Qh11 (by decide +kernel) (by decide) (by decide)
              have th11_9_6 : fld h11 9 6 = fld hL5 9 6 := Qh11.f (a1 := 9) (a2 := 9) (j1 := 6) (j2 := 7) (by decide +kernel) ⟨by decide, by decide⟩ ⟨by decide, by decide⟩ ⟨by decide, by decide⟩
              have Bh11 : rB t n h11 := iL5_0.fr Qh11 (by decide +kernel)
              have Vh11 : rV n (pA t n qL) := (WL).a (by omega)
              refine zwW_p [(15, 0, 0), (1, 0, 2), (1, 1, 0)] (q := 35) (ls' := [(2, 9), (0, a), (0, v2L5), (0, v3L5)]) (st' := [(0, a), (2, 9)]) (by decide +kernel) rfl ?_
              refine zwW_cm Ch11.1 (op := 60) (k' := 263) (n := 1) (kd := 7) (m := 9) (nx := 38) (r := 9) (tl := [(0, a)]) (st' := []) (by decide +kernel) rfl (by decide +kernel) (Nat.ble_eq_true_of_le (by omega)) (x263_q a D0 pa o sub ho hs HS hol eit hh he HT HE h11 Ch11 t n (pA t n qL) Bh11 f10 Vh11.wk) ?_
              rintro v14 h15 ⟨Ch15, Qh15, f12, f13⟩
              have Xh15 : zXR msxK (0) (0) h h15 := Xh11.tr (c2 := 0) (s2 := 0) Qh15 (by decide +kernel) (by decide) (by decide)
              have Bh15 : rB t n h15 := Bh11.fr Qh15 (by decide +kernel)
              have S35 := f13
              have Vh15 : rV n ((pBth t n (pHol t n o (hol t n) (eit t n) (pSm0 t n (pFac t n o (sub t n))))) (pA t n qL)).2 := (Vh11).fn (pG_bth (pG_hol (hh t n) (he t n) (pG_sm0 (pG_fac (hs t n)))))
              refine zwif_eq (q := 54) (nx := 41) (by decide +kernel) (fun c16 => ?_) (fun c16 => ?_)
              · refine zwW_p [(0, 0, 0), (2, 2, 0)] (q := 56) (ls' := [(2, 9), (0, a), (0, 0), (0, v3L5)]) (st' := []) (by decide +kernel) rfl ?_
                have LB : rL t n h15 0 (400 - (v3L5 + 1).toNat) (pLw t n 18 (pBth t n (pHol t n o (hol t n) (eit t n) (pSm0 t n (pFac t n o (sub t n)))))) (pEi0 t n (pHol t n o (hol t n) (eit t n) (pSm0 t n (pFac t n o (sub t n)))) s) := by
                  first
                  | exact rL_t S35.1 Vh15.wk ((x_one OL (by omega)).trans (pLw_n (k := 400 - (v3L5 + 1).toNat) (by omega) c8 (S35.b1 (by omega))))
                  | exact rL_f S35.1 Vh15.wk ((x_one OL (by omega)).trans (pLw_f (k := 400 - (v3L5 + 1).toNat) (by omega) c8 (S35.b0 (by omega))))
                refine zwW_inc (i := 3) (c := 1) (x := v3L5) (nx := 59) (by decide +kernel) rfl ⟨by omega, by omega⟩ (ls' := [(2, 9), (0, a), (0, 0), (0, (v3L5 + 1))]) rfl ?_
                refine zwW_p [(24, 8, 0)] (q := 8) (ls' := [(2, 9), (0, a), (0, 0), (0, (v3L5 + 1))]) (st' := []) (by decide +kernel) rfl ?_
                exact IHL5 ((1000 - (v3L5 + 1))).toNat (by omega) 0 (v3L5 + 1) h15 rfl (Bh15) (LB) (by omega) (by omega) Ch15 (Xh15.le (by decide) (by decide))
              · refine zwW_p [(1, 0, 2), (0, -18, 0)] (q := 44) (ls' := [(2, 9), (0, a), (0, v2L5), (0, v3L5)]) (st' := [(0, -18), (2, 9)]) (by decide +kernel) rfl ?_
                refine zwW_cm Ch15.1 (op := 60) (k' := 243) (n := 1) (kd := 7) (m := 9) (nx := 47) (r := 9) (tl := [(0, -18)]) (st' := []) (by decide +kernel) rfl (by decide +kernel) (Nat.ble_eq_true_of_le (by omega)) (x243_q h15 Ch15 (-18) t n (pBth t n (pHol t n o (hol t n) (eit t n) (pSm0 t n (pFac t n o (sub t n)))) (pA t n qL)).2 (by omega) S35.1 (Vh15.lt Bh15 S35.1)) ?_
                rintro x h18 ⟨Ch18, Qh18, rfl, f17⟩
                have Xh18 : zXR msxK (0) (0) h h18 := Xh15.tr (c2 := 0) (s2 := 0) Qh18 (by decide +kernel) (by decide) (by decide)
                have Bh18 : rB t n h18 := Bh15.fr Qh18 (by decide +kernel)
                refine zwif_eq (q := 54) (nx := 50) (by decide +kernel) (fun c19 => ?_) (fun c19 => ?_)
                · exfalso; omega
                · refine zwW_p [(0, 1, 0), (24, 55, 0), (2, 2, 0)] (q := 56) (ls' := [(2, 9), (0, a), (0, 1), (0, v3L5)]) (st' := []) (by decide +kernel) rfl ?_
                  have LB : rL t n h18 1 (400 - (v3L5 + 1).toNat) (pLw t n 18 (pBth t n (pHol t n o (hol t n) (eit t n) (pSm0 t n (pFac t n o (sub t n)))))) (pEi0 t n (pHol t n o (hol t n) (eit t n) (pSm0 t n (pFac t n o (sub t n)))) s) := by
                    first
                    | exact rL_t f17 (Vh15).pw ((x_one OL (by omega)).trans (pLw_n (k := 400 - (v3L5 + 1).toNat) (by omega) c8 (S35.b1 (by omega))))
                    | exact rL_f S35.1 (Vh15).pw ((x_one OL (by omega)).trans (pLw_f (k := 400 - (v3L5 + 1).toNat) (by omega) c8 (S35.b0 (by omega))))
                  refine zwW_inc (i := 3) (c := 1) (x := v3L5) (nx := 59) (by decide +kernel) rfl ⟨by omega, by omega⟩ (ls' := [(2, 9), (0, a), (0, 1), (0, (v3L5 + 1))]) rfl ?_
                  refine zwW_p [(24, 8, 0)] (q := 8) (ls' := [(2, 9), (0, a), (0, 1), (0, (v3L5 + 1))]) (st' := []) (by decide +kernel) rfl ?_
                  exact IHL5 ((1000 - (v3L5 + 1))).toNat (by omega) 1 (v3L5 + 1) h18 rfl (Bh18) (LB) (by omega) (by omega) Ch18 (Xh18.le (by decide) (by decide))
          · refine zwif_eq (q := 62) (nx := 28) (by decide +kernel) (fun c20 => ?_) (fun c20 => ?_)
            · refine zwW_p [(1, 2, 0)] (q := 63) (ls' := [(2, 9), (0, a), (0, v2L5), (0, v3L5)]) (st' := [(0, v2L5)]) (by decide +kernel) rfl ?_
              refine zwW_ret (nx := 64) (a := 1) (b := 0) (by decide +kernel) rfl (Or.inr (Or.inl ⟨rfl, by omega⟩)) ?_
              refine ⟨ChL5, XhL5.le (by decide) (by decide), by omega, ?_⟩
              show rR t n hL5 v2L5 (pEi0 t n (pHol t n o (hol t n) (eit t n) (pSm0 t n (pFac t n o (sub t n)))) s)
              first
              | (exact rL_x QL OL (Or.inr (pLw_z (Or.inl (by omega)))))
              | (exact rL_x QL OL (Or.inl (by omega)))
              | (exact rL_x QL OL (Or.inr (pLw_z (Or.inr c8))))
              | (exfalso; omega)
            · exfalso; omega
  exact L5 _ v3 0 h4 rfl (Bh4) (rL_0 S2 Wh4) (by omega) (by omega) Ch4 (Xh4.le (by decide) (by decide))
