/-! contracts of the class -/
def msx199_q : Zms := [(9, 9, 2, 7), (11, 11, 0, 400), (12, 12, 0, 5)]
-- WheelLand$Reader.clause()Z
theorem x199_q {sc : List Int} (h : Hp) (C : CI h) (t : pT) (n : Nat) (s : pQ) (b : Nat → Int) (B : rB t n h) (Q0 : rQ t n h s) (W0 : rW n s) (G : rGb b h) : zwC sc 231 199 [(2, 9)] h (zwRt 0 (fun x g => CI g ∧ zXR msx199_q (0) (0) h g ∧ (0 ≤ x ∧ x ≤ 1) ∧ (rC t n g x (pCls t n s b)))) := by
  refine zwC_of (D := 230) 3 (by decide +kernel) rfl (ls := [(2, 9), (9, 0), (9, 0)]) rfl ?_
  have X : zXR msx199_q 0 0 h h := zXR.rf _ _
  refine zwW_p [(1, 0, 2)] (q := 1) (ls' := [(2, 9), (9, 0), (9, 0)]) (st' := [(2, 9)]) (by decide +kernel) rfl ?_
  refine zwW_gs C.1 (kd := 7) (bn := 4) (n := 9) (t := 0) (lo := -2147483648) (hi := 2147483647) (nx := 4) (by decide +kernel) ?_
  intro v1 ev1 lv1 uv1
  have kv1 : v1 = pK t n s.1 := ev1.trans (Q0).kd
  refine zwW_p [(0, 1, 0)] (q := 5) (ls' := [(2, 9), (9, 0), (9, 0)]) (st' := [(0, 1), (0, v1)]) (by decide +kernel) rfl ?_
  refine zwic_ne (q := 18) (nx := 8) (by decide +kernel) (fun c2 => ?_) (fun c2 => ?_)
  · refine zwW_p [(0, -1, 0), (2, 1, 0), (1, 1, 0), (0, 0, 0), (0, 4, 0)] (q := 23) (ls' := [(2, 9), (0, -1), (9, 0)]) (st' := [(0, 4), (0, 0), (0, -1)]) (by decide +kernel) rfl ?_
    refine zwW_cs (k' := 98) (n := 3) (nx := 26) (as := [(0, -1), (0, 0), (0, 4)]) (st' := []) (by decide +kernel) rfl (x98 h C (-1) 0 4 (by omega) (by omega) (by omega)) rfl ?_
    rintro x _ ⟨rfl, ⟨rfl, c3⟩ | ⟨rfl, c3⟩⟩
    · refine zwif_ne (q := 39) (nx := 29) (by decide +kernel) (fun c4 => ?_) (fun c4 => ?_)
      · refine zwW_p [(0, 0, 0)] (q := 40) (ls' := [(2, 9), (0, -1), (9, 0)]) (st' := [(0, 0)]) (by decide +kernel) rfl ?_
        refine zwW_ret (nx := 41) (a := 1) (b := 0) (by decide +kernel) rfl (Or.inr (Or.inl ⟨rfl, by omega⟩)) ?_
        refine ⟨C, X.le (by decide) (by decide), by omega, ?_⟩
        first
        | (rw [pCls_no (fun z => by obtain ⟨z1, z2, z3, z4⟩ := z; omega)]; exact rC_f Q0 W0 G)
        | (rw [pCls_f CC (SB.b0 (by omega))]; exact rC_f SB.1 VB.wk G)
        | (rw [pCls_s CC (SB.b1 (by omega)) (by omega)]; exact rC_f SB.1 VB.wk G)
        | (rw [pCls_t CC (SB.b1 (by omega)) (by omega)]; exact rC_t Q0 (W0) G)
      · exfalso; omega
    · exfalso; omega
  · refine zwW_p [(1, 0, 2)] (q := 9) (ls' := [(2, 9), (9, 0), (9, 0)]) (st' := [(2, 9)]) (by decide +kernel) rfl ?_
    refine zwW_gs C.1 (kd := 7) (bn := 5) (n := 9) (t := 0) (lo := -2147483648) (hi := 2147483647) (nx := 12) (by decide +kernel) ?_
    intro v5 ev5 lv5 uv5
    have kv5 : pK t n s.1 = 1 ∨ pK t n s.1 = 2 → v5 = pV t n s.1 := fun z => ev5.trans ((Q0).vl z)
    have VA := kv5 (Or.inl (by omega))
    have VW := pV_w (t := t) (n := n) (p := s.1) (by omega)
    refine zwW_p [(0, 13, 0)] (q := 14) (ls' := [(2, 9), (9, 0), (9, 0)]) (st' := [(0, 13), (0, v5)]) (by decide +kernel) rfl ?_
    refine zwW_sub (nx := 15) (by decide +kernel) ⟨by omega, by omega⟩ ?_
    refine zwW_p [(24, 19, 0), (2, 1, 0), (1, 1, 0), (0, 0, 0), (0, 4, 0)] (q := 23) (ls' := [(2, 9), (0, (v5 - 13)), (9, 0)]) (st' := [(0, 4), (0, 0), (0, (v5 - 13))]) (by decide +kernel) rfl ?_
    refine zwW_cs (k' := 98) (n := 3) (nx := 26) (as := [(0, (v5 - 13)), (0, 0), (0, 4)]) (st' := []) (by decide +kernel) rfl (x98 h C (v5 - 13) 0 4 (by omega) (by omega) (by omega)) rfl ?_
    rintro x _ ⟨rfl, ⟨rfl, c6⟩ | ⟨rfl, c6⟩⟩
    · refine zwif_ne (q := 39) (nx := 29) (by decide +kernel) (fun c7 => ?_) (fun c7 => ?_)
      · refine zwW_p [(0, 0, 0)] (q := 40) (ls' := [(2, 9), (0, (v5 - 13)), (9, 0)]) (st' := [(0, 0)]) (by decide +kernel) rfl ?_
        refine zwW_ret (nx := 41) (a := 1) (b := 0) (by decide +kernel) rfl (Or.inr (Or.inl ⟨rfl, by omega⟩)) ?_
        refine ⟨C, X.le (by decide) (by decide), by omega, ?_⟩
        first
        | (rw [pCls_no (fun z => by obtain ⟨z1, z2, z3, z4⟩ := z; omega)]; exact rC_f Q0 W0 G)
        | (rw [pCls_f CC (SB.b0 (by omega))]; exact rC_f SB.1 VB.wk G)
        | (rw [pCls_s CC (SB.b1 (by omega)) (by omega)]; exact rC_f SB.1 VB.wk G)
        | (rw [pCls_t CC (SB.b1 (by omega)) (by omega)]; exact rC_t Q0 (W0) G)
      · exfalso; omega
    · refine zwif_ne (q := 39) (nx := 29) (by decide +kernel) (fun c8 => ?_) (fun c8 => ?_)
      · exfalso; omega
      · refine zwW_p [(1, 0, 2)] (q := 30) (ls' := [(2, 9), (0, (v5 - 13)), (9, 0)]) (st' := [(2, 9)]) (by decide +kernel) rfl ?_
        refine zwW_gc C.1 (kd := 7) (bn := 8) (n := 9) (c := 12) (nx := 33) (by decide +kernel) ?_
        refine zwW_p [(1, 1, 0)] (q := 34) (ls' := [(2, 9), (0, (v5 - 13)), (9, 0)]) (st' := [(0, (v5 - 13)), (2, 12)]) (by decide +kernel) rfl ?_
        refine zwW_al C.1 (a1 := 12) (a2 := 12) (kd := 20) (n := 5) (t := 0) (lo := -2147483648) (hi := 2147483647) (nx := 35) (by decide +kernel) ⟨by decide, by decide⟩ ⟨by omega, by omega⟩ ?_
        intro v9 ev9 lv9 uv9
        have G35 := G ((v5 - 13)).toNat (by omega)
        have VX : ((v5 - 13)).toNat = (pV t n s.1 - 13).toNat := by omega
        rw [VX] at G35
        have E35 : v9 = fld h 12 (pV t n s.1 - 13).toNat := by rw [ev9]; congr 1
        refine zwW_p [(0, -1, 0)] (q := 36) (ls' := [(2, 9), (0, (v5 - 13)), (9, 0)]) (st' := [(0, -1), (0, v9)]) (by decide +kernel) rfl ?_
        refine zwic_eq (q := 41) (nx := 39) (by decide +kernel) (fun c10 => ?_) (fun c10 => ?_)
        · have CC : pCc t n s b := ⟨by omega, by omega, by omega, by omega⟩
          refine zwW_p [(1, 0, 2)] (q := 42) (ls' := [(2, 9), (0, (v5 - 13)), (9, 0)]) (st' := [(2, 9)]) (by decide +kernel) rfl ?_
          refine zwW_gc C.1 (kd := 7) (bn := 8) (n := 9) (c := 12) (nx := 45) (by decide +kernel) ?_
          refine zwW_p [(1, 1, 0), (1, 0, 2)] (q := 47) (ls' := [(2, 9), (0, (v5 - 13)), (9, 0)]) (st' := [(2, 9), (0, (v5 - 13)), (2, 12)]) (by decide +kernel) rfl ?_
          refine zwW_gs C.1 (kd := 7) (bn := 6) (n := 9) (t := 0) (lo := 0) (hi := 400) (nx := 50) (by decide +kernel) ?_
          intro v11 ev11 lv11 uv11
          refine zwW_as C.1 (a1 := 12) (a2 := 12) (n := 5) (lo := -2147483648) (hi := 2147483647) (nx := 51) (by decide +kernel) ⟨by decide, by decide⟩ ⟨by omega, by omega⟩ ⟨by omega, by omega⟩ ?_
          intro h12 eh12 Ih12
          have Ch12 : CI h12 := C.wc eh12 Ih12 (by decide) (by decide)
          have Qh12 : zXR [(12, 12, 0, 5)] 0 0 h h12 := zXR.wc eh12 rfl ⟨by decide, by decide, Or.inl (by decide)⟩ ⟨by omega, by omega⟩
          have RQ50 : rQ t n h12 s := Q0.fr Qh12 (by decide +kernel)
          have G50 : rGb (zu b (pV t n s.1 - 13).toNat s.2.1) h12 := G.wt (by rw [eh12, ← VX, show v11 = ((s.2.1 : Nat) : Int) by have z := Q0.2.1; omega]) (C.1.s (a1 := 12) (a2 := 12) (k := 20) (n := 5) (by decide +kernel) (by decide) (by decide)) (by omega)
          have Xh12 : zXR msx199_q (0) (0) h h12 := X.tr (c2 := 0) (s2 := 0) Qh12 (by decide +kernel) (by decide) (by decide)
          have th12_9_6 : fld h12 9 6 = fld h 9 6 := Qh12.f (a1 := 9) (a2 := 9) (j1 := 6) (j2 := 7) (by decide +kernel) ⟨by decide, by decide⟩ ⟨by decide, by decide⟩ ⟨by decide, by decide⟩
          have Bh12 : rB t n h12 := B.fr Qh12 (by decide +kernel)
          refine zwW_p [(1, 0, 2)] (q := 52) (ls' := [(2, 9), (0, (v5 - 13)), (9, 0)]) (st' := [(2, 9)]) (by decide +kernel) rfl ?_
          refine zwW_cm Ch12.1 (op := 60) (k' := 198) (n := 0) (kd := 7) (m := 9) (nx := 55) (r := 9) (tl := []) (st' := []) (by decide +kernel) rfl (by decide +kernel) rfl (x198_q h12 Ch12 t n s Bh12 (RQ50) (W0).2) ?_
          rintro x h14 ⟨Ch14, Qh14, rfl, f13⟩
          have Xh14 : zXR msx199_q (0) (0) h h14 := Xh12.tr (c2 := 0) (s2 := 0) Qh14 (by decide +kernel) (by decide) (by decide)
          have th14_9_6 : fld h14 9 6 = fld h12 9 6 := Qh14.f (a1 := 9) (a2 := 9) (j1 := 6) (j2 := 7) (by decide +kernel) ⟨by decide, by decide⟩ ⟨by decide, by decide⟩ ⟨by decide, by decide⟩
          have Bh14 : rB t n h14 := Bh12.fr Qh14 (by decide +kernel)
          have Gh14 := G50.fr Qh14 (by decide +kernel)
          have Vh14 : rV n (pA t n s) := (W0).a (by omega)
          refine zwW_p [(15, 0, 0)] (q := 56) (ls' := [(2, 9), (0, (v5 - 13)), (9, 0)]) (st' := []) (by decide +kernel) rfl ?_
          refine zwW_p [(1, 1, 0), (0, 3, 0)] (q := 58) (ls' := [(2, 9), (0, (v5 - 13)), (9, 0)]) (st' := [(0, 3), (0, (v5 - 13))]) (by decide +kernel) rfl ?_
          refine zwic_ge (q := 69) (nx := 61) (by decide +kernel) (fun c15 => ?_) (fun c15 => ?_)
          · refine zwW_p [(1, 0, 2), (0, 0, 0)] (q := 71) (ls' := [(2, 9), (0, (v5 - 13)), (9, 0)]) (st' := [(0, 0), (2, 9)]) (by decide +kernel) rfl ?_
            refine zwW_cm Ch14.1 (op := 60) (k' := 242) (n := 1) (kd := 7) (m := 9) (nx := 74) (r := 9) (tl := [(0, 0)]) (st' := []) (by decide +kernel) rfl (by decide +kernel) rfl (zr_either sc h14 Ch14 t n (pA t n s) Bh14 (f13) Vh14.wk) ?_
            rintro v18 h19 ⟨Ch19, Qh19, f16, f17⟩
            have Xh19 : zXR msx199_q (0) (0) h h19 := Xh14.tr (c2 := 0) (s2 := 0) Qh19 (by decide +kernel) (by decide) (by decide)
            have Bh19 : rB t n h19 := Bh14.fr Qh19 (by decide +kernel)
            have Gh19 := Gh14.fr Qh19 (by decide +kernel)
            have S71 := f17
            have Vh19 : rV n ((pEi t n 8) (pA t n s)).2 := (Vh14).fn (pG_ei 8)
            have SB : rR t n h19 v18 (pBo t n s) := by unfold pBo pCb; first | (rw [if_pos (by omega)]; exact S63) | (rw [if_neg (by omega)]; exact S71)
            have VB : rV n (pBo t n s).2 := (Vh14).fn (pG_cb (t := t) (pV t n s.1 - 13))
            refine zwW_p [(2, 2, 0)] (q := 75) (ls' := [(2, 9), (0, (v5 - 13)), (0, v18)]) (st' := []) (by decide +kernel) rfl ?_
            refine zwW_p [(1, 2, 0)] (q := 76) (ls' := [(2, 9), (0, (v5 - 13)), (0, v18)]) (st' := [(0, v18)]) (by decide +kernel) rfl ?_
            refine zwif_eq (q := 108) (nx := 79) (by decide +kernel) (fun c20 => ?_) (fun c20 => ?_)
            · refine zwW_p [(0, 0, 0)] (q := 109) (ls' := [(2, 9), (0, (v5 - 13)), (0, v18)]) (st' := [(0, 0)]) (by decide +kernel) rfl ?_
              refine zwW_ret (nx := 110) (a := 1) (b := 0) (by decide +kernel) rfl (Or.inr (Or.inl ⟨rfl, by omega⟩)) ?_
              refine ⟨Ch19, Xh19.le (by decide) (by decide), by omega, ?_⟩
              first
              | (rw [pCls_no (fun z => by obtain ⟨z1, z2, z3, z4⟩ := z; omega)]; exact rC_f Q0 W0 Gh19)
              | (rw [pCls_f CC (SB.b0 (by omega))]; exact rC_f SB.1 VB.wk Gh19)
              | (rw [pCls_s CC (SB.b1 (by omega)) (by omega)]; exact rC_f SB.1 VB.wk Gh19)
              | (rw [pCls_t CC (SB.b1 (by omega)) (by omega)]; exact rC_t SB.1 (VB.wk) Gh19)
            · refine zwW_p [(1, 0, 2)] (q := 80) (ls' := [(2, 9), (0, (v5 - 13)), (0, v18)]) (st' := [(2, 9)]) (by decide +kernel) rfl ?_
              refine zwW_gs Ch19.1 (kd := 7) (bn := 4) (n := 9) (t := 0) (lo := -2147483648) (hi := 2147483647) (nx := 83) (by decide +kernel) ?_
              intro v21 ev21 lv21 uv21
              have kv21 : v21 = pK t n (pBo t n s).2.1 := ev21.trans (SB.1).kd
              refine zwW_p [(0, 59, 0)] (q := 85) (ls' := [(2, 9), (0, (v5 - 13)), (0, v18)]) (st' := [(0, 59), (0, v21)]) (by decide +kernel) rfl ?_
              refine zwic_ne (q := 108) (nx := 88) (by decide +kernel) (fun c22 => ?_) (fun c22 => ?_)
              · refine zwW_p [(0, 0, 0)] (q := 109) (ls' := [(2, 9), (0, (v5 - 13)), (0, v18)]) (st' := [(0, 0)]) (by decide +kernel) rfl ?_
                refine zwW_ret (nx := 110) (a := 1) (b := 0) (by decide +kernel) rfl (Or.inr (Or.inl ⟨rfl, by omega⟩)) ?_
                refine ⟨Ch19, Xh19.le (by decide) (by decide), by omega, ?_⟩
                first
                | (rw [pCls_no (fun z => by obtain ⟨z1, z2, z3, z4⟩ := z; omega)]; exact rC_f Q0 W0 Gh19)
                | (rw [pCls_f CC (SB.b0 (by omega))]; exact rC_f SB.1 VB.wk Gh19)
                | (rw [pCls_s CC (SB.b1 (by omega)) (by omega)]; exact rC_f SB.1 VB.wk Gh19)
                | (rw [pCls_t CC (SB.b1 (by omega)) (by omega)]; exact rC_t SB.1 (VB.wk) Gh19)
              · refine zwW_p [(1, 0, 2)] (q := 89) (ls' := [(2, 9), (0, (v5 - 13)), (0, v18)]) (st' := [(2, 9)]) (by decide +kernel) rfl ?_
                refine zwW_cm Ch19.1 (op := 60) (k' := 198) (n := 0) (kd := 7) (m := 9) (nx := 92) (r := 9) (tl := []) (st' := []) (by decide +kernel) rfl (by decide +kernel) rfl (x198_q h19 Ch19 t n (pBo t n s).2 Bh19 (SB.1) (VB.wk).2) ?_
                rintro x h24 ⟨Ch24, Qh24, rfl, f23⟩
                have Xh24 : zXR msx199_q (0) (0) h h24 := Xh19.tr (c2 := 0) (s2 := 0) Qh24 (by decide +kernel) (by decide) (by decide)
                have th24_9_6 : fld h24 9 6 = fld h19 9 6 := Qh24.f (a1 := 9) (a2 := 9) (j1 := 6) (j2 := 7) (by decide +kernel) ⟨by decide, by decide⟩ ⟨by decide, by decide⟩ ⟨by decide, by decide⟩
                have Bh24 : rB t n h24 := Bh19.fr Qh24 (by decide +kernel)
                have Gh24 := Gh19.fr Qh24 (by decide +kernel)
                have Vh24 : rV n (pA t n ((pBo t n s).2)) := (VB.wk).a (by omega)
                refine zwif_eq (q := 108) (nx := 95) (by decide +kernel) (fun c25 => ?_) (fun c25 => ?_)
                · exfalso; omega
                · refine zwW_p [(1, 0, 2), (0, -21, 0)] (q := 98) (ls' := [(2, 9), (0, (v5 - 13)), (0, v18)]) (st' := [(0, -21), (2, 9)]) (by decide +kernel) rfl ?_
                  refine zwW_cm Ch24.1 (op := 60) (k' := 243) (n := 1) (kd := 7) (m := 9) (nx := 101) (r := 9) (tl := [(0, -21)]) (st' := []) (by decide +kernel) rfl (by decide +kernel) rfl (x243_q h24 Ch24 (-21) t n (pA t n ((pBo t n s).2)) (by omega) f23 ((Vh24).lt Bh24 f23)) ?_
                  rintro x h27 ⟨Ch27, Qh27, rfl, f26⟩
                  have Xh27 : zXR msx199_q (0) (0) h h27 := Xh24.tr (c2 := 0) (s2 := 0) Qh27 (by decide +kernel) (by decide) (by decide)
                  have Bh27 : rB t n h27 := Bh24.fr Qh27 (by decide +kernel)
                  have Gh27 := Gh24.fr Qh27 (by decide +kernel)
                  refine zwif_eq (q := 108) (nx := 104) (by decide +kernel) (fun c28 => ?_) (fun c28 => ?_)
                  · exfalso; omega
                  · refine zwW_p [(0, 1, 0), (24, 109, 0)] (q := 109) (ls' := [(2, 9), (0, (v5 - 13)), (0, v18)]) (st' := [(0, 1)]) (by decide +kernel) rfl ?_
                    refine zwW_ret (nx := 110) (a := 1) (b := 0) (by decide +kernel) rfl (Or.inr (Or.inl ⟨rfl, by omega⟩)) ?_
                    refine ⟨Ch27, Xh27.le (by decide) (by decide), by omega, ?_⟩
                    first
                    | (rw [pCls_no (fun z => by obtain ⟨z1, z2, z3, z4⟩ := z; omega)]; exact rC_f Q0 W0 Gh27)
                    | (rw [pCls_f CC (SB.b0 (by omega))]; exact rC_f SB.1 VB.wk Gh27)
                    | (rw [pCls_s CC (SB.b1 (by omega)) (by omega)]; exact rC_f SB.1 VB.wk Gh27)
                    | (rw [pCls_t CC (SB.b1 (by omega)) (by omega)]; exact rC_t f26 ((Vh24).pw) Gh27)
          · refine zwW_p [(1, 0, 2), (0, 0, 0)] (q := 63) (ls' := [(2, 9), (0, (v5 - 13)), (9, 0)]) (st' := [(0, 0), (2, 9)]) (by decide +kernel) rfl ?_
            refine zwW_cm Ch14.1 (op := 60) (k' := 241) (n := 1) (kd := 7) (m := 9) (nx := 66) (r := 9) (tl := [(0, 0)]) (st' := []) (by decide +kernel) rfl (by decide +kernel) rfl (zr_sum sc h14 Ch14 t n (pA t n s) Bh14 (f13) Vh14.wk) ?_
            rintro v31 h32 ⟨Ch32, Qh32, f29, f30⟩
            have Xh32 : zXR msx199_q (0) (0) h h32 := Xh14.tr (c2 := 0) (s2 := 0) Qh32 (by decide +kernel) (by decide) (by decide)
            have Bh32 : rB t n h32 := Bh14.fr Qh32 (by decide +kernel)
            have Gh32 := Gh14.fr Qh32 (by decide +kernel)
            have S63 := f30
            have Vh32 : rV n ((pSum t n 8) (pA t n s)).2 := (Vh14).fn (pG_sum 8)
            refine zwW_p [(24, 74, 0)] (q := 74) (ls' := [(2, 9), (0, (v5 - 13)), (9, 0)]) (st' := [(0, v31)]) (by decide +kernel) rfl ?_
            have SB : rR t n h32 v31 (pBo t n s) := by unfold pBo pCb; first | (rw [if_pos (by omega)]; exact S63) | (rw [if_neg (by omega)]; exact S71)
            have VB : rV n (pBo t n s).2 := (Vh14).fn (pG_cb (t := t) (pV t n s.1 - 13))
            refine zwW_p [(2, 2, 0)] (q := 75) (ls' := [(2, 9), (0, (v5 - 13)), (0, v31)]) (st' := []) (by decide +kernel) rfl ?_
            refine zwW_p [(1, 2, 0)] (q := 76) (ls' := [(2, 9), (0, (v5 - 13)), (0, v31)]) (st' := [(0, v31)]) (by decide +kernel) rfl ?_
            refine zwif_eq (q := 108) (nx := 79) (by decide +kernel) (fun c33 => ?_) (fun c33 => ?_)
            · refine zwW_p [(0, 0, 0)] (q := 109) (ls' := [(2, 9), (0, (v5 - 13)), (0, v31)]) (st' := [(0, 0)]) (by decide +kernel) rfl ?_
              refine zwW_ret (nx := 110) (a := 1) (b := 0) (by decide +kernel) rfl (Or.inr (Or.inl ⟨rfl, by omega⟩)) ?_
              refine ⟨Ch32, Xh32.le (by decide) (by decide), by omega, ?_⟩
              first
              | (rw [pCls_no (fun z => by obtain ⟨z1, z2, z3, z4⟩ := z; omega)]; exact rC_f Q0 W0 Gh32)
              | (rw [pCls_f CC (SB.b0 (by omega))]; exact rC_f SB.1 VB.wk Gh32)
              | (rw [pCls_s CC (SB.b1 (by omega)) (by omega)]; exact rC_f SB.1 VB.wk Gh32)
              | (rw [pCls_t CC (SB.b1 (by omega)) (by omega)]; exact rC_t SB.1 (VB.wk) Gh32)
            · refine zwW_p [(1, 0, 2)] (q := 80) (ls' := [(2, 9), (0, (v5 - 13)), (0, v31)]) (st' := [(2, 9)]) (by decide +kernel) rfl ?_
              refine zwW_gs Ch32.1 (kd := 7) (bn := 4) (n := 9) (t := 0) (lo := -2147483648) (hi := 2147483647) (nx := 83) (by decide +kernel) ?_
              intro v34 ev34 lv34 uv34
              have kv34 : v34 = pK t n (pBo t n s).2.1 := ev34.trans (SB.1).kd
              refine zwW_p [(0, 59, 0)] (q := 85) (ls' := [(2, 9), (0, (v5 - 13)), (0, v31)]) (st' := [(0, 59), (0, v34)]) (by decide +kernel) rfl ?_
              refine zwic_ne (q := 108) (nx := 88) (by decide +kernel) (fun c35 => ?_) (fun c35 => ?_)
              · refine zwW_p [(0, 0, 0)] (q := 109) (ls' := [(2, 9), (0, (v5 - 13)), (0, v31)]) (st' := [(0, 0)]) (by decide +kernel) rfl ?_
                refine zwW_ret (nx := 110) (a := 1) (b := 0) (by decide +kernel) rfl (Or.inr (Or.inl ⟨rfl, by omega⟩)) ?_
                refine ⟨Ch32, Xh32.le (by decide) (by decide), by omega, ?_⟩
                first
                | (rw [pCls_no (fun z => by obtain ⟨z1, z2, z3, z4⟩ := z; omega)]; exact rC_f Q0 W0 Gh32)
                | (rw [pCls_f CC (SB.b0 (by omega))]; exact rC_f SB.1 VB.wk Gh32)
                | (rw [pCls_s CC (SB.b1 (by omega)) (by omega)]; exact rC_f SB.1 VB.wk Gh32)
                | (rw [pCls_t CC (SB.b1 (by omega)) (by omega)]; exact rC_t SB.1 (VB.wk) Gh32)
              · refine zwW_p [(1, 0, 2)] (q := 89) (ls' := [(2, 9), (0, (v5 - 13)), (0, v31)]) (st' := [(2, 9)]) (by decide +kernel) rfl ?_
                refine zwW_cm Ch32.1 (op := 60) (k' := 198) (n := 0) (kd := 7) (m := 9) (nx := 92) (r := 9) (tl := []) (st' := []) (by decide +kernel) rfl (by decide +kernel) rfl (x198_q h32 Ch32 t n (pBo t n s).2 Bh32 (SB.1) (VB.wk).2) ?_
                rintro x h37 ⟨Ch37, Qh37, rfl, f36⟩
                have Xh37 : zXR msx199_q (0) (0) h h37 := Xh32.tr (c2 := 0) (s2 := 0) Qh37 (by decide +kernel) (by decide) (by decide)
                have th37_9_6 : fld h37 9 6 = fld h32 9 6 := Qh37.f (a1 := 9) (a2 := 9) (j1 := 6) (j2 := 7) (by decide +kernel) ⟨by decide, by decide⟩ ⟨by decide, by decide⟩ ⟨by decide, by decide⟩
                have Bh37 : rB t n h37 := Bh32.fr Qh37 (by decide +kernel)
                have Gh37 := Gh32.fr Qh37 (by decide +kernel)
                have Vh37 : rV n (pA t n ((pBo t n s).2)) := (VB.wk).a (by omega)
                refine zwif_eq (q := 108) (nx := 95) (by decide +kernel) (fun c38 => ?_) (fun c38 => ?_)
                · exfalso; omega
                · refine zwW_p [(1, 0, 2), (0, -21, 0)] (q := 98) (ls' := [(2, 9), (0, (v5 - 13)), (0, v31)]) (st' := [(0, -21), (2, 9)]) (by decide +kernel) rfl ?_
                  refine zwW_cm Ch37.1 (op := 60) (k' := 243) (n := 1) (kd := 7) (m := 9) (nx := 101) (r := 9) (tl := [(0, -21)]) (st' := []) (by decide +kernel) rfl (by decide +kernel) rfl (x243_q h37 Ch37 (-21) t n (pA t n ((pBo t n s).2)) (by omega) f36 ((Vh37).lt Bh37 f36)) ?_
                  rintro x h40 ⟨Ch40, Qh40, rfl, f39⟩
                  have Xh40 : zXR msx199_q (0) (0) h h40 := Xh37.tr (c2 := 0) (s2 := 0) Qh40 (by decide +kernel) (by decide) (by decide)
                  have Bh40 : rB t n h40 := Bh37.fr Qh40 (by decide +kernel)
                  have Gh40 := Gh37.fr Qh40 (by decide +kernel)
                  refine zwif_eq (q := 108) (nx := 104) (by decide +kernel) (fun c41 => ?_) (fun c41 => ?_)
                  · exfalso; omega
                  · refine zwW_p [(0, 1, 0), (24, 109, 0)] (q := 109) (ls' := [(2, 9), (0, (v5 - 13)), (0, v31)]) (st' := [(0, 1)]) (by decide +kernel) rfl ?_
                    refine zwW_ret (nx := 110) (a := 1) (b := 0) (by decide +kernel) rfl (Or.inr (Or.inl ⟨rfl, by omega⟩)) ?_
                    refine ⟨Ch40, Xh40.le (by decide) (by decide), by omega, ?_⟩
                    first
                    | (rw [pCls_no (fun z => by obtain ⟨z1, z2, z3, z4⟩ := z; omega)]; exact rC_f Q0 W0 Gh40)
                    | (rw [pCls_f CC (SB.b0 (by omega))]; exact rC_f SB.1 VB.wk Gh40)
                    | (rw [pCls_s CC (SB.b1 (by omega)) (by omega)]; exact rC_f SB.1 VB.wk Gh40)
                    | (rw [pCls_t CC (SB.b1 (by omega)) (by omega)]; exact rC_t f39 ((Vh37).pw) Gh40)
        · refine zwW_p [(0, 0, 0)] (q := 40) (ls' := [(2, 9), (0, (v5 - 13)), (9, 0)]) (st' := [(0, 0)]) (by decide +kernel) rfl ?_
          refine zwW_ret (nx := 41) (a := 1) (b := 0) (by decide +kernel) rfl (Or.inr (Or.inl ⟨rfl, by omega⟩)) ?_
          refine ⟨C, X.le (by decide) (by decide), by omega, ?_⟩
          first
          | (rw [pCls_no (fun z => by obtain ⟨z1, z2, z3, z4⟩ := z; omega)]; exact rC_f Q0 W0 G)
          | (rw [pCls_f CC (SB.b0 (by omega))]; exact rC_f SB.1 VB.wk G)
          | (rw [pCls_s CC (SB.b1 (by omega)) (by omega)]; exact rC_f SB.1 VB.wk G)
          | (rw [pCls_t CC (SB.b1 (by omega)) (by omega)]; exact rC_t Q0 (W0) G)
def msx120_q : Zms := [(9, 9, 2, 7), (11, 11, 0, 400), (12, 12, 0, 5)]
-- WheelLand$Reader.read()I
theorem x120_q {sc : List Int} (h : Hp) (C : CI h) (t : pT) (n : Nat) (c : Nat → Int) (B : rB t n h) (hc : fld h 11 = c) : zwC sc 232 120 [(2, 9)] h (zwRt 0 (fun x g => CI g ∧ zXR msx120_q (0) (0) h g ∧ (-2147483648 ≤ x ∧ x ≤ 2147483647) ∧ (x = pFa t n c) ∧ (fld g 11 = (pRead t n c).2.1.2.2 ∧ fld g 9 6 = (((pRead t n c).2.1.2.1 : Nat) : Int) ∧ rGb (pRead t n c).2.2 g))) := by
  refine zwC_of (D := 231) 2 (by decide +kernel) rfl (ls := [(2, 9), (9, 0)]) rfl ?_
  have X : zXR msx120_q 0 0 h h := zXR.rf _ _
  refine zwW_p [(1, 0, 2), (0, 0, 0)] (q := 2) (ls' := [(2, 9), (9, 0)]) (st' := [(0, 0), (2, 9)]) (by decide +kernel) rfl ?_
  refine zwW_ps C.1 (kd := 7) (bn := 2) (n := 9) (lo := 0) (hi := 400) (nx := 5) (by decide +kernel) ⟨by decide, by decide⟩ ?_
  intro h1 eh1 Ih1
  have Ch1 : CI h1 := C.wc eh1 Ih1 (by decide) (by decide)
  have Qh1 : zXR [(9, 9, 2, 3)] 0 0 h h1 := zXR.wc eh1 rfl ⟨by decide, by decide, Or.inl (by decide)⟩ ⟨by decide, by decide⟩
  have Xh1 : zXR msx120_q (0) (0) h h1 := X.tr (c2 := 0) (s2 := 0) Qh1 (by decide +kernel) (by decide) (by decide)
  have kh1_11 : fld h1 11 = (fld h 11) := (Qh1.fa (a := 11) (by decide +kernel) (by decide)).trans (rfl : fld h 11 = fld h 11)
  have th1_9_6 : fld h1 9 6 = fld h 9 6 := Qh1.f (a1 := 9) (a2 := 9) (j1 := 6) (j2 := 7) (by decide +kernel) ⟨by decide, by decide⟩ ⟨by decide, by decide⟩ ⟨by decide, by decide⟩
  have Bh1 : rB t n h1 := B.fr Qh1 (by decide +kernel)
  have th1_9_2 : fld h1 9 2 = 0 := by rw [eh1]; exact fld_wr_eq (C.1.s (a1 := 9) (a2 := 9) (k := 7) (n := 9) (by decide +kernel) (by decide) (by decide)) (by decide)
  refine zwW_p [(1, 0, 2), (0, 0, 0)] (q := 7) (ls' := [(2, 9), (9, 0)]) (st' := [(0, 0), (2, 9)]) (by decide +kernel) rfl ?_
  refine zwW_ps Ch1.1 (kd := 7) (bn := 6) (n := 9) (lo := 0) (hi := 400) (nx := 10) (by decide +kernel) ⟨by decide, by decide⟩ ?_
  intro h2 eh2 Ih2
  have Ch2 : CI h2 := Ch1.wc eh2 Ih2 (by decide) (by decide)
  have Qh2 : zXR [(9, 9, 6, 7)] 0 0 h1 h2 := zXR.wc eh2 rfl ⟨by decide, by decide, Or.inl (by decide)⟩ ⟨by decide, by decide⟩
  have Xh2 : zXR msx120_q (0) (0) h h2 := Xh1.tr (c2 := 0) (s2 := 0) Qh2 (by decide +kernel) (by decide) (by decide)
  have kh2_11 : fld h2 11 = (fld h 11) := (Qh2.fa (a := 11) (by decide +kernel) (by decide)).trans kh1_11
  have th2_9_2 : fld h2 9 2 = fld h1 9 2 := Qh2.f (a1 := 9) (a2 := 9) (j1 := 2) (j2 := 3) (by decide +kernel) ⟨by decide, by decide⟩ ⟨by decide, by decide⟩ ⟨by decide, by decide⟩
  have Bh2 : rB t n h2 := Bh1.fr Qh2 (by decide +kernel)
  have th2_9_6 : fld h2 9 6 = 0 := by rw [eh2]; exact fld_wr_eq (Ch1.1.s (a1 := 9) (a2 := 9) (k := 7) (n := 9) (by decide +kernel) (by decide) (by decide)) (by decide)
  refine zwW_p [(1, 0, 2)] (q := 11) (ls' := [(2, 9), (9, 0)]) (st' := [(2, 9)]) (by decide +kernel) rfl ?_
  refine zwW_gc Ch2.1 (kd := 7) (bn := 8) (n := 9) (c := 12) (nx := 14) (by decide +kernel) ?_
  refine zwW_p [(0, -1, 0)] (q := 15) (ls' := [(2, 9), (9, 0)]) (st' := [(0, -1), (2, 12)]) (by decide +kernel) rfl ?_
  refine zwW_csv (k' := 180) (n := 2) (nx := 18) (as := [(2, 12), (0, -1)]) (st' := []) (by decide +kernel) rfl (x180_12 Ch2 ⟨by omega, by omega⟩) rfl ?_
  rintro h3 ⟨Ch3, Qh3, fh3⟩
  have G15 : rGb (fun _ => -1) h3 := fun c hc => fh3 c hc
  have Xh3 : zXR msx120_q (0) (0) h h3 := Xh2.tr (c2 := 0) (s2 := 0) Qh3 (by decide +kernel) (by decide) (by decide)
  have kh3_11 : fld h3 11 = (fld h 11) := (Qh3.fa (a := 11) (by decide +kernel) (by decide)).trans kh2_11
  have th3_9_2 : fld h3 9 2 = fld h2 9 2 := Qh3.f (a1 := 9) (a2 := 9) (j1 := 2) (j2 := 3) (by decide +kernel) ⟨by decide, by decide⟩ ⟨by decide, by decide⟩ ⟨by decide, by decide⟩
  have th3_9_6 : fld h3 9 6 = fld h2 9 6 := Qh3.f (a1 := 9) (a2 := 9) (j1 := 6) (j2 := 7) (by decide +kernel) ⟨by decide, by decide⟩ ⟨by decide, by decide⟩ ⟨by decide, by decide⟩
  have Bh3 : rB t n h3 := Bh2.fr Qh3 (by decide +kernel)
  refine zwW_p [(1, 0, 2)] (q := 19) (ls' := [(2, 9), (9, 0)]) (st' := [(2, 9)]) (by decide +kernel) rfl ?_
  refine zwW_cm Ch3.1 (op := 60) (k' := 198) (n := 0) (kd := 7) (m := 9) (nx := 22) (r := 9) (tl := []) (st' := []) (by decide +kernel) rfl (by decide +kernel) rfl (x198_p h3 Ch3 t n 0 Bh3 (by omega) (Nat.zero_le _)) ?_
  rintro x h5 ⟨Ch5, Qh5, rfl, f4⟩
  have kh5_11 : fld h5 11 = (fld h 11) := (Qh5.fa (a := 11) (by decide +kernel) (by decide)).trans kh3_11
  have Xh5 : zXR msx120_q (0) (0) h h5 := Xh3.tr (c2 := 0) (s2 := 0) Qh5 (by decide +kernel) (by decide) (by decide)
  have th5_9_6 : fld h5 9 6 = fld h3 9 6 := Qh5.f (a1 := 9) (a2 := 9) (j1 := 6) (j2 := 7) (by decide +kernel) ⟨by decide, by decide⟩ ⟨by decide, by decide⟩ ⟨by decide, by decide⟩
  have Bh5 : rB t n h5 := Bh3.fr Qh5 (by decide +kernel)
  have G19 := G15.fr Qh5 (by decide +kernel)
  have Q19 : rQ t n h5 (pSk t n 0, 0, c) := ⟨f4, by show fld h5 9 6 = ((0 : Nat) : Int); omega, kh5_11.trans hc⟩
  have W19 : rW n (pSk t n 0, 0, c) := ⟨Nat.zero_le _, f4.2.1⟩
  refine zwW_p [(15, 0, 0), (0, 0, 0), (2, 1, 0)] (q := 25) (ls' := [(2, 9), (0, 0)]) (st' := []) (by decide +kernel) rfl ?_
  have L6 : ∀ (n0 : Nat) (kL6 : Int) (hL6 : Hp), n0 = ((1000 - kL6)).toNat → (rB t n hL6) → (rD t n hL6 (400 - (kL6).toNat) (pRead t n c)) → (0 ≤ kL6 ∧ kL6 ≤ 400) → CI hL6 → zXR msx120_q (0) (0) h hL6 → zwW sc (231) 120 25 [(2, 9), (0, kL6)] [] hL6 (zwRt 0 (fun x g => CI g ∧ zXR msx120_q (0) (0) h g ∧ (-2147483648 ≤ x ∧ x ≤ 2147483647) ∧ (x = pFa t n c) ∧ (fld g 11 = (pRead t n c).2.1.2.2 ∧ fld g 9 6 = (((pRead t n c).2.1.2.1 : Nat) : Int) ∧ rGb (pRead t n c).2.2 g))) := by
    intro n0
    induction n0 using Nat.strongRecOn with
    | ind n0 IHL6 =>
      intro kL6 hL6 hnL6 iL6_0 iL6_1 iL6_2 ChL6 XhL6
      obtain ⟨qL, bL, QL, WL, GL, TL⟩ := iL6_1
      refine zwW_p [(1, 1, 0), (0, 400, 0)] (q := 29) (ls' := [(2, 9), (0, kL6)]) (st' := [(0, 400), (0, kL6)]) (by decide +kernel) rfl ?_
      refine zwic_ge (q := 57) (nx := 32) (by decide +kernel) (fun c7 => ?_) (fun c7 => ?_)
      · refine zwW_p [(0, -1, 0)] (q := 58) (ls' := [(2, 9), (0, kL6)]) (st' := [(0, -1)]) (by decide +kernel) rfl ?_
        refine zwW_ret (nx := 59) (a := 0) (b := 0) (by decide +kernel) rfl (Or.inl rfl) ?_
        have TE : pRead t n c = (true, qL, bL) := by rw [TL]; exact pRd_z (by omega)
        refine ⟨ChL6, XhL6.le (by decide) (by decide), by omega, by rw [pFa_t (by rw [TE])], ?_⟩
        rw [TE]
        exact ⟨QL.2.2, QL.2.1, GL⟩
      · refine zwW_p [(1, 0, 2)] (q := 33) (ls' := [(2, 9), (0, kL6)]) (st' := [(2, 9)]) (by decide +kernel) rfl ?_
        refine zwW_gs ChL6.1 (kd := 7) (bn := 4) (n := 9) (t := 0) (lo := -2147483648) (hi := 2147483647) (nx := 36) (by decide +kernel) ?_
        intro v8 ev8 lv8 uv8
        have kv8 : v8 = pK t n qL.1 := ev8.trans (QL).kd
        refine zwif_eq (q := 57) (nx := 39) (by decide +kernel) (fun c9 => ?_) (fun c9 => ?_)
        · refine zwW_p [(0, -1, 0)] (q := 58) (ls' := [(2, 9), (0, kL6)]) (st' := [(0, -1)]) (by decide +kernel) rfl ?_
          refine zwW_ret (nx := 59) (a := 0) (b := 0) (by decide +kernel) rfl (Or.inl rfl) ?_
          have TE : pRead t n c = (true, qL, bL) := by rw [TL]; exact pRd_z (by omega)
          refine ⟨ChL6, XhL6.le (by decide) (by decide), by omega, by rw [pFa_t (by rw [TE])], ?_⟩
          rw [TE]
          exact ⟨QL.2.2, QL.2.1, GL⟩
        · refine zwW_p [(1, 0, 2)] (q := 40) (ls' := [(2, 9), (0, kL6)]) (st' := [(2, 9)]) (by decide +kernel) rfl ?_
          refine zwW_cm ChL6.1 (op := 60) (k' := 199) (n := 0) (kd := 7) (m := 9) (nx := 43) (r := 9) (tl := []) (st' := []) (by decide +kernel) rfl (by decide +kernel) rfl (x199_q hL6 ChL6 t n qL bL iL6_0 QL WL GL) ?_
          rintro v12 h13 ⟨Ch13, Qh13, f10, f11⟩
          have Xh13 : zXR msx120_q (0) (0) h h13 := XhL6.tr (c2 := 0) (s2 := 0) Qh13 (by decide +kernel) (by decide) (by decide)
          have Bh13 : rB t n h13 := iL6_0.fr Qh13 (by decide +kernel)
          have S40 := f11
          refine zwif_ne (q := 51) (nx := 46) (by decide +kernel) (fun c14 => ?_) (fun c14 => ?_)
          · have LB : rD t n h13 (399 - (kL6).toNat) (pRead t n c) := ⟨_, _, S40.1, S40.2.1, S40.2.2.1, by rw [TL]; exact pRd_n (k := 399 - (kL6).toNat) (by omega) (by omega) (S40.b1 (by omega))⟩
            refine zwW_inc (i := 1) (c := 1) (x := kL6) (nx := 54) (by decide +kernel) rfl ⟨by omega, by omega⟩ (ls' := [(2, 9), (0, (kL6 + 1))]) rfl ?_
            refine zwW_p [(24, 25, 0)] (q := 25) (ls' := [(2, 9), (0, (kL6 + 1))]) (st' := []) (by decide +kernel) rfl ?_
            exact IHL6 ((1000 - (kL6 + 1))).toNat (by omega) (kL6 + 1) h13 rfl (Bh13) (by rw [show 400 - (kL6 + 1).toNat = 399 - (kL6).toNat by omega]; exact LB) (by omega) Ch13 (Xh13.le (by decide) (by decide))
          · refine zwW_p [(1, 0, 2)] (q := 47) (ls' := [(2, 9), (0, kL6)]) (st' := [(2, 9)]) (by decide +kernel) rfl ?_
            refine zwW_gs Ch13.1 (kd := 7) (bn := 3) (n := 9) (t := 0) (lo := 0) (hi := 400) (nx := 50) (by decide +kernel) ?_
            intro v15 ev15 lv15 uv15
            refine zwW_ret (nx := 51) (a := 0) (b := 0) (by decide +kernel) rfl (Or.inl rfl) ?_
            have TE : pRead t n c = pCls t n qL bL := by rw [TL]; exact pRd_f (k := 399 - (kL6).toNat) (by omega) (by omega) (S40.b0 (by omega))
            have TF : ¬ (pCls t n qL bL).1 = true := S40.b0 (by omega)
            have TP := S40.1.1.1
            refine ⟨Ch13, Xh13.le (by decide) (by decide), by omega, by rw [pFa_f (by rw [TE]; exact TF), TE]; omega, ?_⟩
            rw [TE]
            exact ⟨S40.1.2.2, S40.1.2.1, S40.2.2.1⟩
  exact L6 _ 0 h5 rfl (Bh5) (⟨_, _, Q19, W19, G19, rfl⟩) (by omega) Ch5 (Xh5.le (by decide) (by decide))
def msx27_q : Zms := [(9, 9, 2, 7), (11, 11, 0, 400), (12, 12, 0, 5)]
-- WheelLand.fault()I
theorem x27_q {sc : List Int} (h : Hp) (C : CI h) (t : pT) (n : Nat) (c : Nat → Int) (B : rB t n h) (hc : fld h 11 = c) : zwC sc 233 27 [(2, 1)] h (zwRt 0 (fun x g => CI g ∧ zXR msx27_q (0) (0) h g ∧ (-2147483648 ≤ x ∧ x ≤ 2147483647) ∧ (x = pFa t n c))) := by
  refine zwC_of (D := 232) 1 (by decide +kernel) rfl (ls := [(2, 1)]) rfl ?_
  have X : zXR msx27_q 0 0 h h := zXR.rf _ _
  refine zwW_p [(1, 0, 2)] (q := 1) (ls' := [(2, 1)]) (st' := [(2, 1)]) (by decide +kernel) rfl ?_
  refine zwW_gc C.1 (kd := 12) (bn := 7) (n := 13) (c := 9) (nx := 4) (by decide +kernel) ?_
  refine zwW_cm C.1 (op := 60) (k' := 120) (n := 0) (kd := 7) (m := 9) (nx := 7) (r := 9) (tl := []) (st' := []) (by decide +kernel) rfl (by decide +kernel) rfl (x120_q h C t n c B hc) ?_
  rintro v4 h5 ⟨Ch5, Qh5, f1, f2, f3⟩
  have Xh5 : zXR msx27_q (0) (0) h h5 := X.tr (c2 := 0) (s2 := 0) Qh5 (by decide +kernel) (by decide) (by decide)
  refine zwW_ret (nx := 8) (a := 0) (b := 0) (by decide +kernel) rfl (Or.inl rfl) ?_
  exact ⟨Ch5, Xh5.le (by decide) (by decide), by omega, by exact f2⟩
