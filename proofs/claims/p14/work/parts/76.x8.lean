/-! contracts of the class -/
def msx82 : Zms := [(1023, 1023, 0, 100000)]
-- WheelLandModel.check(III)I
theorem x82 {sc : List Int} (h : Hp) (C : CI h) (a b c : Int) (q_a : -2147483648 ≤ a ∧ a ≤ 2147483647) (q_b : -2147483648 ≤ b ∧ b ≤ 2147483647) (q_c : -2147483648 ≤ c ∧ c ≤ 2147483647) : zwC sc 2 82 [(2, 37), (0, a), (0, b), (0, c)] h (zwRt 0 (fun x g => CI g ∧ zXR msx82 (1) (6) h g ∧ (-2147483648 ≤ x ∧ x ≤ 2147483647))) := by
  refine zwC_of (D := 1) 6 (by decide +kernel) rfl (ls := [(2, 37), (0, a), (0, b), (0, c), (9, 0), (9, 0)]) rfl ?_
  have X : zXR msx82 0 0 h h := zXR.rf _ _
  refine zwW_p [(1, 1, 0), (7, 0, 0), (0, 0, 1), (1, 0, 2)] (q := 4) (ls' := [(2, 37), (0, a), (0, b), (0, c), (9, 0), (9, 0)]) (st' := [(2, 37), (1, 0), (1, a)]) (by decide +kernel) rfl ?_
  refine zwW_gs C.1 (kd := 13) (bn := 0) (n := 97) (t := 0) (lo := 0) (hi := 156) (nx := 7) (by decide +kernel) ?_
  intro v1 ev1 lv1 uv1
  refine zwW_p [(0, 1, 0)] (q := 8) (ls' := [(2, 37), (0, a), (0, b), (0, c), (9, 0), (9, 0)]) (st' := [(0, 1), (0, v1), (1, 0), (1, a)]) (by decide +kernel) rfl ?_
  refine zwW_sub (nx := 9) (by decide +kernel) ⟨by omega, by omega⟩ ?_
  refine zwW_p [(7, 0, 0)] (q := 10) (ls' := [(2, 37), (0, a), (0, b), (0, c), (9, 0), (9, 0)]) (st' := [(1, (v1 - 1)), (1, 0), (1, a)]) (by decide +kernel) rfl ?_
  refine zwW_cs (k' := 101) (n := 3) (nx := 13) (as := [(1, a), (1, 0), (1, (v1 - 1))]) (st' := []) (by decide +kernel) rfl (m101 h a 0 (v1 - 1)) rfl ?_
  rintro x _ ⟨rfl, ⟨rfl, c2⟩ | ⟨rfl, c2⟩⟩
  · refine zwif_eq (q := 28) (nx := 16) (by decide +kernel) (fun c3 => ?_) (fun c3 => ?_)
    · exfalso; omega
    · refine zwW_p [(1, 2, 0), (7, 0, 0), (0, 0, 1), (0, 5, 1)] (q := 22) (ls' := [(2, 37), (0, a), (0, b), (0, c), (9, 0), (9, 0)]) (st' := [(1, 5), (1, 0), (1, b)]) (by decide +kernel) rfl ?_
      refine zwW_cs (k' := 101) (n := 3) (nx := 25) (as := [(1, b), (1, 0), (1, 5)]) (st' := []) (by decide +kernel) rfl (m101 h b 0 5) rfl ?_
      rintro x _ ⟨rfl, ⟨rfl, c4⟩ | ⟨rfl, c4⟩⟩
      · refine zwif_ne (q := 30) (nx := 28) (by decide +kernel) (fun c5 => ?_) (fun c5 => ?_)
        · refine zwW_p [(0, 6, 0)] (q := 32) (ls' := [(2, 37), (0, a), (0, b), (0, c), (9, 0), (9, 0)]) (st' := [(0, 6)]) (by decide +kernel) rfl ?_
          refine zwW_newa (op := 43) (kd := 23) (a := 23) (nx := 34) (by decide +kernel) (Or.inl rfl) rfl (by decide) (by decide) ?_
          rintro h6 r7 eh6 er7
          have Oh6 : zOld h h6 := by rw [eh6]; exact zOld.app _
          have Ch6 : CI h6 := C.old Oh6 (by rw [eh6]; exact C.2.1.app (fun x hx => by rw [List.eq_of_mem_replicate hx]; decide))
          have Qh6 : zXR [] 1 6 h h6 := Oh6.xr (c := 1) (s := 6) C (by rw [eh6, List.length_append, List.length_singleton]; exact Nat.le_refl _) (by rw [eh6, sz_app]; unfold sz; simp) []
          have Gr7 : gJ 6 h6 r7 := ⟨by have := C.len; omega, by rw [eh6, er7]; exact sh_new _ _⟩
          have lr7 := Gr7.1
          have Xh6 : zXR msx82 (1) (6) h h6 := X.tr (c2 := 1) (s2 := 6) Qh6 (by decide +kernel) (by decide) (by decide)
          refine zwW_p [(2, 4, 2), (0, 0, 0), (2, 5, 0)] (q := 39) (ls' := [(2, 37), (0, a), (0, b), (0, c), (2, r7), (0, 0)]) (st' := []) (by decide +kernel) rfl ?_
          have L8 : ∀ (n : Nat) (v5L8 : Int) (hL8 : Hp), n = ((1000 - v5L8)).toNat → (0 ≤ v5L8 ∧ v5L8 ≤ 6) → (gJ 6 hL8 r7) → CI hL8 → zXR msx82 (1) (6) h hL8 → zwW sc (1) 82 39 [(2, 37), (0, a), (0, b), (0, c), (2, r7), (0, v5L8)] [] hL8 (zwRt 0 (fun x g => CI g ∧ zXR msx82 (1) (6) h g ∧ (-2147483648 ≤ x ∧ x ≤ 2147483647))) := by
            intro n
            induction n using Nat.strongRecOn with
            | ind n IHL8 =>
              intro v5L8 hL8 hnL8 iL8_0 gL8_0 ChL8 XhL8
              refine zwW_p [(1, 5, 0), (0, 6, 0)] (q := 43) (ls' := [(2, 37), (0, a), (0, b), (0, c), (2, r7), (0, v5L8)]) (st' := [(0, 6), (0, v5L8)]) (by decide +kernel) rfl ?_
              refine zwic_ge (q := 88) (nx := 46) (by decide +kernel) (fun c9 => ?_) (fun c9 => ?_)
              · refine zwW_p [(1, 4, 2), (0, 2, 0)] (q := 91) (ls' := [(2, 37), (0, a), (0, b), (0, c), (2, r7), (0, v5L8)]) (st' := [(0, 2), (2, r7)]) (by decide +kernel) rfl ?_
                refine zwW_ald (a := 23) (kd := 23) (n := 6) (t := 1) (nx := 92) (by decide +kernel) gL8_0.2 rfl (by omega) (by omega) ?_
                obtain ⟨v10, ev10⟩ : ∃ z, z = fld hL8 r7 (2 : Int).toNat := ⟨_, rfl⟩
                rw [← ev10]
                refine zwW_p [(1, 4, 2), (0, 3, 0)] (q := 95) (ls' := [(2, 37), (0, a), (0, b), (0, c), (2, r7), (0, v5L8)]) (st' := [(0, 3), (2, r7), (1, v10)]) (by decide +kernel) rfl ?_
                refine zwW_ald (a := 23) (kd := 23) (n := 6) (t := 1) (nx := 96) (by decide +kernel) gL8_0.2 rfl (by omega) (by omega) ?_
                obtain ⟨v11, ev11⟩ : ∃ z, z = fld hL8 r7 (3 : Int).toNat := ⟨_, rfl⟩
                rw [← ev11]
                refine zwW_law (nx := 97) (by decide +kernel) ?_
                intro v12 ev12 lv12 uv12
                refine zwW_p [(1, 4, 2), (0, 4, 0)] (q := 100) (ls' := [(2, 37), (0, a), (0, b), (0, c), (2, r7), (0, v5L8)]) (st' := [(0, 4), (2, r7), (1, v12)]) (by decide +kernel) rfl ?_
                refine zwW_ald (a := 23) (kd := 23) (n := 6) (t := 1) (nx := 101) (by decide +kernel) gL8_0.2 rfl (by omega) (by omega) ?_
                obtain ⟨v13, ev13⟩ : ∃ z, z = fld hL8 r7 (4 : Int).toNat := ⟨_, rfl⟩
                rw [← ev13]
                refine zwW_law (nx := 102) (by decide +kernel) ?_
                intro v14 ev14 lv14 uv14
                refine zwW_p [(1, 4, 2), (0, 5, 0)] (q := 105) (ls' := [(2, 37), (0, a), (0, b), (0, c), (2, r7), (0, v5L8)]) (st' := [(0, 5), (2, r7), (1, v14)]) (by decide +kernel) rfl ?_
                refine zwW_ald (a := 23) (kd := 23) (n := 6) (t := 1) (nx := 106) (by decide +kernel) gL8_0.2 rfl (by omega) (by omega) ?_
                obtain ⟨v15, ev15⟩ : ∃ z, z = fld hL8 r7 (5 : Int).toNat := ⟨_, rfl⟩
                rw [← ev15]
                refine zwlc_eq (q := 112) (nx := 110) (m := 107) (by decide +kernel) (by decide +kernel) (fun c16 => ?_) (fun c16 => ?_)
                · refine zwW_p [(1, 4, 2), (0, 5, 0)] (q := 115) (ls' := [(2, 37), (0, a), (0, b), (0, c), (2, r7), (0, v5L8)]) (st' := [(0, 5), (2, r7)]) (by decide +kernel) rfl ?_
                  refine zwW_ald (a := 23) (kd := 23) (n := 6) (t := 1) (nx := 116) (by decide +kernel) gL8_0.2 rfl (by omega) (by omega) ?_
                  obtain ⟨v17, ev17⟩ : ∃ z, z = fld hL8 r7 (5 : Int).toNat := ⟨_, rfl⟩
                  rw [← ev17]
                  refine zwW_p [(1, 1, 0)] (q := 117) (ls' := [(2, 37), (0, a), (0, b), (0, c), (2, r7), (0, v5L8)]) (st' := [(0, a), (1, v17)]) (by decide +kernel) rfl ?_
                  refine zwif_ne (q := 124) (nx := 120) (by decide +kernel) (fun c18 => ?_) (fun c18 => ?_)
                  · refine zwW_p [(1, 0, 2)] (q := 125) (ls' := [(2, 37), (0, a), (0, b), (0, c), (2, r7), (0, v5L8)]) (st' := [(2, 37), (1, v17)]) (by decide +kernel) rfl ?_
                    refine zwW_gc ChL8.1 (kd := 13) (bn := 91) (n := 97) (c := 205) (nx := 128) (by decide +kernel) ?_
                    refine zwW_p [(1, 1, 0), (0, 1, 0)] (q := 130) (ls' := [(2, 37), (0, a), (0, b), (0, c), (2, r7), (0, v5L8)]) (st' := [(0, 1), (0, a), (2, 205), (1, v17)]) (by decide +kernel) rfl ?_
                    refine zwW_sub (nx := 131) (by decide +kernel) ⟨by omega, by omega⟩ ?_
                    refine zwW_ro ChL8.1 (a := 205) (n := 156) (kd := 26) (base := 206) (step := 1) (nx := 132) (by decide +kernel) rfl ⟨by omega, by omega⟩ ?_
                    rw [show ((206 : Nat) : Int) + ((1 : Nat) : Int) * (a - 1) = (206 + (a - 1)) by omega]
                    refine zwW_p [(0, 5, 0)] (q := 133) (ls' := [(2, 37), (0, a), (0, b), (0, c), (2, r7), (0, v5L8)]) (st' := [(0, 5), (2, (206 + (a - 1))), (1, v17)]) (by decide +kernel) rfl ?_
                    refine zwW_al ChL8.1 (a1 := 206) (a2 := 361) (kd := 20) (n := 6) (t := 0) (lo := -2147483648) (hi := 2147483647) (nx := 134) (by decide +kernel) ⟨by omega, by omega⟩ ⟨by decide, by decide⟩ ?_
                    intro v19 ev19 lv19 uv19
                    refine zwW_p [(7, 0, 0), (1, 4, 2), (0, 1, 0)] (q := 138) (ls' := [(2, 37), (0, a), (0, b), (0, c), (2, r7), (0, v5L8)]) (st' := [(0, 1), (2, r7), (1, v19), (1, v17)]) (by decide +kernel) rfl ?_
                    refine zwW_ald (a := 23) (kd := 23) (n := 6) (t := 1) (nx := 139) (by decide +kernel) gL8_0.2 rfl (by omega) (by omega) ?_
                    obtain ⟨v20, ev20⟩ : ∃ z, z = fld hL8 r7 (1 : Int).toNat := ⟨_, rfl⟩
                    rw [← ev20]
                    refine zwW_law (nx := 140) (by decide +kernel) ?_
                    intro v21 ev21 lv21 uv21
                    refine zwlc_eq (q := 148) (nx := 144) (m := 141) (by decide +kernel) (by decide +kernel) (fun c22 => ?_) (fun c22 => ?_)
                    · refine zwW_p [(0, 0, 0)] (q := 149) (ls' := [(2, 37), (0, a), (0, b), (0, c), (2, r7), (0, v5L8)]) (st' := [(0, 0)]) (by decide +kernel) rfl ?_
                      refine zwW_ret (nx := 150) (a := 0) (b := 0) (by decide +kernel) rfl (Or.inl rfl) ?_
                      exact ⟨ChL8, XhL8.le (by decide) (by decide), by omega⟩
                    · refine zwW_p [(0, 2, 0), (24, 149, 0)] (q := 149) (ls' := [(2, 37), (0, a), (0, b), (0, c), (2, r7), (0, v5L8)]) (st' := [(0, 2)]) (by decide +kernel) rfl ?_
                      refine zwW_ret (nx := 150) (a := 0) (b := 0) (by decide +kernel) rfl (Or.inl rfl) ?_
                      exact ⟨ChL8, XhL8.le (by decide) (by decide), by omega⟩
                  · refine zwW_p [(0, 0, 0), (24, 134, 0), (7, 0, 0), (1, 4, 2), (0, 1, 0)] (q := 138) (ls' := [(2, 37), (0, a), (0, b), (0, c), (2, r7), (0, v5L8)]) (st' := [(0, 1), (2, r7), (1, 0), (1, v17)]) (by decide +kernel) rfl ?_
                    refine zwW_ald (a := 23) (kd := 23) (n := 6) (t := 1) (nx := 139) (by decide +kernel) gL8_0.2 rfl (by omega) (by omega) ?_
                    obtain ⟨v23, ev23⟩ : ∃ z, z = fld hL8 r7 (1 : Int).toNat := ⟨_, rfl⟩
                    rw [← ev23]
                    refine zwW_law (nx := 140) (by decide +kernel) ?_
                    intro v24 ev24 lv24 uv24
                    refine zwlc_eq (q := 148) (nx := 144) (m := 141) (by decide +kernel) (by decide +kernel) (fun c25 => ?_) (fun c25 => ?_)
                    · refine zwW_p [(0, 0, 0)] (q := 149) (ls' := [(2, 37), (0, a), (0, b), (0, c), (2, r7), (0, v5L8)]) (st' := [(0, 0)]) (by decide +kernel) rfl ?_
                      refine zwW_ret (nx := 150) (a := 0) (b := 0) (by decide +kernel) rfl (Or.inl rfl) ?_
                      exact ⟨ChL8, XhL8.le (by decide) (by decide), by omega⟩
                    · refine zwW_p [(0, 2, 0), (24, 149, 0)] (q := 149) (ls' := [(2, 37), (0, a), (0, b), (0, c), (2, r7), (0, v5L8)]) (st' := [(0, 2)]) (by decide +kernel) rfl ?_
                      refine zwW_ret (nx := 150) (a := 0) (b := 0) (by decide +kernel) rfl (Or.inl rfl) ?_
                      exact ⟨ChL8, XhL8.le (by decide) (by decide), by omega⟩
                · refine zwW_p [(0, 1, 0)] (q := 111) (ls' := [(2, 37), (0, a), (0, b), (0, c), (2, r7), (0, v5L8)]) (st' := [(0, 1)]) (by decide +kernel) rfl ?_
                  refine zwW_ret (nx := 112) (a := 0) (b := 0) (by decide +kernel) rfl (Or.inl rfl) ?_
                  exact ⟨ChL8, XhL8.le (by decide) (by decide), by omega⟩
              · refine zwW_p [(1, 4, 2), (1, 5, 0), (1, 5, 0), (1, 2, 0)] (q := 53) (ls' := [(2, 37), (0, a), (0, b), (0, c), (2, r7), (0, v5L8)]) (st' := [(0, b), (0, v5L8), (0, v5L8), (2, r7)]) (by decide +kernel) rfl ?_
                refine zwic_ne (q := 71) (nx := 56) (by decide +kernel) (fun c26 => ?_) (fun c26 => ?_)
                · refine zwW_p [(1, 0, 2)] (q := 72) (ls' := [(2, 37), (0, a), (0, b), (0, c), (2, r7), (0, v5L8)]) (st' := [(2, 37), (0, v5L8), (2, r7)]) (by decide +kernel) rfl ?_
                  refine zwW_gc ChL8.1 (kd := 13) (bn := 91) (n := 97) (c := 205) (nx := 75) (by decide +kernel) ?_
                  refine zwW_p [(1, 1, 0)] (q := 76) (ls' := [(2, 37), (0, a), (0, b), (0, c), (2, r7), (0, v5L8)]) (st' := [(0, a), (2, 205), (0, v5L8), (2, r7)]) (by decide +kernel) rfl ?_
                  refine zwW_ro ChL8.1 (a := 205) (n := 156) (kd := 26) (base := 206) (step := 1) (nx := 77) (by decide +kernel) rfl ⟨by omega, by omega⟩ ?_
                  rw [show ((206 : Nat) : Int) + ((1 : Nat) : Int) * a = (206 + a) by omega]
                  refine zwW_p [(1, 5, 0)] (q := 79) (ls' := [(2, 37), (0, a), (0, b), (0, c), (2, r7), (0, v5L8)]) (st' := [(0, v5L8), (2, (206 + a)), (0, v5L8), (2, r7)]) (by decide +kernel) rfl ?_
                  refine zwW_al ChL8.1 (a1 := 206) (a2 := 361) (kd := 20) (n := 6) (t := 0) (lo := -2147483648) (hi := 2147483647) (nx := 80) (by decide +kernel) ⟨by omega, by omega⟩ ⟨by omega, by omega⟩ ?_
                  intro v27 ev27 lv27 uv27
                  refine zwW_p [(7, 0, 0)] (q := 81) (ls' := [(2, 37), (0, a), (0, b), (0, c), (2, r7), (0, v5L8)]) (st' := [(1, v27), (0, v5L8), (2, r7)]) (by decide +kernel) rfl ?_
                  refine zwW_ast (a := 23) (kd := 23) (n := 6) (x := v27) (nx := 82) (by decide +kernel) gL8_0.2 rfl (by omega) (by omega) rfl ?_
                  rintro h28 eh28
                  obtain ⟨Ch28, Qh28⟩ := ChL8.wJ eh28 gL8_0 (by omega)
                  have Xh28 : zXR msx82 (1) (6) h h28 := XhL8.tr (c2 := 1) (s2 := 6) Qh28 (by decide +kernel) (by decide) (by decide)
                  have Gh28_0 : gJ 6 h28 r7 := gL8_0.x Qh28
                  refine zwW_inc (i := 5) (c := 1) (x := v5L8) (nx := 85) (by decide +kernel) rfl ⟨by omega, by omega⟩ (ls' := [(2, 37), (0, a), (0, b), (0, c), (2, r7), (0, (v5L8 + 1))]) rfl ?_
                  refine zwW_p [(24, 39, 0)] (q := 39) (ls' := [(2, 37), (0, a), (0, b), (0, c), (2, r7), (0, (v5L8 + 1))]) (st' := []) (by decide +kernel) rfl ?_
                  exact IHL8 ((1000 - (v5L8 + 1))).toNat (by omega) (v5L8 + 1) h28 rfl (by omega) Gh28_0 Ch28 (Xh28.le (by decide) (by decide))
                · refine zwW_p [(1, 0, 2)] (q := 57) (ls' := [(2, 37), (0, a), (0, b), (0, c), (2, r7), (0, v5L8)]) (st' := [(2, 37), (0, v5L8), (2, r7)]) (by decide +kernel) rfl ?_
                  refine zwW_gc ChL8.1 (kd := 13) (bn := 91) (n := 97) (c := 205) (nx := 60) (by decide +kernel) ?_
                  refine zwW_p [(1, 1, 0)] (q := 61) (ls' := [(2, 37), (0, a), (0, b), (0, c), (2, r7), (0, v5L8)]) (st' := [(0, a), (2, 205), (0, v5L8), (2, r7)]) (by decide +kernel) rfl ?_
                  refine zwW_ro ChL8.1 (a := 205) (n := 156) (kd := 26) (base := 206) (step := 1) (nx := 62) (by decide +kernel) rfl ⟨by omega, by omega⟩ ?_
                  rw [show ((206 : Nat) : Int) + ((1 : Nat) : Int) * a = (206 + a) by omega]
                  refine zwW_p [(1, 5, 0)] (q := 64) (ls' := [(2, 37), (0, a), (0, b), (0, c), (2, r7), (0, v5L8)]) (st' := [(0, v5L8), (2, (206 + a)), (0, v5L8), (2, r7)]) (by decide +kernel) rfl ?_
                  refine zwW_al ChL8.1 (a1 := 206) (a2 := 361) (kd := 20) (n := 6) (t := 0) (lo := -2147483648) (hi := 2147483647) (nx := 65) (by decide +kernel) ⟨by omega, by omega⟩ ⟨by omega, by omega⟩ ?_
                  intro v29 ev29 lv29 uv29
                  refine zwW_p [(1, 3, 0)] (q := 66) (ls' := [(2, 37), (0, a), (0, b), (0, c), (2, r7), (0, v5L8)]) (st' := [(0, c), (0, v29), (0, v5L8), (2, r7)]) (by decide +kernel) rfl ?_
                  refine zwW_any2 (a := 7) (nx := 67) (by decide +kernel) rfl ⟨by omega, by omega⟩ (Or.inr ⟨by decide, by decide⟩) ?_
                  intro v30 lv30 uv30
                  refine zwW_p [(7, 0, 0), (24, 81, 0)] (q := 81) (ls' := [(2, 37), (0, a), (0, b), (0, c), (2, r7), (0, v5L8)]) (st' := [(1, v30), (0, v5L8), (2, r7)]) (by decide +kernel) rfl ?_
                  refine zwW_ast (a := 23) (kd := 23) (n := 6) (x := v30) (nx := 82) (by decide +kernel) gL8_0.2 rfl (by omega) (by omega) rfl ?_
                  rintro h31 eh31
                  obtain ⟨Ch31, Qh31⟩ := ChL8.wJ eh31 gL8_0 (by omega)
                  have Xh31 : zXR msx82 (1) (6) h h31 := XhL8.tr (c2 := 1) (s2 := 6) Qh31 (by decide +kernel) (by decide) (by decide)
                  have Gh31_0 : gJ 6 h31 r7 := gL8_0.x Qh31
                  refine zwW_inc (i := 5) (c := 1) (x := v5L8) (nx := 85) (by decide +kernel) rfl ⟨by omega, by omega⟩ (ls' := [(2, 37), (0, a), (0, b), (0, c), (2, r7), (0, (v5L8 + 1))]) rfl ?_
                  refine zwW_p [(24, 39, 0)] (q := 39) (ls' := [(2, 37), (0, a), (0, b), (0, c), (2, r7), (0, (v5L8 + 1))]) (st' := []) (by decide +kernel) rfl ?_
                  exact IHL8 ((1000 - (v5L8 + 1))).toNat (by omega) (v5L8 + 1) h31 rfl (by omega) Gh31_0 Ch31 (Xh31.le (by decide) (by decide))
          exact L8 _ 0 h6 rfl (by omega) Gr7 Ch6 (Xh6.le (by decide) (by decide))
        · exfalso; omega
      · refine zwif_ne (q := 30) (nx := 28) (by decide +kernel) (fun c32 => ?_) (fun c32 => ?_)
        · exfalso; omega
        · refine zwW_p [(0, -1, 0)] (q := 29) (ls' := [(2, 37), (0, a), (0, b), (0, c), (9, 0), (9, 0)]) (st' := [(0, -1)]) (by decide +kernel) rfl ?_
          refine zwW_ret (nx := 30) (a := 0) (b := 0) (by decide +kernel) rfl (Or.inl rfl) ?_
          exact ⟨C, X.le (by decide) (by decide), by omega⟩
  · refine zwif_eq (q := 28) (nx := 16) (by decide +kernel) (fun c33 => ?_) (fun c33 => ?_)
    · refine zwW_p [(0, -1, 0)] (q := 29) (ls' := [(2, 37), (0, a), (0, b), (0, c), (9, 0), (9, 0)]) (st' := [(0, -1)]) (by decide +kernel) rfl ?_
      refine zwW_ret (nx := 30) (a := 0) (b := 0) (by decide +kernel) rfl (Or.inl rfl) ?_
      exact ⟨C, X.le (by decide) (by decide), by omega⟩
    · exfalso; omega
