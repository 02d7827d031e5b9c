/-! contracts of the class -/
def msx3 : Zms := [(2, 2, 0, 3)]
-- WheelLand.village(III)I
theorem x3 {sc : List Int} (h : Hp) (C : CI h) (a b c : Int) (q_a : -2147483648 ≤ a ∧ a ≤ 2147483647) (q_b : -2147483648 ≤ b ∧ b ≤ 2147483647) (q_c : -2147483648 ≤ c ∧ c ≤ 2147483647) (hl : h.length ≤ 999930000) : zwC sc 7 3 [(2, 1), (0, a), (0, b), (0, c)] h (zwRt 0 (fun x g => CI g ∧ zXR msx3 (3) (1174) h g ∧ (-2147483648 ≤ x ∧ x ≤ 2147483647) ∧ (((x = fld h 2 2) ∧ (x < 8) ∧ (fld g 2 2 = fld h 2 2 + 1) ∧ (0 ≤ a ∧ a / 1000000 ≤ 40 ∧ a / 10000 % 100 ≤ 40 ∧ a / 100 % 100 ≤ 40 ∧ a % 100 ≤ 40 ∧ 1 ≤ b ∧ b ≤ 9 ∧ 0 ≤ c ∧ c ≤ 9999) ∧ (∃ q : Int, (365 < q ∧ sh g q = some (20, 157) ∧ ∀ j : Nat, j < 157 → fld g q j = 10) ∧ (∃ rr : Int, (365 < rr ∧ gV g rr) ∧ (∀ i : Nat, (i : Int) < fld h 2 2 → fld g (fld g 2 1) i = fld h (fld h 2 1) i) ∧ fld g (fld g 2 1) (fld h 2 2).toNat = rr ∧ (∀ j : Nat, fld g rr j = ([fld h 2 2, a, b, c, 0, 0, 0, 0, 20, 10, 0, 0, 0, 0, 0, 0, q] : List Int).getD j 0)))) ∨ ((x = -1) ∧ (g = h) ∧ (8 ≤ fld h 2 2 ∨ a < 0 ∨ 40 < a / 1000000 ∨ 40 < a / 10000 % 100 ∨ 40 < a / 100 % 100 ∨ 40 < a % 100 ∨ b < 1 ∨ 9 < b ∨ c < 0 ∨ 9999 < c))))) := by
  refine zwC_of (D := 6) 4 (by decide +kernel) rfl (ls := [(2, 1), (0, a), (0, b), (0, c)]) rfl ?_
  have X : zXR msx3 0 0 h h := zXR.rf _ _
  refine zwW_p [(1, 0, 2)] (q := 1) (ls' := [(2, 1), (0, a), (0, b), (0, c)]) (st' := [(2, 1)]) (by decide +kernel) rfl ?_
  refine zwW_gc C.1 (kd := 12) (bn := 2) (n := 13) (c := 2) (nx := 4) (by decide +kernel) ?_
  refine zwW_cm C.1 (op := 60) (k' := 96) (n := 0) (kd := 0) (m := 3) (nx := 7) (r := 2) (tl := []) (st' := []) (by decide +kernel) rfl (by decide +kernel) rfl (x96_2 C) ?_
  rintro v1 _ ⟨rfl, ev1⟩
  have bv1 := zLb_2 C
  refine zwW_p [(0, 8, 0)] (q := 9) (ls' := [(2, 1), (0, a), (0, b), (0, c)]) (st' := [(0, 8), (0, v1)]) (by decide +kernel) rfl ?_
  refine zwic_ge (q := 40) (nx := 12) (by decide +kernel) (fun c2 => ?_) (fun c2 => ?_)
  · refine zwW_p [(0, -1, 0)] (q := 41) (ls' := [(2, 1), (0, a), (0, b), (0, c)]) (st' := [(0, -1)]) (by decide +kernel) rfl ?_
    refine zwW_ret (nx := 42) (a := 0) (b := 0) (by decide +kernel) rfl (Or.inl rfl) ?_
    exact ⟨C, X.le (by decide) (by decide), by omega, by exact Or.inr ⟨by omega, by rfl, by omega⟩⟩
  · refine zwW_p [(1, 1, 0)] (q := 13) (ls' := [(2, 1), (0, a), (0, b), (0, c)]) (st' := [(0, a)]) (by decide +kernel) rfl ?_
    refine zwW_cs (k' := 97) (n := 1) (nx := 16) (as := [(0, a)]) (st' := []) (by decide +kernel) rfl (x97 h C a (by omega)) rfl ?_
    rintro x _ ⟨rfl, ⟨rfl, c3⟩ | ⟨rfl, c3⟩⟩
    · refine zwif_eq (q := 40) (nx := 19) (by decide +kernel) (fun c4 => ?_) (fun c4 => ?_)
      · exfalso; omega
      · refine zwW_p [(1, 2, 0), (0, 1, 0), (0, 9, 0)] (q := 23) (ls' := [(2, 1), (0, a), (0, b), (0, c)]) (st' := [(0, 9), (0, 1), (0, b)]) (by decide +kernel) rfl ?_
        refine zwW_cs (k' := 98) (n := 3) (nx := 26) (as := [(0, b), (0, 1), (0, 9)]) (st' := []) (by decide +kernel) rfl (x98 h C b 1 9 (by omega) (by omega) (by omega)) rfl ?_
        rintro x _ ⟨rfl, ⟨rfl, c5⟩ | ⟨rfl, c5⟩⟩
        · refine zwif_ne (q := 40) (nx := 29) (by decide +kernel) (fun c6 => ?_) (fun c6 => ?_)
          · refine zwW_p [(0, -1, 0)] (q := 41) (ls' := [(2, 1), (0, a), (0, b), (0, c)]) (st' := [(0, -1)]) (by decide +kernel) rfl ?_
            refine zwW_ret (nx := 42) (a := 0) (b := 0) (by decide +kernel) rfl (Or.inl rfl) ?_
            exact ⟨C, X.le (by decide) (by decide), by omega, by exact Or.inr ⟨by omega, by rfl, by omega⟩⟩
          · exfalso; omega
        · refine zwif_ne (q := 40) (nx := 29) (by decide +kernel) (fun c7 => ?_) (fun c7 => ?_)
          · exfalso; omega
          · refine zwW_p [(1, 3, 0), (0, 0, 0), (0, 9999, 0)] (q := 34) (ls' := [(2, 1), (0, a), (0, b), (0, c)]) (st' := [(0, 9999), (0, 0), (0, c)]) (by decide +kernel) rfl ?_
            refine zwW_cs (k' := 98) (n := 3) (nx := 37) (as := [(0, c), (0, 0), (0, 9999)]) (st' := []) (by decide +kernel) rfl (x98 h C c 0 9999 (by omega) (by omega) (by omega)) rfl ?_
            rintro x _ ⟨rfl, ⟨rfl, c8⟩ | ⟨rfl, c8⟩⟩
            · refine zwif_eq (q := 42) (nx := 40) (by decide +kernel) (fun c9 => ?_) (fun c9 => ?_)
              · exfalso; omega
              · refine zwW_p [(0, -1, 0)] (q := 41) (ls' := [(2, 1), (0, a), (0, b), (0, c)]) (st' := [(0, -1)]) (by decide +kernel) rfl ?_
                refine zwW_ret (nx := 42) (a := 0) (b := 0) (by decide +kernel) rfl (Or.inl rfl) ?_
                exact ⟨C, X.le (by decide) (by decide), by omega, by exact Or.inr ⟨by omega, by rfl, by omega⟩⟩
            · refine zwif_eq (q := 42) (nx := 40) (by decide +kernel) (fun c10 => ?_) (fun c10 => ?_)
              · refine zwW_p [(1, 0, 2)] (q := 43) (ls' := [(2, 1), (0, a), (0, b), (0, c)]) (st' := [(2, 1)]) (by decide +kernel) rfl ?_
                refine zwW_gc C.1 (kd := 12) (bn := 2) (n := 13) (c := 2) (nx := 46) (by decide +kernel) ?_
                refine zwW_new (kd := 11) (n := 17) (nx := 49) (by decide +kernel) rfl rfl ?_
                rintro h11 r12 eh11 er12
                have Oh11 : zOld h h11 := by rw [eh11]; exact zOld.app _
                have Yh11 : zDy h11 := by rw [eh11]; exact C.2.1.app (fun x hx => by rw [List.eq_of_mem_replicate hx]; decide)
                have Ch11 : CI h11 := C.old Oh11 Yh11
                have Xh11 := Oh11.X C
                have th11_2_2 : fld h11 2 2 = fld h 2 2 := Xh11.f (a1 := 2) (a2 := 2) (j1 := 2) (j2 := 3) (by decide +kernel) ⟨by decide, by decide⟩ ⟨by decide, by decide⟩ ⟨by decide, by decide⟩
                refine zwW_p [(12, 0, 0), (1, 0, 2)] (q := 51) (ls' := [(2, 1), (0, a), (0, b), (0, c)]) (st' := [(2, 1), (2, r12), (2, r12), (2, 2)]) (by decide +kernel) rfl ?_
                refine zwW_gc Ch11.1 (kd := 12) (bn := 2) (n := 13) (c := 2) (nx := 54) (by decide +kernel) ?_
                refine zwW_cm Ch11.1 (op := 60) (k' := 96) (n := 0) (kd := 0) (m := 3) (nx := 57) (r := 2) (tl := []) (st' := [(2, r12), (2, r12), (2, 2)]) (by decide +kernel) rfl (by decide +kernel) rfl (x96_2 Ch11) ?_
                rintro v13 _ ⟨rfl, ev13⟩
                have bv13 := zLb_2 Ch11
                refine zwW_p [(1, 1, 0), (1, 2, 0), (1, 3, 0)] (q := 60) (ls' := [(2, 1), (0, a), (0, b), (0, c)]) (st' := [(0, c), (0, b), (0, a), (0, v13), (2, r12), (2, r12), (2, 2)]) (by decide +kernel) rfl ?_
                subst er12 eh11
                refine zwW_cvv (op := 62) (k' := 99) (n := 4) (kd := 11) (m := 17) (nx := 63) (r := ((h.length + 1 : Nat) : Int)) (tl := [(0, v13), (0, a), (0, b), (0, c)]) (st' := [(2, ((h.length + 1 : Nat) : Int)), (2, 2)]) (by decide +kernel) rfl (by decide +kernel) (sh_new _ _) (x99 h C v13 a b c (by omega) (by omega) (by omega) (by omega)) rfl ?_
                rintro h14 ⟨Ch14, Qh14, Nh14, Fh14_0, Fh14_1⟩
                obtain ⟨nr12, err12⟩ : ∃ z, z = ((h.length + 1 : Nat) : Int) := ⟨_, rfl⟩
                rw [← err12] at Nh14 ⊢
                try rw [← err12] at Fh14_0
                try rw [← err12] at Fh14_1
                have Xh14 : zXR msx3 (2) (174) h h14 := X.tr (c2 := 2) (s2 := 174) Qh14 (by decide +kernel) (by decide) (by decide)
                have th14_2_2 : fld h14 2 2 = fld h 2 2 := Qh14.f (a1 := 2) (a2 := 2) (j1 := 2) (j2 := 3) (by decide +kernel) ⟨by decide, by decide⟩ ⟨by decide, by decide⟩ ⟨by decide, by decide⟩
                have lnr12 := Nh14.1
                refine zwW_cm Ch14.1 (op := 60) (k' := 100) (n := 1) (kd := 0) (m := 3) (nx := 66) (r := 2) (tl := [(2, nr12)]) (st' := []) (by decide +kernel) rfl (by decide +kernel) rfl (x100_2 Ch14 Nh14 (by omega) (by have := Xh14.hl C Ch14 (by decide) hl; omega)) ?_
                rintro x h16 ⟨rfl, Ah16⟩
                have Ch16 := Ah16.1
                have Qh16 : zXR [(2, 2, 0, 3)] (1) (1000) h14 h16 := Ah16.2.1
                have zh16 : fld h16 2 2 = fld h14 2 2 + 1 := Ah16.2.2.1
                have Xh16 : zXR msx3 (3) (1174) h h16 := Xh14.tr (c2 := 3) (s2 := 1174) Qh16 (by decide +kernel) (by decide) (by decide)
                refine zwW_p [(15, 0, 0), (1, 0, 2)] (q := 68) (ls' := [(2, 1), (0, a), (0, b), (0, c)]) (st' := [(2, 1)]) (by decide +kernel) rfl ?_
                refine zwW_gc Ch16.1 (kd := 12) (bn := 2) (n := 13) (c := 2) (nx := 71) (by decide +kernel) ?_
                refine zwW_cm Ch16.1 (op := 60) (k' := 96) (n := 0) (kd := 0) (m := 3) (nx := 74) (r := 2) (tl := []) (st' := []) (by decide +kernel) rfl (by decide +kernel) rfl (x96_2 Ch16) ?_
                rintro v17 _ ⟨rfl, ev17⟩
                have bv17 := zLb_2 Ch16
                refine zwW_p [(0, 1, 0)] (q := 75) (ls' := [(2, 1), (0, a), (0, b), (0, c)]) (st' := [(0, 1), (0, v17)]) (by decide +kernel) rfl ?_
                refine zwW_sub (nx := 76) (by decide +kernel) ⟨by omega, by omega⟩ ?_
                refine zwW_ret (nx := 77) (a := 0) (b := 0) (by decide +kernel) rfl (Or.inl rfl) ?_
                exact ⟨Ch16, Xh16.le (by decide) (by decide), by omega, by exact Or.inl ⟨by omega, by omega, by omega, by omega, by obtain ⟨rr, a1, a2, a3, a4⟩ := zNew C Ch14 Qh14 Ah16 (by decide) Nh14 Fh14_0 (by decide) rfl; have hv : v13 = fld h 2 2 := (by omega); exact ⟨_, zNewP Ch14 Ah16 Nh14 Fh14_0 rfl Fh14_1, rr, a1, a2, a3, fun j => by (rw [a4 j, hv]; try rfl)⟩⟩⟩
              · exfalso; omega
    · refine zwif_eq (q := 40) (nx := 19) (by decide +kernel) (fun c18 => ?_) (fun c18 => ?_)
      · refine zwW_p [(0, -1, 0)] (q := 41) (ls' := [(2, 1), (0, a), (0, b), (0, c)]) (st' := [(0, -1)]) (by decide +kernel) rfl ?_
        refine zwW_ret (nx := 42) (a := 0) (b := 0) (by decide +kernel) rfl (Or.inl rfl) ?_
        exact ⟨C, X.le (by decide) (by decide), by omega, by exact Or.inr ⟨by omega, by rfl, by omega⟩⟩
      · exfalso; omega
def msx5 : Zms := [(7, 7, 0, 64), (8, 8, 0, 64)]
-- WheelLand.road(III)Z
theorem x5 {sc : List Int} (h : Hp) (C : CI h) (a b c : Int) (q_a : -2147483648 ≤ a ∧ a ≤ 2147483647) (q_b : -2147483648 ≤ b ∧ b ≤ 2147483647) (q_c : -2147483648 ≤ c ∧ c ≤ 2147483647) (pW : zLd h) : zwC sc 6 5 [(2, 1), (0, a), (0, b), (0, c)] h (zwRt 0 (fun x g => CI g ∧ zXR msx5 (0) (0) h g ∧ (0 ≤ x ∧ x ≤ 1) ∧ (((x = 1) ∧ (0 ≤ a ∧ a < fld h 2 2 ∧ 0 ≤ b ∧ b < fld h 2 2 ∧ a ≠ b ∧ 1 ≤ c ∧ c ≤ 9) ∧ (zLd g ∧ zFw (zLa g) (zLe g) 8 ∧ ∀ p q : Nat, p < 8 → q < 8 → zLa g p q = if (p = a.toNat ∧ q = b.toNat) ∨ (p = b.toNat ∧ q = a.toNat) then c else zLa h p q)) ∨ ((x = 0) ∧ (g = h) ∧ (a < 0 ∨ fld h 2 2 ≤ a ∨ b < 0 ∨ fld h 2 2 ≤ b ∨ a = b ∨ c < 1 ∨ 9 < c))))) := by
  refine zwC_of (D := 5) 4 (by decide +kernel) rfl (ls := [(2, 1), (0, a), (0, b), (0, c)]) rfl ?_
  have X : zXR msx5 0 0 h h := zXR.rf _ _
  have b22 := zLb_2 C
  refine zwW_p [(1, 0, 2), (1, 1, 0)] (q := 2) (ls' := [(2, 1), (0, a), (0, b), (0, c)]) (st' := [(0, a), (2, 1)]) (by decide +kernel) rfl ?_
  refine zwW_cm C.1 (op := 60) (k' := 102) (n := 1) (kd := 12) (m := 13) (nx := 5) (r := 1) (tl := [(0, a)]) (st' := []) (by decide +kernel) rfl (by decide +kernel) rfl (x102 h C a (by omega)) ?_
  rintro v2 _ ⟨rfl, ⟨rfl, c1⟩ | ⟨Gv2, c1⟩⟩
  · refine zwnu_eq (q := 31) (nx := 8) (by decide +kernel) (by decide) (fun c3 => ?_) (fun c3 => ?_)
    · refine zwW_p [(0, 0, 0)] (q := 32) (ls' := [(2, 1), (0, a), (0, b), (0, c)]) (st' := [(0, 0)]) (by decide +kernel) rfl ?_
      refine zwW_ret (nx := 33) (a := 1) (b := 0) (by decide +kernel) rfl (Or.inr (Or.inl ⟨rfl, by omega⟩)) ?_
      exact ⟨C, X.le (by decide) (by decide), by omega, by exact Or.inr ⟨by omega, by rfl, by omega⟩⟩
    · exfalso; omega
  · have lv2 := Gv2.1
    have ev2 := c1.2.2
    refine zwnu_eq (q := 31) (nx := 8) (by decide +kernel) (by omega) (fun c4 => ?_) (fun c4 => ?_)
    · exfalso; omega
    · refine zwW_p [(1, 0, 2), (1, 2, 0)] (q := 10) (ls' := [(2, 1), (0, a), (0, b), (0, c)]) (st' := [(0, b), (2, 1)]) (by decide +kernel) rfl ?_
      refine zwW_cm C.1 (op := 60) (k' := 102) (n := 1) (kd := 12) (m := 13) (nx := 13) (r := 1) (tl := [(0, b)]) (st' := []) (by decide +kernel) rfl (by decide +kernel) rfl (x102 h C b (by omega)) ?_
      rintro v6 _ ⟨rfl, ⟨rfl, c5⟩ | ⟨Gv6, c5⟩⟩
      · refine zwnu_eq (q := 31) (nx := 16) (by decide +kernel) (by decide) (fun c7 => ?_) (fun c7 => ?_)
        · refine zwW_p [(0, 0, 0)] (q := 32) (ls' := [(2, 1), (0, a), (0, b), (0, c)]) (st' := [(0, 0)]) (by decide +kernel) rfl ?_
          refine zwW_ret (nx := 33) (a := 1) (b := 0) (by decide +kernel) rfl (Or.inr (Or.inl ⟨rfl, by omega⟩)) ?_
          exact ⟨C, X.le (by decide) (by decide), by omega, by exact Or.inr ⟨by omega, by rfl, by omega⟩⟩
        · exfalso; omega
      · have lv6 := Gv6.1
        have ev6 := c5.2.2
        refine zwnu_eq (q := 31) (nx := 16) (by decide +kernel) (by omega) (fun c8 => ?_) (fun c8 => ?_)
        · exfalso; omega
        · refine zwW_p [(1, 1, 0), (1, 2, 0)] (q := 18) (ls' := [(2, 1), (0, a), (0, b), (0, c)]) (st' := [(0, b), (0, a)]) (by decide +kernel) rfl ?_
          refine zwic_eq (q := 31) (nx := 21) (by decide +kernel) (fun c9 => ?_) (fun c9 => ?_)
          · refine zwW_p [(0, 0, 0)] (q := 32) (ls' := [(2, 1), (0, a), (0, b), (0, c)]) (st' := [(0, 0)]) (by decide +kernel) rfl ?_
            refine zwW_ret (nx := 33) (a := 1) (b := 0) (by decide +kernel) rfl (Or.inr (Or.inl ⟨rfl, by omega⟩)) ?_
            exact ⟨C, X.le (by decide) (by decide), by omega, by exact Or.inr ⟨by omega, by rfl, by omega⟩⟩
          · refine zwW_p [(1, 3, 0), (0, 1, 0), (0, 9, 0)] (q := 25) (ls' := [(2, 1), (0, a), (0, b), (0, c)]) (st' := [(0, 9), (0, 1), (0, c)]) (by decide +kernel) rfl ?_
            refine zwW_cs (k' := 98) (n := 3) (nx := 28) (as := [(0, c), (0, 1), (0, 9)]) (st' := []) (by decide +kernel) rfl (x98 h C c 1 9 (by omega) (by omega) (by omega)) rfl ?_
            rintro x _ ⟨rfl, ⟨rfl, c10⟩ | ⟨rfl, c10⟩⟩
            · refine zwif_eq (q := 33) (nx := 31) (by decide +kernel) (fun c11 => ?_) (fun c11 => ?_)
              · exfalso; omega
              · refine zwW_p [(0, 0, 0)] (q := 32) (ls' := [(2, 1), (0, a), (0, b), (0, c)]) (st' := [(0, 0)]) (by decide +kernel) rfl ?_
                refine zwW_ret (nx := 33) (a := 1) (b := 0) (by decide +kernel) rfl (Or.inr (Or.inl ⟨rfl, by omega⟩)) ?_
                exact ⟨C, X.le (by decide) (by decide), by omega, by exact Or.inr ⟨by omega, by rfl, by omega⟩⟩
            · refine zwif_eq (q := 33) (nx := 31) (by decide +kernel) (fun c12 => ?_) (fun c12 => ?_)
              · refine zwW_p [(1, 0, 2)] (q := 34) (ls' := [(2, 1), (0, a), (0, b), (0, c)]) (st' := [(2, 1)]) (by decide +kernel) rfl ?_
                refine zwW_gc C.1 (kd := 12) (bn := 6) (n := 13) (c := 6) (nx := 37) (by decide +kernel) ?_
                refine zwW_p [(1, 1, 0), (1, 2, 0), (1, 3, 0)] (q := 40) (ls' := [(2, 1), (0, a), (0, b), (0, c)]) (st' := [(0, c), (0, b), (0, a), (2, 6)]) (by decide +kernel) rfl ?_
                refine zwW_cmv C.1 (op := 60) (k' := 103) (n := 3) (kd := 8) (m := 2) (nx := 43) (r := 6) (tl := [(0, a), (0, b), (0, c)]) (st' := []) (by decide +kernel) rfl (by decide +kernel) rfl (x103 h C a b c (by omega) (by omega) (by omega) (by omega) (by omega) (by omega) (by omega) pW) ?_
                rintro h14 ⟨Ch14, Qh14, f13⟩
                have Xh14 : zXR msx5 (0) (0) h h14 := X.tr (c2 := 0) (s2 := 0) Qh14 (by decide +kernel) (by decide) (by decide)
                refine zwW_p [(0, 1, 0)] (q := 44) (ls' := [(2, 1), (0, a), (0, b), (0, c)]) (st' := [(0, 1)]) (by decide +kernel) rfl ?_
                refine zwW_ret (nx := 45) (a := 1) (b := 0) (by decide +kernel) rfl (Or.inr (Or.inl ⟨rfl, by omega⟩)) ?_
                exact ⟨Ch14, Xh14.le (by decide) (by decide), by omega, by exact Or.inl ⟨by omega, by omega, by exact f13⟩⟩
              · exfalso; omega
-- WheelLand.far(II)I
theorem x7 {sc : List Int} (h : Hp) (C : CI h) (a b : Int) (q_a : -2147483648 ≤ a ∧ a ≤ 2147483647) (q_b : -2147483648 ≤ b ∧ b ≤ 2147483647) (pN : ∀ i : Nat, (i : Int) < fld h 2 2 → fld h (fld h (fld h 2 1) i) 0 = i) : zwC sc 6 7 [(2, 1), (0, a), (0, b)] h (zwRt 0 (fun x g => h = g ∧ (-2147483648 ≤ x ∧ x ≤ 2147483647) ∧ ((0 ≤ a ∧ a < fld h 2 2 ∧ 0 ≤ b ∧ b < fld h 2 2 ∧ x = zDa h a.toNat b.toNat) ∨ (x = -1 ∧ (a < 0 ∨ fld h 2 2 ≤ a ∨ b < 0 ∨ fld h 2 2 ≤ b))))) := by
  refine zwC_of (D := 5) 3 (by decide +kernel) rfl (ls := [(2, 1), (0, a), (0, b)]) rfl ?_
  have b22 := zLb_2 C
  refine zwW_p [(1, 0, 2), (1, 0, 2), (1, 1, 0)] (q := 3) (ls' := [(2, 1), (0, a), (0, b)]) (st' := [(0, a), (2, 1), (2, 1)]) (by decide +kernel) rfl ?_
  refine zwW_cm C.1 (op := 60) (k' := 102) (n := 1) (kd := 12) (m := 13) (nx := 6) (r := 1) (tl := [(0, a)]) (st' := [(2, 1)]) (by decide +kernel) rfl (by decide +kernel) rfl (x102 h C a (by omega)) ?_
  rintro v2 _ ⟨rfl, ⟨rfl, c1⟩ | ⟨Gv2, c1⟩⟩
  · refine zwW_p [(1, 0, 2), (1, 2, 0)] (q := 8) (ls' := [(2, 1), (0, a), (0, b)]) (st' := [(0, b), (2, 1), (2, 0), (2, 1)]) (by decide +kernel) rfl ?_
    refine zwW_cm C.1 (op := 60) (k' := 102) (n := 1) (kd := 12) (m := 13) (nx := 11) (r := 1) (tl := [(0, b)]) (st' := [(2, 0), (2, 1)]) (by decide +kernel) rfl (by decide +kernel) rfl (x102 h C b (by omega)) ?_
    rintro v4 _ ⟨rfl, ⟨rfl, c3⟩ | ⟨Gv4, c3⟩⟩
    · refine zwW_cm C.1 (op := 60) (k' := 105) (n := 2) (kd := 12) (m := 13) (nx := 14) (r := 1) (tl := [(2, 0), (2, 0)]) (st' := []) (by decide +kernel) rfl (by decide +kernel) rfl (x105 h C 0 0 (Or.inl rfl) (Or.inl rfl)) ?_
      rintro v5 _ ⟨rfl, f6, f7⟩
      refine zwW_ret (nx := 15) (a := 0) (b := 0) (by decide +kernel) rfl (Or.inl rfl) ?_
      exact ⟨rfl, by omega, by first | omega | (have n1 := pN a.toNat (by omega); have n2 := pN b.toNat (by omega); rw [← rfl] at n1; rw [← rfl] at n2; have q := f7.2 (by omega) (by omega) (by omega) (by omega) (by omega) (by omega); rw [show (fld h 0 0).toNat = a.toNat by omega, show (fld h 0 0).toNat = b.toNat by omega] at q; omega)⟩
    · have lv4 := Gv4.1
      have ev4 := c3.2.2
      refine zwW_cm C.1 (op := 60) (k' := 105) (n := 2) (kd := 12) (m := 13) (nx := 14) (r := 1) (tl := [(2, 0), (2, v4)]) (st' := []) (by decide +kernel) rfl (by decide +kernel) rfl (x105 h C 0 v4 (Or.inl rfl) (Or.inr Gv4)) ?_
      rintro v8 _ ⟨rfl, f9, f10⟩
      refine zwW_ret (nx := 15) (a := 0) (b := 0) (by decide +kernel) rfl (Or.inl rfl) ?_
      exact ⟨rfl, by omega, by first | omega | (have n1 := pN a.toNat (by omega); have n2 := pN b.toNat (by omega); rw [← ev4] at n1; rw [← rfl] at n2; have q := f10.2 (by omega) (by omega) (by omega) (by omega) (by omega) (by omega); rw [show (fld h v4 0).toNat = a.toNat by omega, show (fld h 0 0).toNat = b.toNat by omega] at q; omega)⟩
  · have lv2 := Gv2.1
    have ev2 := c1.2.2
    refine zwW_p [(1, 0, 2), (1, 2, 0)] (q := 8) (ls' := [(2, 1), (0, a), (0, b)]) (st' := [(0, b), (2, 1), (2, v2), (2, 1)]) (by decide +kernel) rfl ?_
    refine zwW_cm C.1 (op := 60) (k' := 102) (n := 1) (kd := 12) (m := 13) (nx := 11) (r := 1) (tl := [(0, b)]) (st' := [(2, v2), (2, 1)]) (by decide +kernel) rfl (by decide +kernel) rfl (x102 h C b (by omega)) ?_
    rintro v12 _ ⟨rfl, ⟨rfl, c11⟩ | ⟨Gv12, c11⟩⟩
    · refine zwW_cm C.1 (op := 60) (k' := 105) (n := 2) (kd := 12) (m := 13) (nx := 14) (r := 1) (tl := [(2, v2), (2, 0)]) (st' := []) (by decide +kernel) rfl (by decide +kernel) rfl (x105 h C v2 0 (Or.inr Gv2) (Or.inl rfl)) ?_
      rintro v13 _ ⟨rfl, f14, f15⟩
      refine zwW_ret (nx := 15) (a := 0) (b := 0) (by decide +kernel) rfl (Or.inl rfl) ?_
      exact ⟨rfl, by omega, by first | omega | (have n1 := pN a.toNat (by omega); have n2 := pN b.toNat (by omega); rw [← ev2] at n1; rw [← rfl] at n2; have q := f15.2 (by omega) (by omega) (by omega) (by omega) (by omega) (by omega); rw [show (fld h v2 0).toNat = a.toNat by omega, show (fld h 0 0).toNat = b.toNat by omega] at q; omega)⟩
    · have lv12 := Gv12.1
      have ev12 := c11.2.2
      refine zwW_cm C.1 (op := 60) (k' := 105) (n := 2) (kd := 12) (m := 13) (nx := 14) (r := 1) (tl := [(2, v2), (2, v12)]) (st' := []) (by decide +kernel) rfl (by decide +kernel) rfl (x105 h C v2 v12 (Or.inr Gv2) (Or.inr Gv12)) ?_
      rintro v16 _ ⟨rfl, f17, f18⟩
      refine zwW_ret (nx := 15) (a := 0) (b := 0) (by decide +kernel) rfl (Or.inl rfl) ?_
      exact ⟨rfl, by omega, by first | omega | (have n1 := pN a.toNat (by omega); have n2 := pN b.toNat (by omega); rw [← ev2] at n1; rw [← ev12] at n2; have q := f18.2 (by omega) (by omega) (by omega) (by omega) (by omega) (by omega); rw [show (fld h v2 0).toNat = a.toNat by omega, show (fld h v12 0).toNat = b.toNat by omega] at q; omega)⟩
def msx9 : Zms := [(3, 3, 0, 3)]
-- WheelLand.house(II)I
theorem x9 {sc : List Int} (h : Hp) (C : CI h) (a b : Int) (q_a : -2147483648 ≤ a ∧ a ≤ 2147483647) (q_b : -2147483648 ≤ b ∧ b ≤ 2147483647) (hl : h.length ≤ 999930000) : zwC sc 7 9 [(2, 1), (0, a), (0, b)] h (zwRt 0 (fun x g => CI g ∧ zXR msx9 (2) (1019) h g ∧ (-2147483648 ≤ x ∧ x ≤ 2147483647) ∧ (((x = fld h 3 2) ∧ (fld g 3 2 = fld h 3 2 + 1) ∧ (0 ≤ a ∧ a < fld h 2 2 ∧ 0 ≤ b ∧ b / 1000 ≤ 5 ∧ 1 ≤ b / 100 % 10 ∧ b / 10 % 10 ≤ 5 ∧ 1 ≤ b % 10 ∧ fld h 3 2 < 20 ∧ fld h 1 0 < 156) ∧ (∃ rr : Int, (365 < rr ∧ gH g rr) ∧ (∀ i : Nat, (i : Int) < fld h 3 2 → fld g (fld g 3 1) i = fld h (fld h 3 1) i) ∧ fld g (fld g 3 1) (fld h 3 2).toNat = rr ∧ (∀ j : Nat, fld g rr j = ([fld h 3 2, fld h (fld h 2 1) a.toNat, b / 1000, b / 100 % 10, b / 10 % 10, b % 10, 0, 10, 0, 0, 0, 0, 0, 0, 0, 0, 0, 0, 0] : List Int).getD j 0))) ∨ ((x = -1) ∧ (g = h) ∧ (a < 0 ∨ fld h 2 2 ≤ a ∨ b < 0 ∨ 5 < b / 1000 ∨ b / 100 % 10 < 1 ∨ 5 < b / 10 % 10 ∨ b % 10 < 1 ∨ 20 ≤ fld h 3 2 ∨ 156 ≤ fld h 1 0))))) := by
  refine zwC_of (D := 6) 4 (by decide +kernel) rfl (ls := [(2, 1), (0, a), (0, b), (9, 0)]) rfl ?_
  have X : zXR msx9 0 0 h h := zXR.rf _ _
  refine zwW_p [(1, 0, 2), (1, 1, 0)] (q := 2) (ls' := [(2, 1), (0, a), (0, b), (9, 0)]) (st' := [(0, a), (2, 1)]) (by decide +kernel) rfl ?_
  refine zwW_cm C.1 (op := 60) (k' := 102) (n := 1) (kd := 12) (m := 13) (nx := 5) (r := 1) (tl := [(0, a)]) (st' := []) (by decide +kernel) rfl (by decide +kernel) rfl (x102 h C a (by omega)) ?_
  rintro v2 _ ⟨rfl, ⟨rfl, c1⟩ | ⟨Gv2, c1⟩⟩
  · refine zwW_p [(2, 3, 2), (1, 3, 2)] (q := 7) (ls' := [(2, 1), (0, a), (0, b), (2, 0)]) (st' := [(2, 0)]) (by decide +kernel) rfl ?_
    refine zwnu_eq (q := 39) (nx := 10) (by decide +kernel) (by decide) (fun c3 => ?_) (fun c3 => ?_)
    · refine zwW_p [(0, -1, 0)] (q := 40) (ls' := [(2, 1), (0, a), (0, b), (2, 0)]) (st' := [(0, -1)]) (by decide +kernel) rfl ?_
      refine zwW_ret (nx := 41) (a := 0) (b := 0) (by decide +kernel) rfl (Or.inl rfl) ?_
      exact ⟨C, X.le (by decide) (by decide), by omega, by exact Or.inr ⟨by omega, by rfl, by omega⟩⟩
    · exfalso; omega
  · have lv2 := Gv2.1
    have ev2 := c1.2.2
    refine zwW_p [(2, 3, 2), (1, 3, 2)] (q := 7) (ls' := [(2, 1), (0, a), (0, b), (2, v2)]) (st' := [(2, v2)]) (by decide +kernel) rfl ?_
    refine zwnu_eq (q := 39) (nx := 10) (by decide +kernel) (by omega) (fun c4 => ?_) (fun c4 => ?_)
    · exfalso; omega
    · refine zwW_p [(1, 0, 2)] (q := 11) (ls' := [(2, 1), (0, a), (0, b), (2, v2)]) (st' := [(2, 1)]) (by decide +kernel) rfl ?_
      refine zwW_gc C.1 (kd := 12) (bn := 3) (n := 13) (c := 3) (nx := 14) (by decide +kernel) ?_
      refine zwW_cm C.1 (op := 60) (k' := 96) (n := 0) (kd := 0) (m := 3) (nx := 17) (r := 3) (tl := []) (st' := []) (by decide +kernel) rfl (by decide +kernel) rfl (x96_3 C) ?_
      rintro v5 _ ⟨rfl, ev5⟩
      have bv5 := zLb_3 C
      refine zwW_p [(0, 20, 0)] (q := 19) (ls' := [(2, 1), (0, a), (0, b), (2, v2)]) (st' := [(0, 20), (0, v5)]) (by decide +kernel) rfl ?_
      refine zwic_ge (q := 39) (nx := 22) (by decide +kernel) (fun c6 => ?_) (fun c6 => ?_)
      · refine zwW_p [(0, -1, 0)] (q := 40) (ls' := [(2, 1), (0, a), (0, b), (2, v2)]) (st' := [(0, -1)]) (by decide +kernel) rfl ?_
        refine zwW_ret (nx := 41) (a := 0) (b := 0) (by decide +kernel) rfl (Or.inl rfl) ?_
        exact ⟨C, X.le (by decide) (by decide), by omega, by exact Or.inr ⟨by omega, by rfl, by omega⟩⟩
      · refine zwW_p [(1, 0, 2)] (q := 23) (ls' := [(2, 1), (0, a), (0, b), (2, v2)]) (st' := [(2, 1)]) (by decide +kernel) rfl ?_
        refine zwW_gs C.1 (kd := 12) (bn := 0) (n := 13) (t := 0) (lo := 0) (hi := 156) (nx := 26) (by decide +kernel) ?_
        intro v7 ev7 lv7 uv7
        refine zwW_p [(0, 156, 0)] (q := 29) (ls' := [(2, 1), (0, a), (0, b), (2, v2)]) (st' := [(0, 156), (0, v7)]) (by decide +kernel) rfl ?_
        refine zwic_ge (q := 39) (nx := 32) (by decide +kernel) (fun c8 => ?_) (fun c8 => ?_)
        · refine zwW_p [(0, -1, 0)] (q := 40) (ls' := [(2, 1), (0, a), (0, b), (2, v2)]) (st' := [(0, -1)]) (by decide +kernel) rfl ?_
          refine zwW_ret (nx := 41) (a := 0) (b := 0) (by decide +kernel) rfl (Or.inl rfl) ?_
          exact ⟨C, X.le (by decide) (by decide), by omega, by exact Or.inr ⟨by omega, by rfl, by omega⟩⟩
        · refine zwW_p [(1, 2, 0)] (q := 33) (ls' := [(2, 1), (0, a), (0, b), (2, v2)]) (st' := [(0, b)]) (by decide +kernel) rfl ?_
          refine zwW_cs (k' := 107) (n := 1) (nx := 36) (as := [(0, b)]) (st' := []) (by decide +kernel) rfl (x107 h C b (by omega)) rfl ?_
          rintro x _ ⟨rfl, ⟨rfl, c9⟩ | ⟨rfl, c9⟩⟩
          · refine zwif_ne (q := 41) (nx := 39) (by decide +kernel) (fun c10 => ?_) (fun c10 => ?_)
            · refine zwW_p [(1, 0, 2)] (q := 42) (ls' := [(2, 1), (0, a), (0, b), (2, v2)]) (st' := [(2, 1)]) (by decide +kernel) rfl ?_
              refine zwW_gc C.1 (kd := 12) (bn := 3) (n := 13) (c := 3) (nx := 45) (by decide +kernel) ?_
              refine zwW_new (kd := 4) (n := 19) (nx := 48) (by decide +kernel) rfl rfl ?_
              rintro h11 r12 eh11 er12
              have Oh11 : zOld h h11 := by rw [eh11]; exact zOld.app _
              have Yh11 : zDy h11 := by rw [eh11]; exact C.2.1.app (fun x hx => by rw [List.eq_of_mem_replicate hx]; decide)
              have Ch11 : CI h11 := C.old Oh11 Yh11
              have Xh11 := Oh11.X C
              have th11_3_2 : fld h11 3 2 = fld h 3 2 := Xh11.f (a1 := 3) (a2 := 3) (j1 := 2) (j2 := 3) (by decide +kernel) ⟨by decide, by decide⟩ ⟨by decide, by decide⟩ ⟨by decide, by decide⟩
              have Gh11_0 : gV h11 v2 := Gv2.x Xh11
              refine zwW_p [(12, 0, 0), (1, 0, 2)] (q := 50) (ls' := [(2, 1), (0, a), (0, b), (2, v2)]) (st' := [(2, 1), (2, r12), (2, r12), (2, 3)]) (by decide +kernel) rfl ?_
              refine zwW_gc Ch11.1 (kd := 12) (bn := 3) (n := 13) (c := 3) (nx := 53) (by decide +kernel) ?_
              refine zwW_cm Ch11.1 (op := 60) (k' := 96) (n := 0) (kd := 0) (m := 3) (nx := 56) (r := 3) (tl := []) (st' := [(2, r12), (2, r12), (2, 3)]) (by decide +kernel) rfl (by decide +kernel) rfl (x96_3 Ch11) ?_
              rintro v13 _ ⟨rfl, ev13⟩
              have bv13 := zLb_3 Ch11
              refine zwW_p [(1, 3, 2), (1, 2, 0)] (q := 58) (ls' := [(2, 1), (0, a), (0, b), (2, v2)]) (st' := [(0, b), (2, v2), (0, v13), (2, r12), (2, r12), (2, 3)]) (by decide +kernel) rfl ?_
              subst er12 eh11
              refine zwW_cvv (op := 62) (k' := 108) (n := 3) (kd := 4) (m := 19) (nx := 61) (r := ((h.length + 1 : Nat) : Int)) (tl := [(0, v13), (2, v2), (0, b)]) (st' := [(2, ((h.length + 1 : Nat) : Int)), (2, 3)]) (by decide +kernel) rfl (by decide +kernel) (sh_new _ _) (x108 h C v13 v2 b (by omega) (by omega) Gv2) rfl ?_
              rintro h14 ⟨Ch14, Qh14, Nh14, Fh14_0⟩
              obtain ⟨nr12, err12⟩ : ∃ z, z = ((h.length + 1 : Nat) : Int) := ⟨_, rfl⟩
              rw [← err12] at Nh14 ⊢
              try rw [← err12] at Fh14_0
              have Xh14 : zXR msx9 (1) (19) h h14 := X.tr (c2 := 1) (s2 := 19) Qh14 (by decide +kernel) (by decide) (by decide)
              have Gh14_0 : gV h14 v2 := Gv2.x Qh14
              have th14_3_2 : fld h14 3 2 = fld h 3 2 := Qh14.f (a1 := 3) (a2 := 3) (j1 := 2) (j2 := 3) (by decide +kernel) ⟨by decide, by decide⟩ ⟨by decide, by decide⟩ ⟨by decide, by decide⟩
              have lnr12 := Nh14.1
              refine zwW_cm Ch14.1 (op := 60) (k' := 100) (n := 1) (kd := 0) (m := 3) (nx := 64) (r := 3) (tl := [(2, nr12)]) (st' := []) (by decide +kernel) rfl (by decide +kernel) rfl (x100_3 Ch14 Nh14 (by omega) (by have := Xh14.hl C Ch14 (by decide) hl; omega)) ?_
              rintro x h16 ⟨rfl, Ah16⟩
              have Ch16 := Ah16.1
              have Qh16 : zXR [(3, 3, 0, 3)] (1) (1000) h14 h16 := Ah16.2.1
              have zh16 : fld h16 3 2 = fld h14 3 2 + 1 := Ah16.2.2.1
              have Xh16 : zXR msx9 (2) (1019) h h16 := Xh14.tr (c2 := 2) (s2 := 1019) Qh16 (by decide +kernel) (by decide) (by decide)
              have Gh16_0 : gV h16 v2 := Gh14_0.x Qh16
              refine zwW_p [(15, 0, 0), (1, 0, 2)] (q := 66) (ls' := [(2, 1), (0, a), (0, b), (2, v2)]) (st' := [(2, 1)]) (by decide +kernel) rfl ?_
              refine zwW_gc Ch16.1 (kd := 12) (bn := 3) (n := 13) (c := 3) (nx := 69) (by decide +kernel) ?_
              refine zwW_cm Ch16.1 (op := 60) (k' := 96) (n := 0) (kd := 0) (m := 3) (nx := 72) (r := 3) (tl := []) (st' := []) (by decide +kernel) rfl (by decide +kernel) rfl (x96_3 Ch16) ?_
              rintro v17 _ ⟨rfl, ev17⟩
              have bv17 := zLb_3 Ch16
              refine zwW_p [(0, 1, 0)] (q := 73) (ls' := [(2, 1), (0, a), (0, b), (2, v2)]) (st' := [(0, 1), (0, v17)]) (by decide +kernel) rfl ?_
              refine zwW_sub (nx := 74) (by decide +kernel) ⟨by omega, by omega⟩ ?_
              refine zwW_ret (nx := 75) (a := 0) (b := 0) (by decide +kernel) rfl (Or.inl rfl) ?_
              exact ⟨Ch16, Xh16.le (by decide) (by decide), by omega, by exact Or.inl ⟨by omega, by omega, by omega, by obtain ⟨rr, a1, a2, a3, a4⟩ := zNew C Ch14 Qh14 Ah16 (by decide) Nh14 Fh14_0 (by decide) rfl; have hv : v13 = fld h 3 2 := (by omega); exact ⟨rr, a1, a2, a3, fun j => by (rw [a4 j, hv, ev2]; try rfl)⟩⟩⟩
            · exfalso; omega
          · refine zwif_ne (q := 41) (nx := 39) (by decide +kernel) (fun c18 => ?_) (fun c18 => ?_)
            · exfalso; omega
            · refine zwW_p [(0, -1, 0)] (q := 40) (ls' := [(2, 1), (0, a), (0, b), (2, v2)]) (st' := [(0, -1)]) (by decide +kernel) rfl ?_
              refine zwW_ret (nx := 41) (a := 0) (b := 0) (by decide +kernel) rfl (Or.inl rfl) ?_
              exact ⟨C, X.le (by decide) (by decide), by omega, by exact Or.inr ⟨by omega, by rfl, by omega⟩⟩
def msx11 : Zms := [(1004, 1004, 11, 12), (1004, 1004, 12, 13), (1004, 1004, 13, 14)]
-- WheelLand.loom(III)Z
theorem x11 {sc : List Int} (h : Hp) (C : CI h) (a b c : Int) (q_a : -2147483648 ≤ a ∧ a ≤ 2147483647) (q_b : -2147483648 ≤ b ∧ b ≤ 2147483647) (q_c : -2147483648 ≤ c ∧ c ≤ 2147483647) : zwC sc 6 11 [(2, 1), (0, a), (0, b), (0, c)] h (zwRt 0 (fun x g => CI g ∧ zXR msx11 (0) (0) h g ∧ (0 ≤ x ∧ x ≤ 1) ∧ (((x = 1) ∧ (0 ≤ a ∧ a < fld h 3 2 ∧ fld h (fld h (fld h 3 1) a.toNat) 13 ≤ 0 ∧ 0 ≤ b ∧ 4 ≤ b / 100 ∧ b / 100 ≤ b % 100 ∧ b % 100 ≤ 60 ∧ 1 ≤ c ∧ c ≤ 40) ∧ (∀ (rr : Int) (nn : Nat), 365 < rr → sh h rr = some (4, nn) → fld g rr 11 = if rr = fld h (fld h 3 1) a.toNat then b / 100 else fld h rr 11) ∧ (∀ (rr : Int) (nn : Nat), 365 < rr → sh h rr = some (4, nn) → fld g rr 12 = if rr = fld h (fld h 3 1) a.toNat then b % 100 else fld h rr 12) ∧ (∀ (rr : Int) (nn : Nat), 365 < rr → sh h rr = some (4, nn) → fld g rr 13 = if rr = fld h (fld h 3 1) a.toNat then c else fld h rr 13)) ∨ ((x = 0) ∧ (g = h) ∧ (a < 0 ∨ fld h 3 2 ≤ a ∨ 0 < fld h (fld h (fld h 3 1) a.toNat) 13 ∨ b < 0 ∨ b / 100 < 4 ∨ b % 100 < b / 100 ∨ 60 < b % 100 ∨ c < 1 ∨ 40 < c))))) := by
  refine zwC_of (D := 5) 7 (by decide +kernel) rfl (ls := [(2, 1), (0, a), (0, b), (0, c), (9, 0), (9, 0), (9, 0)]) rfl ?_
  have X : zXR msx11 0 0 h h := zXR.rf _ _
  have T1 := zt100 (b := b) ⟨by omega, by omega⟩
  refine zwW_p [(1, 0, 2), (1, 1, 0)] (q := 2) (ls' := [(2, 1), (0, a), (0, b), (0, c), (9, 0), (9, 0), (9, 0)]) (st' := [(0, a), (2, 1)]) (by decide +kernel) rfl ?_
  refine zwW_cm C.1 (op := 60) (k' := 109) (n := 1) (kd := 12) (m := 13) (nx := 5) (r := 1) (tl := [(0, a)]) (st' := []) (by decide +kernel) rfl (by decide +kernel) rfl (x109 h C a (by omega)) ?_
  rintro v2 _ ⟨rfl, ⟨rfl, c1⟩ | ⟨Gv2, c1⟩⟩
  · refine zwW_p [(2, 4, 2), (1, 2, 0), (0, 100, 0)] (q := 10) (ls' := [(2, 1), (0, a), (0, b), (0, c), (2, 0), (9, 0), (9, 0)]) (st' := [(0, 100), (0, b)]) (by decide +kernel) rfl ?_
    refine zwW_tdw (nx := 11) (by decide +kernel) (by omega) ?_
    intro v3 ev3 lv3 uv3
    refine zwW_p [(2, 5, 0), (1, 2, 0), (0, 100, 0)] (q := 16) (ls' := [(2, 1), (0, a), (0, b), (0, c), (2, 0), (0, v3), (9, 0)]) (st' := [(0, 100), (0, b)]) (by decide +kernel) rfl ?_
    refine zwW_tmw (nx := 17) (by decide +kernel) ⟨by omega, by omega⟩ (by omega) ?_
    intro v4 ev4 lv4 uv4
    refine zwW_p [(2, 6, 0), (1, 4, 2)] (q := 21) (ls' := [(2, 1), (0, a), (0, b), (0, c), (2, 0), (0, v3), (0, v4)]) (st' := [(2, 0)]) (by decide +kernel) rfl ?_
    refine zwnu_eq (q := 62) (nx := 24) (by decide +kernel) (by decide) (fun c5 => ?_) (fun c5 => ?_)
    · refine zwW_p [(0, 0, 0)] (q := 63) (ls' := [(2, 1), (0, a), (0, b), (0, c), (2, 0), (0, v3), (0, v4)]) (st' := [(0, 0)]) (by decide +kernel) rfl ?_
      refine zwW_ret (nx := 64) (a := 1) (b := 0) (by decide +kernel) rfl (Or.inr (Or.inl ⟨rfl, by omega⟩)) ?_
      exact ⟨C, X.le (by decide) (by decide), by omega, by exact Or.inr ⟨by omega, by rfl, by first | omega | (rw [← rfl]; omega)⟩⟩
    · exfalso; omega
  · have lv2 := Gv2.1
    have ev2 := c1.2.2
    refine zwW_p [(2, 4, 2), (1, 2, 0), (0, 100, 0)] (q := 10) (ls' := [(2, 1), (0, a), (0, b), (0, c), (2, v2), (9, 0), (9, 0)]) (st' := [(0, 100), (0, b)]) (by decide +kernel) rfl ?_
    refine zwW_tdw (nx := 11) (by decide +kernel) (by omega) ?_
    intro v6 ev6 lv6 uv6
    refine zwW_p [(2, 5, 0), (1, 2, 0), (0, 100, 0)] (q := 16) (ls' := [(2, 1), (0, a), (0, b), (0, c), (2, v2), (0, v6), (9, 0)]) (st' := [(0, 100), (0, b)]) (by decide +kernel) rfl ?_
    refine zwW_tmw (nx := 17) (by decide +kernel) ⟨by omega, by omega⟩ (by omega) ?_
    intro v7 ev7 lv7 uv7
    refine zwW_p [(2, 6, 0), (1, 4, 2)] (q := 21) (ls' := [(2, 1), (0, a), (0, b), (0, c), (2, v2), (0, v6), (0, v7)]) (st' := [(2, v2)]) (by decide +kernel) rfl ?_
    refine zwnu_eq (q := 62) (nx := 24) (by decide +kernel) (by omega) (fun c8 => ?_) (fun c8 => ?_)
    · exfalso; omega
    · refine zwW_p [(1, 4, 2)] (q := 26) (ls' := [(2, 1), (0, a), (0, b), (0, c), (2, v2), (0, v6), (0, v7)]) (st' := [(2, v2)]) (by decide +kernel) rfl ?_
      refine zwW_cv (op := 60) (k' := 110) (n := 0) (kd := 4) (m := 19) (nx := 29) (r := v2) (tl := []) (st' := []) (by decide +kernel) rfl (by decide +kernel) Gv2.2.1 (x110 h C v2 Gv2) rfl ?_
      rintro x _ ⟨rfl, ⟨rfl, c9⟩ | ⟨rfl, c9⟩⟩
      · refine zwif_ne (q := 62) (nx := 32) (by decide +kernel) (fun c10 => ?_) (fun c10 => ?_)
        · refine zwW_p [(0, 0, 0)] (q := 63) (ls' := [(2, 1), (0, a), (0, b), (0, c), (2, v2), (0, v6), (0, v7)]) (st' := [(0, 0)]) (by decide +kernel) rfl ?_
          refine zwW_ret (nx := 64) (a := 1) (b := 0) (by decide +kernel) rfl (Or.inr (Or.inl ⟨rfl, by omega⟩)) ?_
          exact ⟨C, X.le (by decide) (by decide), by omega, by exact Or.inr ⟨by omega, by rfl, by first | omega | (rw [← ev2]; omega)⟩⟩
        · exfalso; omega
      · refine zwif_ne (q := 62) (nx := 32) (by decide +kernel) (fun c11 => ?_) (fun c11 => ?_)
        · exfalso; omega
        · refine zwW_p [(1, 5, 0), (0, 4, 0)] (q := 35) (ls' := [(2, 1), (0, a), (0, b), (0, c), (2, v2), (0, v6), (0, v7)]) (st' := [(0, 4), (0, v6)]) (by decide +kernel) rfl ?_
          refine zwic_lt (q := 62) (nx := 38) (by decide +kernel) (fun c12 => ?_) (fun c12 => ?_)
          · refine zwW_p [(0, 0, 0)] (q := 63) (ls' := [(2, 1), (0, a), (0, b), (0, c), (2, v2), (0, v6), (0, v7)]) (st' := [(0, 0)]) (by decide +kernel) rfl ?_
            refine zwW_ret (nx := 64) (a := 1) (b := 0) (by decide +kernel) rfl (Or.inr (Or.inl ⟨rfl, by omega⟩)) ?_
            exact ⟨C, X.le (by decide) (by decide), by omega, by exact Or.inr ⟨by omega, by rfl, by first | omega | (rw [← ev2]; omega)⟩⟩
          · refine zwW_p [(1, 5, 0), (1, 6, 0)] (q := 42) (ls' := [(2, 1), (0, a), (0, b), (0, c), (2, v2), (0, v6), (0, v7)]) (st' := [(0, v7), (0, v6)]) (by decide +kernel) rfl ?_
            refine zwic_gt (q := 62) (nx := 45) (by decide +kernel) (fun c13 => ?_) (fun c13 => ?_)
            · refine zwW_p [(0, 0, 0)] (q := 63) (ls' := [(2, 1), (0, a), (0, b), (0, c), (2, v2), (0, v6), (0, v7)]) (st' := [(0, 0)]) (by decide +kernel) rfl ?_
              refine zwW_ret (nx := 64) (a := 1) (b := 0) (by decide +kernel) rfl (Or.inr (Or.inl ⟨rfl, by omega⟩)) ?_
              exact ⟨C, X.le (by decide) (by decide), by omega, by exact Or.inr ⟨by omega, by rfl, by first | omega | (rw [← ev2]; omega)⟩⟩
            · refine zwW_p [(1, 6, 0), (0, 60, 0)] (q := 49) (ls' := [(2, 1), (0, a), (0, b), (0, c), (2, v2), (0, v6), (0, v7)]) (st' := [(0, 60), (0, v7)]) (by decide +kernel) rfl ?_
              refine zwic_gt (q := 62) (nx := 52) (by decide +kernel) (fun c14 => ?_) (fun c14 => ?_)
              · refine zwW_p [(0, 0, 0)] (q := 63) (ls' := [(2, 1), (0, a), (0, b), (0, c), (2, v2), (0, v6), (0, v7)]) (st' := [(0, 0)]) (by decide +kernel) rfl ?_
                refine zwW_ret (nx := 64) (a := 1) (b := 0) (by decide +kernel) rfl (Or.inr (Or.inl ⟨rfl, by omega⟩)) ?_
                exact ⟨C, X.le (by decide) (by decide), by omega, by exact Or.inr ⟨by omega, by rfl, by first | omega | (rw [← ev2]; omega)⟩⟩
              · refine zwW_p [(1, 3, 0), (0, 1, 0), (0, 40, 0)] (q := 56) (ls' := [(2, 1), (0, a), (0, b), (0, c), (2, v2), (0, v6), (0, v7)]) (st' := [(0, 40), (0, 1), (0, c)]) (by decide +kernel) rfl ?_
                refine zwW_cs (k' := 98) (n := 3) (nx := 59) (as := [(0, c), (0, 1), (0, 40)]) (st' := []) (by decide +kernel) rfl (x98 h C c 1 40 (by omega) (by omega) (by omega)) rfl ?_
                rintro x _ ⟨rfl, ⟨rfl, c15⟩ | ⟨rfl, c15⟩⟩
                · refine zwif_eq (q := 64) (nx := 62) (by decide +kernel) (fun c16 => ?_) (fun c16 => ?_)
                  · exfalso; omega
                  · refine zwW_p [(0, 0, 0)] (q := 63) (ls' := [(2, 1), (0, a), (0, b), (0, c), (2, v2), (0, v6), (0, v7)]) (st' := [(0, 0)]) (by decide +kernel) rfl ?_
                    refine zwW_ret (nx := 64) (a := 1) (b := 0) (by decide +kernel) rfl (Or.inr (Or.inl ⟨rfl, by omega⟩)) ?_
                    exact ⟨C, X.le (by decide) (by decide), by omega, by exact Or.inr ⟨by omega, by rfl, by first | omega | (rw [← ev2]; omega)⟩⟩
                · refine zwif_eq (q := 64) (nx := 62) (by decide +kernel) (fun c17 => ?_) (fun c17 => ?_)
                  · refine zwW_p [(1, 4, 2), (1, 5, 0)] (q := 68) (ls' := [(2, 1), (0, a), (0, b), (0, c), (2, v2), (0, v6), (0, v7)]) (st' := [(0, v6), (2, v2)]) (by decide +kernel) rfl ?_
                    refine zwX_pi C (kd := 4) (bn := 11) (n := 19) (nx := 71) (by decide +kernel) Gv2.2.1 Gv2.1 ⟨by omega, by omega⟩ ?_
                    rintro h18 eh18 Ch18 Qh18
                    have Xh18 : zXR msx11 (0) (0) h h18 := X.tr (c2 := 0) (s2 := 0) Qh18 (by decide +kernel) (by decide) (by decide)
                    have Gh18_0 : gH h18 v2 := Gv2.x Qh18
                    have Yh18_4_11 : ∀ (rr : Int) (nn : Nat), 365 < rr → sh h rr = some (4, nn) → fld h18 rr 11 = (if rr = v2 then v6 else fld h rr 11) := by
                      intro rr nn z1 z2
                      by_cases zq : rr = v2
                      · rw [if_pos zq, zq, eh18]; exact fld_wr_eq Gv2.2.1 (by decide)
                      · rw [if_neg zq, eh18, fld_wr (Or.inl zq)]
                    have Yh18_4_12 : ∀ (rr : Int) (nn : Nat), 365 < rr → sh h rr = some (4, nn) → fld h18 rr 12 = fld h rr 12 := by
                      intro rr nn z1 z2
                      exact (Qh18.dy (k := 4) (j1 := 12) (j2 := 13) (by decide +kernel) z1 (X.1 _ _ z2) (by decide) ⟨by decide, by decide⟩).trans rfl
                    have Yh18_4_13 : ∀ (rr : Int) (nn : Nat), 365 < rr → sh h rr = some (4, nn) → fld h18 rr 13 = fld h rr 13 := by
                      intro rr nn z1 z2
                      exact (Qh18.dy (k := 4) (j1 := 13) (j2 := 14) (by decide +kernel) z1 (X.1 _ _ z2) (by decide) ⟨by decide, by decide⟩).trans rfl
                    refine zwW_p [(1, 4, 2), (1, 6, 0)] (q := 75) (ls' := [(2, 1), (0, a), (0, b), (0, c), (2, v2), (0, v6), (0, v7)]) (st' := [(0, v7), (2, v2)]) (by decide +kernel) rfl ?_
                    refine zwX_pi Ch18 (kd := 4) (bn := 12) (n := 19) (nx := 78) (by decide +kernel) Gh18_0.2.1 Gh18_0.1 ⟨by omega, by omega⟩ ?_
                    rintro h19 eh19 Ch19 Qh19
                    have Xh19 : zXR msx11 (0) (0) h h19 := Xh18.tr (c2 := 0) (s2 := 0) Qh19 (by decide +kernel) (by decide) (by decide)
                    have Gh19_0 : gH h19 v2 := Gh18_0.x Qh19
                    have Yh19_4_11 : ∀ (rr : Int) (nn : Nat), 365 < rr → sh h rr = some (4, nn) → fld h19 rr 11 = (if rr = v2 then v6 else fld h rr 11) := by
                      intro rr nn z1 z2
                      exact (Qh19.dy (k := 4) (j1 := 11) (j2 := 12) (by decide +kernel) z1 (Xh18.1 _ _ z2) (by decide) ⟨by decide, by decide⟩).trans (Yh18_4_11 rr nn z1 z2)
                    have Yh19_4_12 : ∀ (rr : Int) (nn : Nat), 365 < rr → sh h rr = some (4, nn) → fld h19 rr 12 = (if rr = v2 then v7 else fld h rr 12) := by
                      intro rr nn z1 z2
                      by_cases zq : rr = v2
                      · rw [if_pos zq, zq, eh19]; exact fld_wr_eq Gh18_0.2.1 (by decide)
                      · rw [if_neg zq, eh19, fld_wr (Or.inl zq)]; exact (Yh18_4_12 rr nn z1 z2)
                    have Yh19_4_13 : ∀ (rr : Int) (nn : Nat), 365 < rr → sh h rr = some (4, nn) → fld h19 rr 13 = fld h rr 13 := by
                      intro rr nn z1 z2
                      exact (Qh19.dy (k := 4) (j1 := 13) (j2 := 14) (by decide +kernel) z1 (Xh18.1 _ _ z2) (by decide) ⟨by decide, by decide⟩).trans (Yh18_4_13 rr nn z1 z2)
                    refine zwW_p [(1, 4, 2), (1, 3, 0)] (q := 81) (ls' := [(2, 1), (0, a), (0, b), (0, c), (2, v2), (0, v6), (0, v7)]) (st' := [(0, c), (2, v2)]) (by decide +kernel) rfl ?_
                    refine zwX_pi Ch19 (kd := 4) (bn := 13) (n := 19) (nx := 84) (by decide +kernel) Gh19_0.2.1 Gh19_0.1 ⟨by omega, by omega⟩ ?_
                    rintro h20 eh20 Ch20 Qh20
                    have Xh20 : zXR msx11 (0) (0) h h20 := Xh19.tr (c2 := 0) (s2 := 0) Qh20 (by decide +kernel) (by decide) (by decide)
                    have Gh20_0 : gH h20 v2 := Gh19_0.x Qh20
                    have Yh20_4_11 : ∀ (rr : Int) (nn : Nat), 365 < rr → sh h rr = some (4, nn) → fld h20 rr 11 = (if rr = v2 then v6 else fld h rr 11) := by
                      intro rr nn z1 z2
                      exact (Qh20.dy (k := 4) (j1 := 11) (j2 := 12) (by decide +kernel) z1 (Xh19.1 _ _ z2) (by decide) ⟨by decide, by decide⟩).trans (Yh19_4_11 rr nn z1 z2)
                    have Yh20_4_12 : ∀ (rr : Int) (nn : Nat), 365 < rr → sh h rr = some (4, nn) → fld h20 rr 12 = (if rr = v2 then v7 else fld h rr 12) := by
                      intro rr nn z1 z2
                      exact (Qh20.dy (k := 4) (j1 := 12) (j2 := 13) (by decide +kernel) z1 (Xh19.1 _ _ z2) (by decide) ⟨by decide, by decide⟩).trans (Yh19_4_12 rr nn z1 z2)
                    have Yh20_4_13 : ∀ (rr : Int) (nn : Nat), 365 < rr → sh h rr = some (4, nn) → fld h20 rr 13 = (if rr = v2 then c else fld h rr 13) := by
                      intro rr nn z1 z2
                      by_cases zq : rr = v2
                      · rw [if_pos zq, zq, eh20]; exact fld_wr_eq Gh19_0.2.1 (by decide)
                      · rw [if_neg zq, eh20, fld_wr (Or.inl zq)]; exact (Yh19_4_13 rr nn z1 z2)
                    refine zwW_p [(0, 1, 0)] (q := 85) (ls' := [(2, 1), (0, a), (0, b), (0, c), (2, v2), (0, v6), (0, v7)]) (st' := [(0, 1)]) (by decide +kernel) rfl ?_
                    refine zwW_ret (nx := 86) (a := 1) (b := 0) (by decide +kernel) rfl (Or.inr (Or.inl ⟨rfl, by omega⟩)) ?_
                    exact ⟨Ch20, Xh20.le (by decide) (by decide), by omega, by exact Or.inl ⟨by omega, by first | omega | (rw [← ev2]; omega), by intro rr nn z1 z2; rw [← ev2]; first | exact Yh20_4_11 rr nn z1 z2 | (rw [Yh20_4_11 rr nn z1 z2]; split <;> first | omega | (split <;> omega)), by intro rr nn z1 z2; rw [← ev2]; first | exact Yh20_4_12 rr nn z1 z2 | (rw [Yh20_4_12 rr nn z1 z2]; split <;> first | omega | (split <;> omega)), by intro rr nn z1 z2; rw [← ev2]; first | exact Yh20_4_13 rr nn z1 z2 | (rw [Yh20_4_13 rr nn z1 z2]; split <;> first | omega | (split <;> omega))⟩⟩
                  · exfalso; omega
def msx13 : Zms := [(1004, 1004, 7, 8)]
-- WheelLand.aim(II)Z
theorem x13 {sc : List Int} (h : Hp) (C : CI h) (a b : Int) (q_a : -2147483648 ≤ a ∧ a ≤ 2147483647) (q_b : -2147483648 ≤ b ∧ b ≤ 2147483647) : zwC sc 6 13 [(2, 1), (0, a), (0, b)] h (zwRt 0 (fun x g => CI g ∧ zXR msx13 (0) (0) h g ∧ (0 ≤ x ∧ x ≤ 1) ∧ (((x = 1) ∧ (0 ≤ a ∧ a < fld h 3 2 ∧ 4 ≤ b ∧ b ≤ 60) ∧ (∀ (rr : Int) (nn : Nat), 365 < rr → sh h rr = some (4, nn) → fld g rr 7 = if rr = fld h (fld h 3 1) a.toNat then b else fld h rr 7)) ∨ ((x = 0) ∧ (g = h) ∧ (a < 0 ∨ fld h 3 2 ≤ a ∨ b < 4 ∨ 60 < b))))) := by
  refine zwC_of (D := 5) 4 (by decide +kernel) rfl (ls := [(2, 1), (0, a), (0, b), (9, 0)]) rfl ?_
  have X : zXR msx13 0 0 h h := zXR.rf _ _
  refine zwW_p [(1, 0, 2), (1, 1, 0)] (q := 2) (ls' := [(2, 1), (0, a), (0, b), (9, 0)]) (st' := [(0, a), (2, 1)]) (by decide +kernel) rfl ?_
  refine zwW_cm C.1 (op := 60) (k' := 109) (n := 1) (kd := 12) (m := 13) (nx := 5) (r := 1) (tl := [(0, a)]) (st' := []) (by decide +kernel) rfl (by decide +kernel) rfl (x109 h C a (by omega)) ?_
  rintro v2 _ ⟨rfl, ⟨rfl, c1⟩ | ⟨Gv2, c1⟩⟩
  · refine zwW_p [(2, 3, 2), (1, 3, 2)] (q := 7) (ls' := [(2, 1), (0, a), (0, b), (2, 0)]) (st' := [(2, 0)]) (by decide +kernel) rfl ?_
    refine zwnu_eq (q := 20) (nx := 10) (by decide +kernel) (by decide) (fun c3 => ?_) (fun c3 => ?_)
    · refine zwW_p [(0, 0, 0)] (q := 21) (ls' := [(2, 1), (0, a), (0, b), (2, 0)]) (st' := [(0, 0)]) (by decide +kernel) rfl ?_
      refine zwW_ret (nx := 22) (a := 1) (b := 0) (by decide +kernel) rfl (Or.inr (Or.inl ⟨rfl, by omega⟩)) ?_
      exact ⟨C, X.le (by decide) (by decide), by omega, by exact Or.inr ⟨by omega, by rfl, by omega⟩⟩
    · exfalso; omega
  · have lv2 := Gv2.1
    have ev2 := c1.2.2
    refine zwW_p [(2, 3, 2), (1, 3, 2)] (q := 7) (ls' := [(2, 1), (0, a), (0, b), (2, v2)]) (st' := [(2, v2)]) (by decide +kernel) rfl ?_
    refine zwnu_eq (q := 20) (nx := 10) (by decide +kernel) (by omega) (fun c4 => ?_) (fun c4 => ?_)
    · exfalso; omega
    · refine zwW_p [(1, 2, 0), (0, 4, 0), (0, 60, 0)] (q := 14) (ls' := [(2, 1), (0, a), (0, b), (2, v2)]) (st' := [(0, 60), (0, 4), (0, b)]) (by decide +kernel) rfl ?_
      refine zwW_cs (k' := 98) (n := 3) (nx := 17) (as := [(0, b), (0, 4), (0, 60)]) (st' := []) (by decide +kernel) rfl (x98 h C b 4 60 (by omega) (by omega) (by omega)) rfl ?_
      rintro x _ ⟨rfl, ⟨rfl, c5⟩ | ⟨rfl, c5⟩⟩
      · refine zwif_eq (q := 22) (nx := 20) (by decide +kernel) (fun c6 => ?_) (fun c6 => ?_)
        · exfalso; omega
        · refine zwW_p [(0, 0, 0)] (q := 21) (ls' := [(2, 1), (0, a), (0, b), (2, v2)]) (st' := [(0, 0)]) (by decide +kernel) rfl ?_
          refine zwW_ret (nx := 22) (a := 1) (b := 0) (by decide +kernel) rfl (Or.inr (Or.inl ⟨rfl, by omega⟩)) ?_
          exact ⟨C, X.le (by decide) (by decide), by omega, by exact Or.inr ⟨by omega, by rfl, by omega⟩⟩
      · refine zwif_eq (q := 22) (nx := 20) (by decide +kernel) (fun c7 => ?_) (fun c7 => ?_)
        · refine zwW_p [(1, 3, 2), (1, 2, 0)] (q := 24) (ls' := [(2, 1), (0, a), (0, b), (2, v2)]) (st' := [(0, b), (2, v2)]) (by decide +kernel) rfl ?_
          refine zwX_pi C (kd := 4) (bn := 7) (n := 19) (nx := 27) (by decide +kernel) Gv2.2.1 Gv2.1 ⟨by omega, by omega⟩ ?_
          rintro h8 eh8 Ch8 Qh8
          have Xh8 : zXR msx13 (0) (0) h h8 := X.tr (c2 := 0) (s2 := 0) Qh8 (by decide +kernel) (by decide) (by decide)
          have Gh8_0 : gH h8 v2 := Gv2.x Qh8
          have Yh8_4_7 : ∀ (rr : Int) (nn : Nat), 365 < rr → sh h rr = some (4, nn) → fld h8 rr 7 = (if rr = v2 then b else fld h rr 7) := by
            intro rr nn z1 z2
            by_cases zq : rr = v2
            · rw [if_pos zq, zq, eh8]; exact fld_wr_eq Gv2.2.1 (by decide)
            · rw [if_neg zq, eh8, fld_wr (Or.inl zq)]
          refine zwW_p [(0, 1, 0)] (q := 28) (ls' := [(2, 1), (0, a), (0, b), (2, v2)]) (st' := [(0, 1)]) (by decide +kernel) rfl ?_
          refine zwW_ret (nx := 29) (a := 1) (b := 0) (by decide +kernel) rfl (Or.inr (Or.inl ⟨rfl, by omega⟩)) ?_
          exact ⟨Ch8, Xh8.le (by decide) (by decide), by omega, by exact Or.inl ⟨by omega, by omega, by intro rr nn z1 z2; rw [← ev2]; first | exact Yh8_4_7 rr nn z1 z2 | (rw [Yh8_4_7 rr nn z1 z2]; split <;> first | omega | (split <;> omega))⟩⟩
        · exfalso; omega
def msx15 : Zms := [(1004, 1004, 6, 7)]
-- WheelLand.coins(II)I
theorem x15 {sc : List Int} (h : Hp) (C : CI h) (a b : Int) (q_a : -2147483648 ≤ a ∧ a ≤ 2147483647) (q_b : -2147483648 ≤ b ∧ b ≤ 2147483647) : zwC sc 6 15 [(2, 1), (0, a), (0, b)] h (zwRt 0 (fun x g => CI g ∧ zXR msx15 (0) (0) h g ∧ (-2147483648 ≤ x ∧ x ≤ 2147483647))) := by
  refine zwC_of (D := 5) 4 (by decide +kernel) rfl (ls := [(2, 1), (0, a), (0, b), (9, 0)]) rfl ?_
  have X : zXR msx15 0 0 h h := zXR.rf _ _
  refine zwW_p [(1, 0, 2), (1, 1, 0)] (q := 2) (ls' := [(2, 1), (0, a), (0, b), (9, 0)]) (st' := [(0, a), (2, 1)]) (by decide +kernel) rfl ?_
  refine zwW_cm C.1 (op := 60) (k' := 109) (n := 1) (kd := 12) (m := 13) (nx := 5) (r := 1) (tl := [(0, a)]) (st' := []) (by decide +kernel) rfl (by decide +kernel) rfl (x109 h C a (by omega)) ?_
  rintro v2 _ ⟨rfl, ⟨rfl, c1⟩ | ⟨Gv2, c1⟩⟩
  · refine zwW_p [(2, 3, 2), (1, 3, 2)] (q := 7) (ls' := [(2, 1), (0, a), (0, b), (2, 0)]) (st' := [(2, 0)]) (by decide +kernel) rfl ?_
    refine zwnu_eq (q := 23) (nx := 10) (by decide +kernel) (by decide) (fun c3 => ?_) (fun c3 => ?_)
    · refine zwW_p [(0, -2147483648, 0)] (q := 25) (ls' := [(2, 1), (0, a), (0, b), (2, 0)]) (st' := [(0, -2147483648)]) (by decide +kernel) rfl ?_
      refine zwW_ret (nx := 26) (a := 0) (b := 0) (by decide +kernel) rfl (Or.inl rfl) ?_
      exact ⟨C, X.le (by decide) (by decide), by omega⟩
    · exfalso; omega
  · have lv2 := Gv2.1
    have ev2 := c1.2.2
    refine zwW_p [(2, 3, 2), (1, 3, 2)] (q := 7) (ls' := [(2, 1), (0, a), (0, b), (2, v2)]) (st' := [(2, v2)]) (by decide +kernel) rfl ?_
    refine zwnu_eq (q := 23) (nx := 10) (by decide +kernel) (by omega) (fun c4 => ?_) (fun c4 => ?_)
    · exfalso; omega
    · refine zwW_p [(1, 2, 0), (0, -9999, 0), (0, 9999, 0)] (q := 17) (ls' := [(2, 1), (0, a), (0, b), (2, v2)]) (st' := [(0, 9999), (0, -9999), (0, b)]) (by decide +kernel) rfl ?_
      refine zwW_cs (k' := 98) (n := 3) (nx := 20) (as := [(0, b), (0, -9999), (0, 9999)]) (st' := []) (by decide +kernel) rfl (x98 h C b (-9999) 9999 (by omega) (by omega) (by omega)) rfl ?_
      rintro x _ ⟨rfl, ⟨rfl, c5⟩ | ⟨rfl, c5⟩⟩
      · refine zwif_eq (q := 26) (nx := 23) (by decide +kernel) (fun c6 => ?_) (fun c6 => ?_)
        · exfalso; omega
        · refine zwW_p [(0, -2147483648, 0)] (q := 25) (ls' := [(2, 1), (0, a), (0, b), (2, v2)]) (st' := [(0, -2147483648)]) (by decide +kernel) rfl ?_
          refine zwW_ret (nx := 26) (a := 0) (b := 0) (by decide +kernel) rfl (Or.inl rfl) ?_
          exact ⟨C, X.le (by decide) (by decide), by omega⟩
      · refine zwif_eq (q := 26) (nx := 23) (by decide +kernel) (fun c7 => ?_) (fun c7 => ?_)
        · refine zwW_p [(1, 3, 2), (12, 0, 0)] (q := 28) (ls' := [(2, 1), (0, a), (0, b), (2, v2)]) (st' := [(2, v2), (2, v2)]) (by decide +kernel) rfl ?_
          refine zwX_gi C (kd := 4) (bn := 6) (n := 19) (nx := 31) (by decide +kernel) Gv2.2.1 Gv2.1 rfl ?_
          intro v8 ev8 lv8 uv8
          refine zwW_p [(1, 2, 0)] (q := 32) (ls' := [(2, 1), (0, a), (0, b), (2, v2)]) (st' := [(0, b), (0, v8), (2, v2)]) (by decide +kernel) rfl ?_
          refine zwW_adw (nx := 33) (by decide +kernel) ?_
          intro v9 ev9 lv9 uv9
          have Ev9 : v9 = w32 ((fld h v2 6) + b) := by rw [ev9, ev8]
          refine zwX_pi C (kd := 4) (bn := 6) (n := 19) (nx := 36) (by decide +kernel) Gv2.2.1 Gv2.1 ⟨by omega, by omega⟩ ?_
          rintro h10 eh10 Ch10 Qh10
          have Xh10 : zXR msx15 (0) (0) h h10 := X.tr (c2 := 0) (s2 := 0) Qh10 (by decide +kernel) (by decide) (by decide)
          have Gh10_0 : gH h10 v2 := Gv2.x Qh10
          refine zwW_p [(1, 3, 2)] (q := 37) (ls' := [(2, 1), (0, a), (0, b), (2, v2)]) (st' := [(2, v2)]) (by decide +kernel) rfl ?_
          refine zwX_gi Ch10 (kd := 4) (bn := 6) (n := 19) (nx := 40) (by decide +kernel) Gh10_0.2.1 Gh10_0.1 rfl ?_
          intro v11 ev11 lv11 uv11
          have wv11 : v11 = v9 := by rw [ev11, eh10]; exact fld_wr_eq Gv2.2.1 (by decide)
          refine zwW_ret (nx := 41) (a := 0) (b := 0) (by decide +kernel) rfl (Or.inl rfl) ?_
          exact ⟨Ch10, Xh10.le (by decide) (by decide), by omega⟩
        · exfalso; omega
def msx17 : Zms := [(1011, 1011, 3, 4)]
-- WheelLand.cotton(II)I
theorem x17 {sc : List Int} (h : Hp) (C : CI h) (a b : Int) (q_a : -2147483648 ≤ a ∧ a ≤ 2147483647) (q_b : -2147483648 ≤ b ∧ b ≤ 2147483647) : zwC sc 6 17 [(2, 1), (0, a), (0, b)] h (zwRt 0 (fun x g => CI g ∧ zXR msx17 (0) (0) h g ∧ (-2147483648 ≤ x ∧ x ≤ 2147483647) ∧ (((x = w32 (fld h (fld h (fld h 2 1) a.toNat) 3 + b)) ∧ (0 ≤ a ∧ a < fld h 2 2 ∧ 1 ≤ b ∧ b ≤ 999 ∧ w32 (fld h (fld h (fld h 2 1) a.toNat) 3 + b) ≤ 9999) ∧ (∀ (rr : Int) (nn : Nat), 365 < rr → sh h rr = some (11, nn) → fld g rr 3 = if rr = fld h (fld h 2 1) a.toNat then w32 (fld h (fld h (fld h 2 1) a.toNat) 3 + b) else fld h rr 3)) ∨ ((x = -1) ∧ (g = h) ∧ (a < 0 ∨ fld h 2 2 ≤ a ∨ b < 1 ∨ 999 < b ∨ 9999 < w32 (fld h (fld h (fld h 2 1) a.toNat) 3 + b)))))) := by
  refine zwC_of (D := 5) 4 (by decide +kernel) rfl (ls := [(2, 1), (0, a), (0, b), (9, 0)]) rfl ?_
  have X : zXR msx17 0 0 h h := zXR.rf _ _
  refine zwW_p [(1, 0, 2), (1, 1, 0)] (q := 2) (ls' := [(2, 1), (0, a), (0, b), (9, 0)]) (st' := [(0, a), (2, 1)]) (by decide +kernel) rfl ?_
  refine zwW_cm C.1 (op := 60) (k' := 102) (n := 1) (kd := 12) (m := 13) (nx := 5) (r := 1) (tl := [(0, a)]) (st' := []) (by decide +kernel) rfl (by decide +kernel) rfl (x102 h C a (by omega)) ?_
  rintro v2 _ ⟨rfl, ⟨rfl, c1⟩ | ⟨Gv2, c1⟩⟩
  · refine zwW_p [(2, 3, 2), (1, 3, 2)] (q := 7) (ls' := [(2, 1), (0, a), (0, b), (2, 0)]) (st' := [(2, 0)]) (by decide +kernel) rfl ?_
    refine zwnu_eq (q := 33) (nx := 10) (by decide +kernel) (by decide) (fun c3 => ?_) (fun c3 => ?_)
    · refine zwW_p [(0, -1, 0)] (q := 34) (ls' := [(2, 1), (0, a), (0, b), (2, 0)]) (st' := [(0, -1)]) (by decide +kernel) rfl ?_
      refine zwW_ret (nx := 35) (a := 0) (b := 0) (by decide +kernel) rfl (Or.inl rfl) ?_
      exact ⟨C, X.le (by decide) (by decide), by omega, by exact Or.inr ⟨by omega, by rfl, by first | omega | (rw [← rfl]; omega)⟩⟩
    · exfalso; omega
  · have lv2 := Gv2.1
    have ev2 := c1.2.2
    refine zwW_p [(2, 3, 2), (1, 3, 2)] (q := 7) (ls' := [(2, 1), (0, a), (0, b), (2, v2)]) (st' := [(2, v2)]) (by decide +kernel) rfl ?_
    refine zwnu_eq (q := 33) (nx := 10) (by decide +kernel) (by omega) (fun c4 => ?_) (fun c4 => ?_)
    · exfalso; omega
    · refine zwW_p [(1, 2, 0), (0, 1, 0), (0, 999, 0)] (q := 15) (ls' := [(2, 1), (0, a), (0, b), (2, v2)]) (st' := [(0, 999), (0, 1), (0, b)]) (by decide +kernel) rfl ?_
      refine zwW_cs (k' := 98) (n := 3) (nx := 18) (as := [(0, b), (0, 1), (0, 999)]) (st' := []) (by decide +kernel) rfl (x98 h C b 1 999 (by omega) (by omega) (by omega)) rfl ?_
      rintro x _ ⟨rfl, ⟨rfl, c5⟩ | ⟨rfl, c5⟩⟩
      · refine zwif_ne (q := 33) (nx := 21) (by decide +kernel) (fun c6 => ?_) (fun c6 => ?_)
        · refine zwW_p [(0, -1, 0)] (q := 34) (ls' := [(2, 1), (0, a), (0, b), (2, v2)]) (st' := [(0, -1)]) (by decide +kernel) rfl ?_
          refine zwW_ret (nx := 35) (a := 0) (b := 0) (by decide +kernel) rfl (Or.inl rfl) ?_
          exact ⟨C, X.le (by decide) (by decide), by omega, by exact Or.inr ⟨by omega, by rfl, by first | omega | (rw [← ev2]; omega)⟩⟩
        · exfalso; omega
      · refine zwif_ne (q := 33) (nx := 21) (by decide +kernel) (fun c7 => ?_) (fun c7 => ?_)
        · exfalso; omega
        · refine zwW_p [(1, 3, 2)] (q := 22) (ls' := [(2, 1), (0, a), (0, b), (2, v2)]) (st' := [(2, v2)]) (by decide +kernel) rfl ?_
          refine zwX_gi C (kd := 11) (bn := 3) (n := 17) (nx := 25) (by decide +kernel) Gv2.2.1 Gv2.1 rfl ?_
          intro v8 ev8 lv8 uv8
          refine zwW_p [(1, 2, 0)] (q := 26) (ls' := [(2, 1), (0, a), (0, b), (2, v2)]) (st' := [(0, b), (0, v8)]) (by decide +kernel) rfl ?_
          refine zwW_adw (nx := 27) (by decide +kernel) ?_
          intro v9 ev9 lv9 uv9
          have Ev9 : v9 = w32 ((fld h v2 3) + b) := by rw [ev9, ev8]
          refine zwW_p [(0, 9999, 0)] (q := 30) (ls' := [(2, 1), (0, a), (0, b), (2, v2)]) (st' := [(0, 9999), (0, v9)]) (by decide +kernel) rfl ?_
          refine zwic_le (q := 35) (nx := 33) (by decide +kernel) (fun c10 => ?_) (fun c10 => ?_)
          · refine zwW_p [(1, 3, 2), (12, 0, 0)] (q := 37) (ls' := [(2, 1), (0, a), (0, b), (2, v2)]) (st' := [(2, v2), (2, v2)]) (by decide +kernel) rfl ?_
            refine zwX_gi C (kd := 11) (bn := 3) (n := 17) (nx := 40) (by decide +kernel) Gv2.2.1 Gv2.1 rfl ?_
            intro v11 ev11 lv11 uv11
            refine zwW_p [(1, 2, 0)] (q := 41) (ls' := [(2, 1), (0, a), (0, b), (2, v2)]) (st' := [(0, b), (0, v11), (2, v2)]) (by decide +kernel) rfl ?_
            refine zwW_adw (nx := 42) (by decide +kernel) ?_
            intro v12 ev12 lv12 uv12
            have Ev12 : v12 = w32 ((fld h v2 3) + b) := by rw [ev12, ev11]
            refine zwX_pi C (kd := 11) (bn := 3) (n := 17) (nx := 45) (by decide +kernel) Gv2.2.1 Gv2.1 ⟨by omega, by omega⟩ ?_
            rintro h13 eh13 Ch13 Qh13
            have Xh13 : zXR msx17 (0) (0) h h13 := X.tr (c2 := 0) (s2 := 0) Qh13 (by decide +kernel) (by decide) (by decide)
            have Gh13_0 : gV h13 v2 := Gv2.x Qh13
            have Yh13_11_3 : ∀ (rr : Int) (nn : Nat), 365 < rr → sh h rr = some (11, nn) → fld h13 rr 3 = (if rr = v2 then v12 else fld h rr 3) := by
              intro rr nn z1 z2
              by_cases zq : rr = v2
              · rw [if_pos zq, zq, eh13]; exact fld_wr_eq Gv2.2.1 (by decide)
              · rw [if_neg zq, eh13, fld_wr (Or.inl zq)]
            refine zwW_p [(1, 3, 2)] (q := 46) (ls' := [(2, 1), (0, a), (0, b), (2, v2)]) (st' := [(2, v2)]) (by decide +kernel) rfl ?_
            refine zwX_gi Ch13 (kd := 11) (bn := 3) (n := 17) (nx := 49) (by decide +kernel) Gh13_0.2.1 Gh13_0.1 rfl ?_
            intro v14 ev14 lv14 uv14
            have wv14 : v14 = v12 := by rw [ev14, eh13]; exact fld_wr_eq Gv2.2.1 (by decide)
            refine zwW_ret (nx := 50) (a := 0) (b := 0) (by decide +kernel) rfl (Or.inl rfl) ?_
            exact ⟨Ch13, Xh13.le (by decide) (by decide), by omega, by exact Or.inl ⟨by first | omega | (rw [← ev2]; omega), by first | omega | (rw [← ev2]; omega), by intro rr nn z1 z2; rw [← ev2]; first | exact Yh13_11_3 rr nn z1 z2 | (rw [Yh13_11_3 rr nn z1 z2]; split <;> first | omega | (split <;> omega))⟩⟩
          · refine zwW_p [(0, -1, 0)] (q := 34) (ls' := [(2, 1), (0, a), (0, b), (2, v2)]) (st' := [(0, -1)]) (by decide +kernel) rfl ?_
            refine zwW_ret (nx := 35) (a := 0) (b := 0) (by decide +kernel) rfl (Or.inl rfl) ?_
            exact ⟨C, X.le (by decide) (by decide), by omega, by exact Or.inr ⟨by omega, by rfl, by first | omega | (rw [← ev2]; omega)⟩⟩
def msx19 : Zms := [(1, 1, 0, 1), (1, 1, 1, 2), (4, 4, 0, 3), (17, 17, 0, 13), (18, 18, 0, 400), (34, 34, 2, 3), (35, 35, 0, 936), (36, 36, 0, 8), (1004, 1004, 6, 7), (1004, 1004, 8, 9), (1004, 1004, 9, 10), (1004, 1004, 10, 11), (1004, 1004, 14, 15), (1004, 1004, 15, 16), (1004, 1004, 18, 19), (1011, 1011, 3, 4), (1011, 1011, 4, 5), (1011, 1011, 5, 6), (1011, 1011, 6, 7), (1011, 1011, 7, 8), (1011, 1011, 9, 10), (1011, 1011, 10, 11), (1011, 1011, 13, 14), (1011, 1011, 14, 15), (1011, 1011, 15, 16), (1020, 1020, 0, 100000)]
-- WheelLand.go(I)I
theorem x19 {sc : List Int} (h : Hp) (C : CI h) (a : Int) (q_a : -2147483648 ≤ a ∧ a ≤ 2147483647) (hl : h.length ≤ 999910000) : zwC sc 9 19 [(2, 1), (0, a)] h (zwRt 0 (fun x g => CI g ∧ zXR msx19 (0) (0) h g ∧ (-2147483648 ≤ x ∧ x ≤ 2147483647) ∧ ((0 ≤ a ∧ a ≤ 26 ∧ x = min 156 (fld h 1 0 + a) ∧ fld g 1 0 = x) ∨ (x = -1 ∧ fld g 1 0 = fld h 1 0 ∧ (a < 0 ∨ 26 < a))))) := by
  refine zwC_of (D := 8) 3 (by decide +kernel) rfl (ls := [(2, 1), (0, a), (9, 0)]) rfl ?_
  have X : zXR msx19 0 0 h h := zXR.rf _ _
  refine zwW_p [(1, 1, 0), (0, 0, 0), (0, 26, 0)] (q := 4) (ls' := [(2, 1), (0, a), (9, 0)]) (st' := [(0, 26), (0, 0), (0, a)]) (by decide +kernel) rfl ?_
  refine zwW_cs (k' := 98) (n := 3) (nx := 7) (as := [(0, a), (0, 0), (0, 26)]) (st' := []) (by decide +kernel) rfl (x98 h C a 0 26 (by omega) (by omega) (by omega)) rfl ?_
  rintro x _ ⟨rfl, ⟨rfl, c1⟩ | ⟨rfl, c1⟩⟩
  · refine zwif_eq (q := 12) (nx := 10) (by decide +kernel) (fun c2 => ?_) (fun c2 => ?_)
    · exfalso; omega
    · refine zwW_p [(0, -1, 0)] (q := 11) (ls' := [(2, 1), (0, a), (9, 0)]) (st' := [(0, -1)]) (by decide +kernel) rfl ?_
      refine zwW_ret (nx := 12) (a := 0) (b := 0) (by decide +kernel) rfl (Or.inl rfl) ?_
      exact ⟨C, X.le (by decide) (by decide), by omega, by omega⟩
  · refine zwif_eq (q := 12) (nx := 10) (by decide +kernel) (fun c3 => ?_) (fun c3 => ?_)
    · refine zwW_p [(0, 0, 0), (2, 2, 0)] (q := 14) (ls' := [(2, 1), (0, a), (0, 0)]) (st' := []) (by decide +kernel) rfl ?_
      have L4 : ∀ (n : Nat) (v2L4 : Int) (hL4 : Hp), n = ((1000 - v2L4)).toNat → (v2L4 ≤ a) → (fld hL4 1 0 = fld h 1 0 + v2L4) → (0 ≤ v2L4 ∧ v2L4 ≤ 26) → CI hL4 → zXR msx19 (0) (0) h hL4 → zwW sc (8) 19 14 [(2, 1), (0, a), (0, v2L4)] [] hL4 (zwRt 0 (fun x g => CI g ∧ zXR msx19 (0) (0) h g ∧ (-2147483648 ≤ x ∧ x ≤ 2147483647) ∧ ((0 ≤ a ∧ a ≤ 26 ∧ x = min 156 (fld h 1 0 + a) ∧ fld g 1 0 = x) ∨ (x = -1 ∧ fld g 1 0 = fld h 1 0 ∧ (a < 0 ∨ 26 < a))))) := by
        intro n
        induction n using Nat.strongRecOn with
        | ind n IHL4 =>
          intro v2L4 hL4 hnL4 iL4_0 iL4_1 iL4_2 ChL4 XhL4
          refine zwW_p [(1, 2, 0), (1, 1, 0)] (q := 16) (ls' := [(2, 1), (0, a), (0, v2L4)]) (st' := [(0, a), (0, v2L4)]) (by decide +kernel) rfl ?_
          refine zwic_ge (q := 39) (nx := 19) (by decide +kernel) (fun c5 => ?_) (fun c5 => ?_)
          · refine zwW_p [(1, 0, 2)] (q := 40) (ls' := [(2, 1), (0, a), (0, v2L4)]) (st' := [(2, 1)]) (by decide +kernel) rfl ?_
            refine zwW_gs ChL4.1 (kd := 12) (bn := 0) (n := 13) (t := 0) (lo := 0) (hi := 156) (nx := 43) (by decide +kernel) ?_
            intro v6 ev6 lv6 uv6
            refine zwW_ret (nx := 44) (a := 0) (b := 0) (by decide +kernel) rfl (Or.inl rfl) ?_
            exact ⟨ChL4, XhL4.le (by decide) (by decide), by omega, by omega⟩
          · refine zwW_p [(1, 0, 2)] (q := 20) (ls' := [(2, 1), (0, a), (0, v2L4)]) (st' := [(2, 1)]) (by decide +kernel) rfl ?_
            refine zwW_gs ChL4.1 (kd := 12) (bn := 0) (n := 13) (t := 0) (lo := 0) (hi := 156) (nx := 23) (by decide +kernel) ?_
            intro v7 ev7 lv7 uv7
            refine zwW_p [(0, 156, 0)] (q := 26) (ls' := [(2, 1), (0, a), (0, v2L4)]) (st' := [(0, 156), (0, v7)]) (by decide +kernel) rfl ?_
            refine zwic_ge (q := 39) (nx := 29) (by decide +kernel) (fun c8 => ?_) (fun c8 => ?_)
            · refine zwW_p [(1, 0, 2)] (q := 40) (ls' := [(2, 1), (0, a), (0, v2L4)]) (st' := [(2, 1)]) (by decide +kernel) rfl ?_
              refine zwW_gs ChL4.1 (kd := 12) (bn := 0) (n := 13) (t := 0) (lo := 0) (hi := 156) (nx := 43) (by decide +kernel) ?_
              intro v9 ev9 lv9 uv9
              refine zwW_ret (nx := 44) (a := 0) (b := 0) (by decide +kernel) rfl (Or.inl rfl) ?_
              exact ⟨ChL4, XhL4.le (by decide) (by decide), by omega, by omega⟩
            · refine zwW_p [(1, 0, 2)] (q := 30) (ls' := [(2, 1), (0, a), (0, v2L4)]) (st' := [(2, 1)]) (by decide +kernel) rfl ?_
              refine zwW_cmv ChL4.1 (op := 60) (k' := 113) (n := 0) (kd := 12) (m := 13) (nx := 33) (r := 1) (tl := []) (st' := []) (by decide +kernel) rfl (by decide +kernel) rfl (x113 hL4 ChL4 (by omega) (by have := XhL4.hl C ChL4 (by decide) hl; omega)) ?_
              rintro h11 ⟨Ch11, Qh11, f10⟩
              have Xh11 : zXR msx19 (0) (0) h h11 := XhL4.tr (c2 := 0) (s2 := 0) Qh11 (by decide +kernel) (by decide) (by decide)
              refine zwW_inc (i := 2) (c := 1) (x := v2L4) (nx := 36) (by decide +kernel) rfl ⟨by omega, by omega⟩ (ls' := [(2, 1), (0, a), (0, (v2L4 + 1))]) rfl ?_
              refine zwW_p [(24, 14, 0)] (q := 14) (ls' := [(2, 1), (0, a), (0, (v2L4 + 1))]) (st' := []) (by decide +kernel) rfl ?_
              exact IHL4 ((1000 - (v2L4 + 1))).toNat (by omega) (v2L4 + 1) h11 rfl (by omega) (by omega) (by omega) Ch11 (Xh11.le (by decide) (by decide))
      exact L4 _ 0 h rfl (by omega) (by omega) (by omega) C (X.le (by decide) (by decide))
    · exfalso; omega
-- WheelLand.lot(II)I
theorem x21 {sc : List Int} (h : Hp) (C : CI h) (a b : Int) (q_a : -2147483648 ≤ a ∧ a ≤ 2147483647) (q_b : -2147483648 ≤ b ∧ b ≤ 2147483647) : zwC sc 6 21 [(2, 1), (0, a), (0, b)] h (zwRt 0 (fun x g => h = g ∧ (-2147483648 ≤ x ∧ x ≤ 2147483647))) := by
  refine zwC_of (D := 5) 4 (by decide +kernel) rfl (ls := [(2, 1), (0, a), (0, b), (9, 0)]) rfl ?_
  refine zwW_p [(1, 0, 2), (1, 1, 0)] (q := 2) (ls' := [(2, 1), (0, a), (0, b), (9, 0)]) (st' := [(0, a), (2, 1)]) (by decide +kernel) rfl ?_
  refine zwW_cm C.1 (op := 60) (k' := 115) (n := 1) (kd := 12) (m := 13) (nx := 5) (r := 1) (tl := [(0, a)]) (st' := []) (by decide +kernel) rfl (by decide +kernel) rfl (x115 h C a (by omega)) ?_
  rintro v2 _ ⟨rfl, ⟨rfl, c1⟩ | ⟨Gv2, c1⟩⟩
  · refine zwW_p [(2, 3, 2), (1, 3, 2)] (q := 7) (ls' := [(2, 1), (0, a), (0, b), (2, 0)]) (st' := [(2, 0)]) (by decide +kernel) rfl ?_
    refine zwnu_ne (q := 12) (nx := 10) (by decide +kernel) (by decide) (fun c3 => ?_) (fun c3 => ?_)
    · exfalso; omega
    · refine zwW_p [(0, -1, 0)] (q := 11) (ls' := [(2, 1), (0, a), (0, b), (2, 0)]) (st' := [(0, -1)]) (by decide +kernel) rfl ?_
      refine zwW_ret (nx := 12) (a := 0) (b := 0) (by decide +kernel) rfl (Or.inl rfl) ?_
      exact ⟨rfl, by omega⟩
  · have lv2 := Gv2.1
    have ev2 := c1.2.2
    refine zwW_p [(2, 3, 2), (1, 3, 2)] (q := 7) (ls' := [(2, 1), (0, a), (0, b), (2, v2)]) (st' := [(2, v2)]) (by decide +kernel) rfl ?_
    refine zwnu_ne (q := 12) (nx := 10) (by decide +kernel) (by omega) (fun c4 => ?_) (fun c4 => ?_)
    · refine zwW_p [(1, 2, 0)] (q := 13) (ls' := [(2, 1), (0, a), (0, b), (2, v2)]) (st' := [(0, b)]) (by decide +kernel) rfl ?_
      refine zwW_sw (d := 85) (os := [0, 52, 1, 60, 2, 65, 3, 70, 4, 75, 5, 80]) (by decide +kernel) ?_
      refine ⟨fun c5 => ?_, fun c5 => ?_⟩
      · show zwW _ _ _ 52 _ _ _ _
        refine zwW_p [(1, 3, 2)] (q := 53) (ls' := [(2, 1), (0, a), (0, b), (2, v2)]) (st' := [(2, v2)]) (by decide +kernel) rfl ?_
        refine zwW_get (kd := 6) (bn := 1) (t := 2) (n := 7) (nx := 56) (by decide +kernel) Gv2.2.1 rfl ?_
        obtain ⟨v6, ev6⟩ : ∃ z, z = fld h v2 1 := ⟨_, rfl⟩
        rw [← ev6]
        have Gv6 : gH h v6 := by rw [ev6]; exact Gv2.2.2
        have lv6 := Gv6.1
        refine zwX_gi C (kd := 4) (bn := 0) (n := 19) (nx := 59) (by decide +kernel) Gv6.2.1 Gv6.1 rfl ?_
        intro v7 ev7 lv7 uv7
        refine zwW_ret (nx := 60) (a := 0) (b := 0) (by decide +kernel) rfl (Or.inl rfl) ?_
        exact ⟨rfl, by omega⟩
      refine ⟨fun c8 => ?_, fun c8 => ?_⟩
      · show zwW _ _ _ 60 _ _ _ _
        refine zwW_p [(1, 3, 2)] (q := 61) (ls' := [(2, 1), (0, a), (0, b), (2, v2)]) (st' := [(2, v2)]) (by decide +kernel) rfl ?_
        refine zwX_gi C (kd := 6) (bn := 2) (n := 7) (nx := 64) (by decide +kernel) Gv2.2.1 Gv2.1 rfl ?_
        intro v9 ev9 lv9 uv9
        refine zwW_ret (nx := 65) (a := 0) (b := 0) (by decide +kernel) rfl (Or.inl rfl) ?_
        exact ⟨rfl, by omega⟩
      refine ⟨fun c10 => ?_, fun c10 => ?_⟩
      · show zwW _ _ _ 65 _ _ _ _
        refine zwW_p [(1, 3, 2)] (q := 66) (ls' := [(2, 1), (0, a), (0, b), (2, v2)]) (st' := [(2, v2)]) (by decide +kernel) rfl ?_
        refine zwX_gi C (kd := 6) (bn := 3) (n := 7) (nx := 69) (by decide +kernel) Gv2.2.1 Gv2.1 rfl ?_
        intro v11 ev11 lv11 uv11
        refine zwW_ret (nx := 70) (a := 0) (b := 0) (by decide +kernel) rfl (Or.inl rfl) ?_
        exact ⟨rfl, by omega⟩
      refine ⟨fun c12 => ?_, fun c12 => ?_⟩
      · show zwW _ _ _ 70 _ _ _ _
        refine zwW_p [(1, 3, 2)] (q := 71) (ls' := [(2, 1), (0, a), (0, b), (2, v2)]) (st' := [(2, v2)]) (by decide +kernel) rfl ?_
        refine zwX_gi C (kd := 6) (bn := 4) (n := 7) (nx := 74) (by decide +kernel) Gv2.2.1 Gv2.1 rfl ?_
        intro v13 ev13 lv13 uv13
        refine zwW_ret (nx := 75) (a := 0) (b := 0) (by decide +kernel) rfl (Or.inl rfl) ?_
        exact ⟨rfl, by omega⟩
      refine ⟨fun c14 => ?_, fun c14 => ?_⟩
      · show zwW _ _ _ 75 _ _ _ _
        refine zwW_p [(1, 3, 2)] (q := 76) (ls' := [(2, 1), (0, a), (0, b), (2, v2)]) (st' := [(2, v2)]) (by decide +kernel) rfl ?_
        refine zwX_gi C (kd := 6) (bn := 5) (n := 7) (nx := 79) (by decide +kernel) Gv2.2.1 Gv2.1 rfl ?_
        intro v15 ev15 lv15 uv15
        refine zwW_ret (nx := 80) (a := 0) (b := 0) (by decide +kernel) rfl (Or.inl rfl) ?_
        exact ⟨rfl, by omega⟩
      refine ⟨fun c16 => ?_, fun c16 => ?_⟩
      · show zwW _ _ _ 80 _ _ _ _
        refine zwW_p [(1, 3, 2)] (q := 81) (ls' := [(2, 1), (0, a), (0, b), (2, v2)]) (st' := [(2, v2)]) (by decide +kernel) rfl ?_
        refine zwX_gi C (kd := 6) (bn := 6) (n := 7) (nx := 84) (by decide +kernel) Gv2.2.1 Gv2.1 rfl ?_
        intro v17 ev17 lv17 uv17
        refine zwW_ret (nx := 85) (a := 0) (b := 0) (by decide +kernel) rfl (Or.inl rfl) ?_
        exact ⟨rfl, by omega⟩
      show zwW _ _ _ 85 _ _ _ _
      refine zwW_p [(0, -1, 0)] (q := 86) (ls' := [(2, 1), (0, a), (0, b), (2, v2)]) (st' := [(0, -1)]) (by decide +kernel) rfl ?_
      refine zwW_ret (nx := 87) (a := 0) (b := 0) (by decide +kernel) rfl (Or.inl rfl) ?_
      exact ⟨rfl, by omega⟩
    · exfalso; omega
def msx23 : Zms := [(9, 9, 0, 1), (10, 10, 0, 400)]
-- WheelLand.feed(IIIII)I
theorem x23 {sc : List Int} (h : Hp) (C : CI h) (a b c d e : Int) (q_a : -2147483648 ≤ a ∧ a ≤ 2147483647) (q_b : -2147483648 ≤ b ∧ b ≤ 2147483647) (q_c : -2147483648 ≤ c ∧ c ≤ 2147483647) (q_d : -2147483648 ≤ d ∧ d ≤ 2147483647) (q_e : -2147483648 ≤ e ∧ e ≤ 2147483647) : zwC sc 2 23 [(2, 1), (0, a), (0, b), (0, c), (0, d), (0, e)] h (zwRt 0 (fun x g => CI g ∧ zXR msx23 (0) (0) h g ∧ (-2147483648 ≤ x ∧ x ≤ 2147483647))) := by
  refine zwC_of (D := 1) 6 (by decide +kernel) rfl (ls := [(2, 1), (0, a), (0, b), (0, c), (0, d), (0, e)]) rfl ?_
  have X : zXR msx23 0 0 h h := zXR.rf _ _
  refine zwW_p [(1, 0, 2)] (q := 1) (ls' := [(2, 1), (0, a), (0, b), (0, c), (0, d), (0, e)]) (st' := [(2, 1)]) (by decide +kernel) rfl ?_
  refine zwW_gc C.1 (kd := 12) (bn := 7) (n := 13) (c := 9) (nx := 4) (by decide +kernel) ?_
  refine zwW_p [(0, 20, 0)] (q := 6) (ls' := [(2, 1), (0, a), (0, b), (0, c), (0, d), (0, e)]) (st' := [(0, 20), (2, 9)]) (by decide +kernel) rfl ?_
  refine zwW_cm C.1 (op := 60) (k' := 117) (n := 1) (kd := 7) (m := 9) (nx := 9) (r := 9) (tl := [(0, 20)]) (st' := []) (by decide +kernel) rfl (by decide +kernel) rfl (x117 h C 20 (by omega)) ?_
  rintro x _ ⟨rfl, ⟨rfl, c1⟩ | ⟨rfl, c1⟩⟩
  · refine zwif_ne (q := 14) (nx := 12) (by decide +kernel) (fun c2 => ?_) (fun c2 => ?_)
    · refine zwW_p [(1, 0, 2)] (q := 15) (ls' := [(2, 1), (0, a), (0, b), (0, c), (0, d), (0, e)]) (st' := [(2, 1)]) (by decide +kernel) rfl ?_
      refine zwW_gc C.1 (kd := 12) (bn := 7) (n := 13) (c := 9) (nx := 18) (by decide +kernel) ?_
      refine zwW_p [(1, 1, 0)] (q := 19) (ls' := [(2, 1), (0, a), (0, b), (0, c), (0, d), (0, e)]) (st' := [(0, a), (2, 9)]) (by decide +kernel) rfl ?_
      refine zwW_cmv C.1 (op := 60) (k' := 118) (n := 1) (kd := 7) (m := 9) (nx := 22) (r := 9) (tl := [(0, a)]) (st' := []) (by decide +kernel) rfl (by decide +kernel) rfl (x118 h C a (by omega)) ?_
      rintro h3 ⟨Ch3, Qh3⟩
      have Xh3 : zXR msx23 (0) (0) h h3 := X.tr (c2 := 0) (s2 := 0) Qh3 (by decide +kernel) (by decide) (by decide)
      refine zwW_p [(1, 0, 2)] (q := 23) (ls' := [(2, 1), (0, a), (0, b), (0, c), (0, d), (0, e)]) (st' := [(2, 1)]) (by decide +kernel) rfl ?_
      refine zwW_gc Ch3.1 (kd := 12) (bn := 7) (n := 13) (c := 9) (nx := 26) (by decide +kernel) ?_
      refine zwW_p [(1, 2, 0)] (q := 27) (ls' := [(2, 1), (0, a), (0, b), (0, c), (0, d), (0, e)]) (st' := [(0, b), (2, 9)]) (by decide +kernel) rfl ?_
      refine zwW_cmv Ch3.1 (op := 60) (k' := 118) (n := 1) (kd := 7) (m := 9) (nx := 30) (r := 9) (tl := [(0, b)]) (st' := []) (by decide +kernel) rfl (by decide +kernel) rfl (x118 h3 Ch3 b (by omega)) ?_
      rintro h4 ⟨Ch4, Qh4⟩
      have Xh4 : zXR msx23 (0) (0) h h4 := Xh3.tr (c2 := 0) (s2 := 0) Qh4 (by decide +kernel) (by decide) (by decide)
      refine zwW_p [(1, 0, 2)] (q := 31) (ls' := [(2, 1), (0, a), (0, b), (0, c), (0, d), (0, e)]) (st' := [(2, 1)]) (by decide +kernel) rfl ?_
      refine zwW_gc Ch4.1 (kd := 12) (bn := 7) (n := 13) (c := 9) (nx := 34) (by decide +kernel) ?_
      refine zwW_p [(1, 3, 0)] (q := 35) (ls' := [(2, 1), (0, a), (0, b), (0, c), (0, d), (0, e)]) (st' := [(0, c), (2, 9)]) (by decide +kernel) rfl ?_
      refine zwW_cmv Ch4.1 (op := 60) (k' := 118) (n := 1) (kd := 7) (m := 9) (nx := 38) (r := 9) (tl := [(0, c)]) (st' := []) (by decide +kernel) rfl (by decide +kernel) rfl (x118 h4 Ch4 c (by omega)) ?_
      rintro h5 ⟨Ch5, Qh5⟩
      have Xh5 : zXR msx23 (0) (0) h h5 := Xh4.tr (c2 := 0) (s2 := 0) Qh5 (by decide +kernel) (by decide) (by decide)
      refine zwW_p [(1, 0, 2)] (q := 39) (ls' := [(2, 1), (0, a), (0, b), (0, c), (0, d), (0, e)]) (st' := [(2, 1)]) (by decide +kernel) rfl ?_
      refine zwW_gc Ch5.1 (kd := 12) (bn := 7) (n := 13) (c := 9) (nx := 42) (by decide +kernel) ?_
      refine zwW_p [(1, 4, 0)] (q := 44) (ls' := [(2, 1), (0, a), (0, b), (0, c), (0, d), (0, e)]) (st' := [(0, d), (2, 9)]) (by decide +kernel) rfl ?_
      refine zwW_cmv Ch5.1 (op := 60) (k' := 118) (n := 1) (kd := 7) (m := 9) (nx := 47) (r := 9) (tl := [(0, d)]) (st' := []) (by decide +kernel) rfl (by decide +kernel) rfl (x118 h5 Ch5 d (by omega)) ?_
      rintro h6 ⟨Ch6, Qh6⟩
      have Xh6 : zXR msx23 (0) (0) h h6 := Xh5.tr (c2 := 0) (s2 := 0) Qh6 (by decide +kernel) (by decide) (by decide)
      refine zwW_p [(1, 0, 2)] (q := 48) (ls' := [(2, 1), (0, a), (0, b), (0, c), (0, d), (0, e)]) (st' := [(2, 1)]) (by decide +kernel) rfl ?_
      refine zwW_gc Ch6.1 (kd := 12) (bn := 7) (n := 13) (c := 9) (nx := 51) (by decide +kernel) ?_
      refine zwW_p [(1, 5, 0)] (q := 53) (ls' := [(2, 1), (0, a), (0, b), (0, c), (0, d), (0, e)]) (st' := [(0, e), (2, 9)]) (by decide +kernel) rfl ?_
      refine zwW_cmv Ch6.1 (op := 60) (k' := 118) (n := 1) (kd := 7) (m := 9) (nx := 56) (r := 9) (tl := [(0, e)]) (st' := []) (by decide +kernel) rfl (by decide +kernel) rfl (x118 h6 Ch6 e (by omega)) ?_
      rintro h7 ⟨Ch7, Qh7⟩
      have Xh7 : zXR msx23 (0) (0) h h7 := Xh6.tr (c2 := 0) (s2 := 0) Qh7 (by decide +kernel) (by decide) (by decide)
      refine zwW_p [(1, 0, 2)] (q := 57) (ls' := [(2, 1), (0, a), (0, b), (0, c), (0, d), (0, e)]) (st' := [(2, 1)]) (by decide +kernel) rfl ?_
      refine zwW_gc Ch7.1 (kd := 12) (bn := 7) (n := 13) (c := 9) (nx := 60) (by decide +kernel) ?_
      refine zwW_gs Ch7.1 (kd := 7) (bn := 0) (n := 9) (t := 0) (lo := 0) (hi := 400) (nx := 63) (by decide +kernel) ?_
      intro v8 ev8 lv8 uv8
      refine zwW_ret (nx := 64) (a := 0) (b := 0) (by decide +kernel) rfl (Or.inl rfl) ?_
      exact ⟨Ch7, Xh7.le (by decide) (by decide), by omega⟩
    · exfalso; omega
  · refine zwif_ne (q := 14) (nx := 12) (by decide +kernel) (fun c9 => ?_) (fun c9 => ?_)
    · exfalso; omega
    · refine zwW_p [(0, -1, 0)] (q := 13) (ls' := [(2, 1), (0, a), (0, b), (0, c), (0, d), (0, e)]) (st' := [(0, -1)]) (by decide +kernel) rfl ?_
      refine zwW_ret (nx := 14) (a := 0) (b := 0) (by decide +kernel) rfl (Or.inl rfl) ?_
      exact ⟨C, X.le (by decide) (by decide), by omega⟩
def msx25 : Zms := [(9, 9, 0, 1)]
-- WheelLand.end(I)Z
theorem x25 {sc : List Int} (h : Hp) (C : CI h) (a : Int) (q_a : -2147483648 ≤ a ∧ a ≤ 2147483647) : zwC sc 2 25 [(2, 1), (0, a)] h (zwRt 0 (fun x g => CI g ∧ zXR msx25 (0) (0) h g ∧ (0 ≤ x ∧ x ≤ 1))) := by
  refine zwC_of (D := 1) 2 (by decide +kernel) rfl (ls := [(2, 1), (0, a)]) rfl ?_
  have X : zXR msx25 0 0 h h := zXR.rf _ _
  refine zwW_p [(1, 1, 0), (0, 0, 0), (1, 0, 2)] (q := 3) (ls' := [(2, 1), (0, a)]) (st' := [(2, 1), (0, 0), (0, a)]) (by decide +kernel) rfl ?_
  refine zwW_gc C.1 (kd := 12) (bn := 7) (n := 13) (c := 9) (nx := 6) (by decide +kernel) ?_
  refine zwW_gs C.1 (kd := 7) (bn := 0) (n := 9) (t := 0) (lo := 0) (hi := 400) (nx := 9) (by decide +kernel) ?_
  intro v1 ev1 lv1 uv1
  refine zwW_cs (k' := 98) (n := 3) (nx := 12) (as := [(0, a), (0, 0), (0, v1)]) (st' := []) (by decide +kernel) rfl (x98 h C a 0 v1 (by omega) (by omega) (by omega)) rfl ?_
  rintro x _ ⟨rfl, ⟨rfl, c2⟩ | ⟨rfl, c2⟩⟩
  · refine zwif_eq (q := 17) (nx := 15) (by decide +kernel) (fun c3 => ?_) (fun c3 => ?_)
    · exfalso; omega
    · refine zwW_p [(0, 0, 0)] (q := 16) (ls' := [(2, 1), (0, a)]) (st' := [(0, 0)]) (by decide +kernel) rfl ?_
      refine zwW_ret (nx := 17) (a := 1) (b := 0) (by decide +kernel) rfl (Or.inr (Or.inl ⟨rfl, by omega⟩)) ?_
      exact ⟨C, X.le (by decide) (by decide), by omega⟩
  · refine zwif_eq (q := 17) (nx := 15) (by decide +kernel) (fun c4 => ?_) (fun c4 => ?_)
    · refine zwW_p [(1, 0, 2)] (q := 18) (ls' := [(2, 1), (0, a)]) (st' := [(2, 1)]) (by decide +kernel) rfl ?_
      refine zwW_gc C.1 (kd := 12) (bn := 7) (n := 13) (c := 9) (nx := 21) (by decide +kernel) ?_
      refine zwW_p [(1, 1, 0)] (q := 22) (ls' := [(2, 1), (0, a)]) (st' := [(0, a), (2, 9)]) (by decide +kernel) rfl ?_
      refine zwW_ps C.1 (kd := 7) (bn := 0) (n := 9) (lo := 0) (hi := 400) (nx := 25) (by decide +kernel) ⟨by omega, by omega⟩ ?_
      intro h5 eh5 Ih5
      have Ch5 : CI h5 := C.wc eh5 Ih5 (by decide) (by decide)
      have Qh5 : zXR [(9, 9, 0, 1)] 0 0 h h5 := zXR.wc eh5 rfl ⟨by decide, by decide, Or.inl (by decide)⟩ ⟨by decide, by decide⟩
      have Xh5 : zXR msx25 (0) (0) h h5 := X.tr (c2 := 0) (s2 := 0) Qh5 (by decide +kernel) (by decide) (by decide)
      refine zwW_p [(0, 1, 0)] (q := 26) (ls' := [(2, 1), (0, a)]) (st' := [(0, 1)]) (by decide +kernel) rfl ?_
      refine zwW_ret (nx := 27) (a := 1) (b := 0) (by decide +kernel) rfl (Or.inr (Or.inl ⟨rfl, by omega⟩)) ?_
      exact ⟨Ch5, Xh5.le (by decide) (by decide), by omega⟩
    · exfalso; omega
def msx27 : Zms := [(9, 9, 2, 7), (11, 11, 0, 400), (12, 12, 0, 5)]
-- WheelLand.fault()I
theorem x27 {sc : List Int} (h : Hp) (C : CI h) : zwC sc 233 27 [(2, 1)] h (zwRt 0 (fun x g => CI g ∧ zXR msx27 (0) (0) h g ∧ (-2147483648 ≤ x ∧ x ≤ 2147483647))) := by
  refine zwC_of (D := 232) 1 (by decide +kernel) rfl (ls := [(2, 1)]) rfl ?_
  have X : zXR msx27 0 0 h h := zXR.rf _ _
  refine zwW_p [(1, 0, 2)] (q := 1) (ls' := [(2, 1)]) (st' := [(2, 1)]) (by decide +kernel) rfl ?_
  refine zwW_gc C.1 (kd := 12) (bn := 7) (n := 13) (c := 9) (nx := 4) (by decide +kernel) ?_
  refine zwW_cm C.1 (op := 60) (k' := 120) (n := 0) (kd := 7) (m := 9) (nx := 7) (r := 9) (tl := []) (st' := []) (by decide +kernel) rfl (by decide +kernel) rfl (x120 h C) ?_
  rintro v2 h3 ⟨Ch3, Qh3, f1⟩
  have Xh3 : zXR msx27 (0) (0) h h3 := X.tr (c2 := 0) (s2 := 0) Qh3 (by decide +kernel) (by decide) (by decide)
  refine zwW_ret (nx := 8) (a := 0) (b := 0) (by decide +kernel) rfl (Or.inl rfl) ?_
  exact ⟨Ch3, Xh3.le (by decide) (by decide), by omega⟩
def msx29 : Zms := [(9, 9, 0, 1), (9, 9, 2, 7), (11, 11, 0, 400), (12, 12, 0, 5), (14, 14, 0, 3)]
-- WheelLand.sheet()I
theorem x29 {sc : List Int} (h : Hp) (C : CI h) (hl : h.length ≤ 997670000) : zwC sc 233 29 [(2, 1)] h (zwRt 0 (fun x g => CI g ∧ zXR msx29 (4) (1408) h g ∧ (-2147483648 ≤ x ∧ x ≤ 2147483647))) := by
  refine zwC_of (D := 232) 1 (by decide +kernel) rfl (ls := [(2, 1)]) rfl ?_
  have X : zXR msx29 0 0 h h := zXR.rf _ _
  refine zwW_p [(1, 0, 2)] (q := 1) (ls' := [(2, 1)]) (st' := [(2, 1)]) (by decide +kernel) rfl ?_
  refine zwW_gc C.1 (kd := 12) (bn := 8) (n := 13) (c := 13) (nx := 4) (by decide +kernel) ?_
  refine zwW_gc C.1 (kd := 9) (bn := 0) (n := 6) (c := 14) (nx := 7) (by decide +kernel) ?_
  refine zwW_cm C.1 (op := 60) (k' := 96) (n := 0) (kd := 0) (m := 3) (nx := 10) (r := 14) (tl := []) (st' := []) (by decide +kernel) rfl (by decide +kernel) rfl (x96_14 C) ?_
  rintro v1 _ ⟨rfl, ev1⟩
  have bv1 := zLb_14 C
  refine zwW_p [(0, 8, 0)] (q := 12) (ls' := [(2, 1)]) (st' := [(0, 8), (0, v1)]) (by decide +kernel) rfl ?_
  refine zwic_ge (q := 26) (nx := 15) (by decide +kernel) (fun c2 => ?_) (fun c2 => ?_)
  · refine zwW_p [(0, -1, 0)] (q := 27) (ls' := [(2, 1)]) (st' := [(0, -1)]) (by decide +kernel) rfl ?_
    refine zwW_ret (nx := 28) (a := 0) (b := 0) (by decide +kernel) rfl (Or.inl rfl) ?_
    exact ⟨C, X.le (by decide) (by decide), by omega⟩
  · refine zwW_p [(1, 0, 2)] (q := 16) (ls' := [(2, 1)]) (st' := [(2, 1)]) (by decide +kernel) rfl ?_
    refine zwW_gc C.1 (kd := 12) (bn := 7) (n := 13) (c := 9) (nx := 19) (by decide +kernel) ?_
    refine zwW_cm C.1 (op := 60) (k' := 120) (n := 0) (kd := 7) (m := 9) (nx := 22) (r := 9) (tl := []) (st' := []) (by decide +kernel) rfl (by decide +kernel) rfl (x120 h C) ?_
    rintro v4 h5 ⟨Ch5, Qh5, f3⟩
    have Xh5 : zXR msx29 (0) (0) h h5 := X.tr (c2 := 0) (s2 := 0) Qh5 (by decide +kernel) (by decide) (by decide)
    have th5_14_2 : fld h5 14 2 = fld h 14 2 := Qh5.f (a1 := 14) (a2 := 14) (j1 := 2) (j2 := 3) (by decide +kernel) ⟨by decide, by decide⟩ ⟨by decide, by decide⟩ ⟨by decide, by decide⟩
    refine zwW_p [(0, -1, 0)] (q := 23) (ls' := [(2, 1)]) (st' := [(0, -1), (0, v4)]) (by decide +kernel) rfl ?_
    refine zwic_eq (q := 28) (nx := 26) (by decide +kernel) (fun c6 => ?_) (fun c6 => ?_)
    · refine zwW_p [(1, 0, 2)] (q := 29) (ls' := [(2, 1)]) (st' := [(2, 1)]) (by decide +kernel) rfl ?_
      refine zwW_gc Ch5.1 (kd := 12) (bn := 8) (n := 13) (c := 13) (nx := 32) (by decide +kernel) ?_
      refine zwW_gc Ch5.1 (kd := 9) (bn := 0) (n := 6) (c := 14) (nx := 35) (by decide +kernel) ?_
      refine zwW_p [(1, 0, 2)] (q := 36) (ls' := [(2, 1)]) (st' := [(2, 1), (2, 14)]) (by decide +kernel) rfl ?_
      refine zwW_gc Ch5.1 (kd := 12) (bn := 7) (n := 13) (c := 9) (nx := 39) (by decide +kernel) ?_
      refine zwW_p [(1, 0, 2)] (q := 40) (ls' := [(2, 1)]) (st' := [(2, 1), (2, 9), (2, 14)]) (by decide +kernel) rfl ?_
      refine zwW_gc Ch5.1 (kd := 12) (bn := 8) (n := 13) (c := 13) (nx := 43) (by decide +kernel) ?_
      refine zwW_gc Ch5.1 (kd := 9) (bn := 0) (n := 6) (c := 14) (nx := 46) (by decide +kernel) ?_
      refine zwW_cm Ch5.1 (op := 60) (k' := 96) (n := 0) (kd := 0) (m := 3) (nx := 49) (r := 14) (tl := []) (st' := [(2, 9), (2, 14)]) (by decide +kernel) rfl (by decide +kernel) rfl (x96_14 Ch5) ?_
      rintro v7 _ ⟨rfl, ev7⟩
      have bv7 := zLb_14 Ch5
      refine zwW_cm Ch5.1 (op := 60) (k' := 122) (n := 1) (kd := 7) (m := 9) (nx := 52) (r := 9) (tl := [(0, v7)]) (st' := [(2, 14)]) (by decide +kernel) rfl (by decide +kernel) rfl (x122 h5 Ch5 v7 (by omega)) ?_
      rintro v9 h10 ⟨Ch10, Qh10, f8⟩
      have Xh10 : zXR msx29 (3) (408) h h10 := Xh5.tr (c2 := 3) (s2 := 408) Qh10 (by decide +kernel) (by decide) (by decide)
      have th10_14_2 : fld h10 14 2 = fld h5 14 2 := Qh10.f (a1 := 14) (a2 := 14) (j1 := 2) (j2 := 3) (by decide +kernel) ⟨by decide, by decide⟩ ⟨by decide, by decide⟩ ⟨by decide, by decide⟩
      have lv9 := f8.1
      refine zwW_cm Ch10.1 (op := 60) (k' := 100) (n := 1) (kd := 0) (m := 3) (nx := 55) (r := 14) (tl := [(2, v9)]) (st' := []) (by decide +kernel) rfl (by decide +kernel) rfl (x100_14 Ch10 f8 (by omega) (by have := Xh10.hl C Ch10 (by decide) hl; omega)) ?_
      rintro x h12 ⟨rfl, Ah12⟩
      have Ch12 := Ah12.1
      have Qh12 : zXR [(14, 14, 0, 3)] (1) (1000) h10 h12 := Ah12.2.1
      have zh12 : fld h12 14 2 = fld h10 14 2 + 1 := Ah12.2.2.1
      have Xh12 : zXR msx29 (4) (1408) h h12 := Xh10.tr (c2 := 4) (s2 := 1408) Qh12 (by decide +kernel) (by decide) (by decide)
      refine zwW_p [(15, 0, 0), (1, 0, 2)] (q := 57) (ls' := [(2, 1)]) (st' := [(2, 1)]) (by decide +kernel) rfl ?_
      refine zwW_gc Ch12.1 (kd := 12) (bn := 7) (n := 13) (c := 9) (nx := 60) (by decide +kernel) ?_
      refine zwW_p [(0, 0, 0)] (q := 61) (ls' := [(2, 1)]) (st' := [(0, 0), (2, 9)]) (by decide +kernel) rfl ?_
      refine zwW_ps Ch12.1 (kd := 7) (bn := 0) (n := 9) (lo := 0) (hi := 400) (nx := 64) (by decide +kernel) ⟨by decide, by decide⟩ ?_
      intro h13 eh13 Ih13
      have Ch13 : CI h13 := Ch12.wc eh13 Ih13 (by decide) (by decide)
      have Qh13 : zXR [(9, 9, 0, 1)] 0 0 h12 h13 := zXR.wc eh13 rfl ⟨by decide, by decide, Or.inl (by decide)⟩ ⟨by decide, by decide⟩
      have Xh13 : zXR msx29 (4) (1408) h h13 := Xh12.tr (c2 := 4) (s2 := 1408) Qh13 (by decide +kernel) (by decide) (by decide)
      have th13_14_2 : fld h13 14 2 = fld h12 14 2 := Qh13.f (a1 := 14) (a2 := 14) (j1 := 2) (j2 := 3) (by decide +kernel) ⟨by decide, by decide⟩ ⟨by decide, by decide⟩ ⟨by decide, by decide⟩
      refine zwW_p [(1, 0, 2)] (q := 65) (ls' := [(2, 1)]) (st' := [(2, 1)]) (by decide +kernel) rfl ?_
      refine zwW_gc Ch13.1 (kd := 12) (bn := 8) (n := 13) (c := 13) (nx := 68) (by decide +kernel) ?_
      refine zwW_gc Ch13.1 (kd := 9) (bn := 0) (n := 6) (c := 14) (nx := 71) (by decide +kernel) ?_
      refine zwW_cm Ch13.1 (op := 60) (k' := 96) (n := 0) (kd := 0) (m := 3) (nx := 74) (r := 14) (tl := []) (st' := []) (by decide +kernel) rfl (by decide +kernel) rfl (x96_14 Ch13) ?_
      rintro v14 _ ⟨rfl, ev14⟩
      have bv14 := zLb_14 Ch13
      refine zwW_p [(0, 1, 0)] (q := 75) (ls' := [(2, 1)]) (st' := [(0, 1), (0, v14)]) (by decide +kernel) rfl ?_
      refine zwW_sub (nx := 76) (by decide +kernel) ⟨by omega, by omega⟩ ?_
      refine zwW_ret (nx := 77) (a := 0) (b := 0) (by decide +kernel) rfl (Or.inl rfl) ?_
      exact ⟨Ch13, Xh13.le (by decide) (by decide), by omega⟩
    · refine zwW_p [(0, -1, 0)] (q := 27) (ls' := [(2, 1)]) (st' := [(0, -1)]) (by decide +kernel) rfl ?_
      refine zwW_ret (nx := 28) (a := 0) (b := 0) (by decide +kernel) rfl (Or.inl rfl) ?_
      exact ⟨Ch5, Xh5.le (by decide) (by decide), by omega⟩
def msx31 : Zms := [(13, 13, 1, 2), (15, 15, 0, 12), (16, 16, 0, 12)]
-- WheelLand.force(II)I
theorem x31 {sc : List Int} (h : Hp) (C : CI h) (a b : Int) (q_a : -2147483648 ≤ a ∧ a ≤ 2147483647) (q_b : -2147483648 ≤ b ∧ b ≤ 2147483647) (hl : h.length ≤ 999950000) : zwC sc 5 31 [(2, 1), (0, a), (0, b)] h (zwRt 0 (fun x g => CI g ∧ zXR msx31 (0) (0) h g ∧ (-2147483648 ≤ x ∧ x ≤ 2147483647))) := by
  refine zwC_of (D := 4) 3 (by decide +kernel) rfl (ls := [(2, 1), (0, a), (0, b)]) rfl ?_
  have X : zXR msx31 0 0 h h := zXR.rf _ _
  refine zwW_p [(1, 1, 0)] (q := 1) (ls' := [(2, 1), (0, a), (0, b)]) (st' := [(0, a)]) (by decide +kernel) rfl ?_
  refine zwif_lt (q := 44) (nx := 4) (by decide +kernel) (fun c1 => ?_) (fun c1 => ?_)
  · refine zwW_p [(0, -1, 0)] (q := 45) (ls' := [(2, 1), (0, a), (0, b)]) (st' := [(0, -1)]) (by decide +kernel) rfl ?_
    refine zwW_ret (nx := 46) (a := 0) (b := 0) (by decide +kernel) rfl (Or.inl rfl) ?_
    exact ⟨C, X.le (by decide) (by decide), by omega⟩
  · refine zwW_p [(1, 1, 0), (1, 0, 2)] (q := 6) (ls' := [(2, 1), (0, a), (0, b)]) (st' := [(2, 1), (0, a)]) (by decide +kernel) rfl ?_
    refine zwW_gc C.1 (kd := 12) (bn := 8) (n := 13) (c := 13) (nx := 9) (by decide +kernel) ?_
    refine zwW_gc C.1 (kd := 9) (bn := 0) (n := 6) (c := 14) (nx := 12) (by decide +kernel) ?_
    refine zwW_cm C.1 (op := 60) (k' := 96) (n := 0) (kd := 0) (m := 3) (nx := 15) (r := 14) (tl := []) (st' := [(0, a)]) (by decide +kernel) rfl (by decide +kernel) rfl (x96_14 C) ?_
    rintro v2 _ ⟨rfl, ev2⟩
    have bv2 := zLb_14 C
    refine zwic_ge (q := 44) (nx := 18) (by decide +kernel) (fun c3 => ?_) (fun c3 => ?_)
    · refine zwW_p [(0, -1, 0)] (q := 45) (ls' := [(2, 1), (0, a), (0, b)]) (st' := [(0, -1)]) (by decide +kernel) rfl ?_
      refine zwW_ret (nx := 46) (a := 0) (b := 0) (by decide +kernel) rfl (Or.inl rfl) ?_
      exact ⟨C, X.le (by decide) (by decide), by omega⟩
    · refine zwW_p [(1, 2, 0), (1, 0, 2)] (q := 20) (ls' := [(2, 1), (0, a), (0, b)]) (st' := [(2, 1), (0, b)]) (by decide +kernel) rfl ?_
      refine zwW_gs C.1 (kd := 12) (bn := 0) (n := 13) (t := 0) (lo := 0) (hi := 156) (nx := 23) (by decide +kernel) ?_
      intro v4 ev4 lv4 uv4
      refine zwW_p [(0, 155, 0)] (q := 26) (ls' := [(2, 1), (0, a), (0, b)]) (st' := [(0, 155), (0, v4), (0, b)]) (by decide +kernel) rfl ?_
      refine zwW_cs (k' := 98) (n := 3) (nx := 29) (as := [(0, b), (0, v4), (0, 155)]) (st' := []) (by decide +kernel) rfl (x98 h C b v4 155 (by omega) (by omega) (by omega)) rfl ?_
      rintro x _ ⟨rfl, ⟨rfl, c5⟩ | ⟨rfl, c5⟩⟩
      · refine zwif_ne (q := 44) (nx := 32) (by decide +kernel) (fun c6 => ?_) (fun c6 => ?_)
        · refine zwW_p [(0, -1, 0)] (q := 45) (ls' := [(2, 1), (0, a), (0, b)]) (st' := [(0, -1)]) (by decide +kernel) rfl ?_
          refine zwW_ret (nx := 46) (a := 0) (b := 0) (by decide +kernel) rfl (Or.inl rfl) ?_
          exact ⟨C, X.le (by decide) (by decide), by omega⟩
        · exfalso; omega
      · refine zwif_ne (q := 44) (nx := 32) (by decide +kernel) (fun c7 => ?_) (fun c7 => ?_)
        · exfalso; omega
        · refine zwW_p [(1, 0, 2)] (q := 33) (ls' := [(2, 1), (0, a), (0, b)]) (st' := [(2, 1)]) (by decide +kernel) rfl ?_
          refine zwW_gc C.1 (kd := 12) (bn := 8) (n := 13) (c := 13) (nx := 36) (by decide +kernel) ?_
          refine zwW_gs C.1 (kd := 9) (bn := 1) (n := 6) (t := 0) (lo := 0) (hi := 12) (nx := 39) (by decide +kernel) ?_
          intro v8 ev8 lv8 uv8
          refine zwW_p [(0, 12, 0)] (q := 41) (ls' := [(2, 1), (0, a), (0, b)]) (st' := [(0, 12), (0, v8)]) (by decide +kernel) rfl ?_
          refine zwic_lt (q := 46) (nx := 44) (by decide +kernel) (fun c9 => ?_) (fun c9 => ?_)
          · refine zwW_p [(1, 0, 2)] (q := 47) (ls' := [(2, 1), (0, a), (0, b)]) (st' := [(2, 1)]) (by decide +kernel) rfl ?_
            refine zwW_gc C.1 (kd := 12) (bn := 8) (n := 13) (c := 13) (nx := 50) (by decide +kernel) ?_
            refine zwW_p [(1, 0, 2)] (q := 51) (ls' := [(2, 1), (0, a), (0, b)]) (st' := [(2, 1), (2, 13)]) (by decide +kernel) rfl ?_
            refine zwW_gc C.1 (kd := 12) (bn := 8) (n := 13) (c := 13) (nx := 54) (by decide +kernel) ?_
            refine zwW_gc C.1 (kd := 9) (bn := 0) (n := 6) (c := 14) (nx := 57) (by decide +kernel) ?_
            refine zwW_p [(1, 1, 0)] (q := 58) (ls' := [(2, 1), (0, a), (0, b)]) (st' := [(0, a), (2, 14), (2, 13)]) (by decide +kernel) rfl ?_
            refine zwW_cm C.1 (op := 60) (k' := 123) (n := 1) (kd := 0) (m := 3) (nx := 61) (r := 14) (tl := [(0, a)]) (st' := [(2, 13)]) (by decide +kernel) rfl (by decide +kernel) rfl (x123_14 C (i := a) ⟨by omega, by omega⟩) ?_
            rintro v10 _ ⟨rfl, Gv10, ev10⟩
            have lv10 := Gv10.1
            refine zwW_cast (a := 10) (kd := 10) (n := 3) (nx := 64) (by decide +kernel) rfl (Or.inr Gv10.2.1) ?_
            refine zwW_p [(1, 2, 0)] (q := 65) (ls' := [(2, 1), (0, a), (0, b)]) (st' := [(0, b), (2, v10), (2, 13)]) (by decide +kernel) rfl ?_
            refine zwW_cmv C.1 (op := 60) (k' := 124) (n := 2) (kd := 9) (m := 6) (nx := 68) (r := 13) (tl := [(2, v10), (0, b)]) (st' := []) (by decide +kernel) rfl (by decide +kernel) rfl (x124 h C v10 b Gv10 (by omega) (by omega)) ?_
            rintro h11 ⟨Ch11, Qh11⟩
            have Xh11 : zXR msx31 (0) (0) h h11 := X.tr (c2 := 0) (s2 := 0) Qh11 (by decide +kernel) (by decide) (by decide)
            refine zwW_p [(1, 0, 2)] (q := 69) (ls' := [(2, 1), (0, a), (0, b)]) (st' := [(2, 1)]) (by decide +kernel) rfl ?_
            refine zwW_gc Ch11.1 (kd := 12) (bn := 8) (n := 13) (c := 13) (nx := 72) (by decide +kernel) ?_
            refine zwW_gs Ch11.1 (kd := 9) (bn := 1) (n := 6) (t := 0) (lo := 0) (hi := 12) (nx := 75) (by decide +kernel) ?_
            intro v12 ev12 lv12 uv12
            refine zwW_ret (nx := 76) (a := 0) (b := 0) (by decide +kernel) rfl (Or.inl rfl) ?_
            exact ⟨Ch11, Xh11.le (by decide) (by decide), by omega⟩
          · refine zwW_p [(0, -1, 0)] (q := 45) (ls' := [(2, 1), (0, a), (0, b)]) (st' := [(0, -1)]) (by decide +kernel) rfl ?_
            refine zwW_ret (nx := 46) (a := 0) (b := 0) (by decide +kernel) rfl (Or.inl rfl) ?_
            exact ⟨C, X.le (by decide) (by decide), by omega⟩
-- WheelLand.why(II)I
theorem x33 {sc : List Int} (h : Hp) (C : CI h) (a b : Int) (q_a : -2147483648 ≤ a ∧ a ≤ 2147483647) (q_b : -2147483648 ≤ b ∧ b ≤ 2147483647) : zwC sc 3 33 [(2, 1), (0, a), (0, b)] h (zwRt 0 (fun x g => h = g ∧ (-2147483648 ≤ x ∧ x ≤ 2147483647))) := by
  refine zwC_of (D := 2) 4 (by decide +kernel) rfl (ls := [(2, 1), (0, a), (0, b), (9, 0)]) rfl ?_
  refine zwW_p [(1, 1, 0), (0, 0, 0), (0, 4, 0)] (q := 3) (ls' := [(2, 1), (0, a), (0, b), (9, 0)]) (st' := [(0, 4), (0, 0), (0, a)]) (by decide +kernel) rfl ?_
  refine zwW_cs (k' := 98) (n := 3) (nx := 6) (as := [(0, a), (0, 0), (0, 4)]) (st' := []) (by decide +kernel) rfl (x98 h C a 0 4 (by omega) (by omega) (by omega)) rfl ?_
  rintro x _ ⟨rfl, ⟨rfl, c1⟩ | ⟨rfl, c1⟩⟩
  · refine zwif_ne (q := 20) (nx := 9) (by decide +kernel) (fun c2 => ?_) (fun c2 => ?_)
    · refine zwW_p [(0, -1, 0)] (q := 21) (ls' := [(2, 1), (0, a), (0, b), (9, 0)]) (st' := [(0, -1)]) (by decide +kernel) rfl ?_
      refine zwW_ret (nx := 22) (a := 0) (b := 0) (by decide +kernel) rfl (Or.inl rfl) ?_
      exact ⟨rfl, by omega⟩
    · exfalso; omega
  · refine zwif_ne (q := 20) (nx := 9) (by decide +kernel) (fun c3 => ?_) (fun c3 => ?_)
    · exfalso; omega
    · refine zwW_p [(1, 2, 0), (0, 0, 0), (0, 155, 0)] (q := 14) (ls' := [(2, 1), (0, a), (0, b), (9, 0)]) (st' := [(0, 155), (0, 0), (0, b)]) (by decide +kernel) rfl ?_
      refine zwW_cs (k' := 98) (n := 3) (nx := 17) (as := [(0, b), (0, 0), (0, 155)]) (st' := []) (by decide +kernel) rfl (x98 h C b 0 155 (by omega) (by omega) (by omega)) rfl ?_
      rintro x _ ⟨rfl, ⟨rfl, c4⟩ | ⟨rfl, c4⟩⟩
      · refine zwif_eq (q := 22) (nx := 20) (by decide +kernel) (fun c5 => ?_) (fun c5 => ?_)
        · exfalso; omega
        · refine zwW_p [(0, -1, 0)] (q := 21) (ls' := [(2, 1), (0, a), (0, b), (9, 0)]) (st' := [(0, -1)]) (by decide +kernel) rfl ?_
          refine zwW_ret (nx := 22) (a := 0) (b := 0) (by decide +kernel) rfl (Or.inl rfl) ?_
          exact ⟨rfl, by omega⟩
      · refine zwif_eq (q := 22) (nx := 20) (by decide +kernel) (fun c6 => ?_) (fun c6 => ?_)
        · refine zwW_p [(1, 0, 2)] (q := 23) (ls' := [(2, 1), (0, a), (0, b), (9, 0)]) (st' := [(2, 1)]) (by decide +kernel) rfl ?_
          refine zwW_gc C.1 (kd := 12) (bn := 8) (n := 13) (c := 13) (nx := 26) (by decide +kernel) ?_
          refine zwW_p [(1, 1, 0), (1, 2, 0)] (q := 28) (ls' := [(2, 1), (0, a), (0, b), (9, 0)]) (st' := [(0, b), (0, a), (2, 13)]) (by decide +kernel) rfl ?_
          refine zwW_cm C.1 (op := 60) (k' := 125) (n := 2) (kd := 9) (m := 6) (nx := 31) (r := 13) (tl := [(0, a), (0, b)]) (st' := []) (by decide +kernel) rfl (by decide +kernel) rfl (x125 h C a b (by omega) (by omega)) ?_
          rintro v8 _ ⟨rfl, rfl | Gv8⟩
          · refine zwW_p [(2, 3, 2), (1, 3, 2)] (q := 33) (ls' := [(2, 1), (0, a), (0, b), (2, 0)]) (st' := [(2, 0)]) (by decide +kernel) rfl ?_
            refine zwnu_ne (q := 40) (nx := 36) (by decide +kernel) (by decide) (fun c9 => ?_) (fun c9 => ?_)
            · exfalso; omega
            · refine zwW_p [(0, -1, 0), (24, 44, 0)] (q := 44) (ls' := [(2, 1), (0, a), (0, b), (2, 0)]) (st' := [(0, -1)]) (by decide +kernel) rfl ?_
              refine zwW_ret (nx := 45) (a := 0) (b := 0) (by decide +kernel) rfl (Or.inl rfl) ?_
              exact ⟨rfl, by omega⟩
          · have lv8 := Gv8.1
            refine zwW_p [(2, 3, 2), (1, 3, 2)] (q := 33) (ls' := [(2, 1), (0, a), (0, b), (2, v8)]) (st' := [(2, v8)]) (by decide +kernel) rfl ?_
            refine zwnu_ne (q := 40) (nx := 36) (by decide +kernel) (by omega) (fun c10 => ?_) (fun c10 => ?_)
            · refine zwW_p [(1, 3, 2)] (q := 41) (ls' := [(2, 1), (0, a), (0, b), (2, v8)]) (st' := [(2, v8)]) (by decide +kernel) rfl ?_
              refine zwX_gi C (kd := 10) (bn := 0) (n := 3) (nx := 44) (by decide +kernel) Gv8.2.1 Gv8.1 rfl ?_
              intro v11 ev11 lv11 uv11
              refine zwW_ret (nx := 45) (a := 0) (b := 0) (by decide +kernel) rfl (Or.inl rfl) ?_
              exact ⟨rfl, by omega⟩
            · exfalso; omega
        · exfalso; omega
def msx35 : Zms := [(34, 34, 0, 1), (1004, 1004, 16, 17), (1004, 1004, 17, 18), (1006, 1006, 6, 7)]
-- WheelLand.pay(III)I
theorem x35 {sc : List Int} (h : Hp) (C : CI h) (a b c : Int) (q_a : -2147483648 ≤ a ∧ a ≤ 2147483647) (q_b : -2147483648 ≤ b ∧ b ≤ 2147483647) (q_c : -2147483648 ≤ c ∧ c ≤ 2147483647) : zwC sc 6 35 [(2, 1), (0, a), (0, b), (0, c)] h (zwRt 0 (fun x g => CI g ∧ zXR msx35 (0) (0) h g ∧ (-2147483648 ≤ x ∧ x ≤ 2147483647))) := by
  refine zwC_of (D := 5) 6 (by decide +kernel) rfl (ls := [(2, 1), (0, a), (0, b), (0, c), (9, 0), (9, 0)]) rfl ?_
  have X : zXR msx35 0 0 h h := zXR.rf _ _
  refine zwW_p [(1, 0, 2), (1, 1, 0)] (q := 2) (ls' := [(2, 1), (0, a), (0, b), (0, c), (9, 0), (9, 0)]) (st' := [(0, a), (2, 1)]) (by decide +kernel) rfl ?_
  refine zwW_cm C.1 (op := 60) (k' := 109) (n := 1) (kd := 12) (m := 13) (nx := 5) (r := 1) (tl := [(0, a)]) (st' := []) (by decide +kernel) rfl (by decide +kernel) rfl (x109 h C a (by omega)) ?_
  rintro v2 _ ⟨rfl, ⟨rfl, c1⟩ | ⟨Gv2, c1⟩⟩
  · refine zwW_p [(2, 4, 2), (1, 0, 2), (1, 2, 0)] (q := 9) (ls' := [(2, 1), (0, a), (0, b), (0, c), (2, 0), (9, 0)]) (st' := [(0, b), (2, 1)]) (by decide +kernel) rfl ?_
    refine zwW_cm C.1 (op := 60) (k' := 115) (n := 1) (kd := 12) (m := 13) (nx := 12) (r := 1) (tl := [(0, b)]) (st' := []) (by decide +kernel) rfl (by decide +kernel) rfl (x115 h C b (by omega)) ?_
    rintro v4 _ ⟨rfl, ⟨rfl, c3⟩ | ⟨Gv4, c3⟩⟩
    · refine zwW_p [(2, 5, 2), (1, 4, 2)] (q := 16) (ls' := [(2, 1), (0, a), (0, b), (0, c), (2, 0), (2, 0)]) (st' := [(2, 0)]) (by decide +kernel) rfl ?_
      refine zwnu_eq (q := 37) (nx := 19) (by decide +kernel) (by decide) (fun c5 => ?_) (fun c5 => ?_)
      · refine zwW_p [(0, -2147483648, 0)] (q := 39) (ls' := [(2, 1), (0, a), (0, b), (0, c), (2, 0), (2, 0)]) (st' := [(0, -2147483648)]) (by decide +kernel) rfl ?_
        refine zwW_ret (nx := 40) (a := 0) (b := 0) (by decide +kernel) rfl (Or.inl rfl) ?_
        exact ⟨C, X.le (by decide) (by decide), by omega⟩
      · exfalso; omega
    · have lv4 := Gv4.1
      have ev4 := c3.2.2
      refine zwW_p [(2, 5, 2), (1, 4, 2)] (q := 16) (ls' := [(2, 1), (0, a), (0, b), (0, c), (2, 0), (2, v4)]) (st' := [(2, 0)]) (by decide +kernel) rfl ?_
      refine zwnu_eq (q := 37) (nx := 19) (by decide +kernel) (by decide) (fun c6 => ?_) (fun c6 => ?_)
      · refine zwW_p [(0, -2147483648, 0)] (q := 39) (ls' := [(2, 1), (0, a), (0, b), (0, c), (2, 0), (2, v4)]) (st' := [(0, -2147483648)]) (by decide +kernel) rfl ?_
        refine zwW_ret (nx := 40) (a := 0) (b := 0) (by decide +kernel) rfl (Or.inl rfl) ?_
        exact ⟨C, X.le (by decide) (by decide), by omega⟩
      · exfalso; omega
  · have lv2 := Gv2.1
    have ev2 := c1.2.2
    refine zwW_p [(2, 4, 2), (1, 0, 2), (1, 2, 0)] (q := 9) (ls' := [(2, 1), (0, a), (0, b), (0, c), (2, v2), (9, 0)]) (st' := [(0, b), (2, 1)]) (by decide +kernel) rfl ?_
    refine zwW_cm C.1 (op := 60) (k' := 115) (n := 1) (kd := 12) (m := 13) (nx := 12) (r := 1) (tl := [(0, b)]) (st' := []) (by decide +kernel) rfl (by decide +kernel) rfl (x115 h C b (by omega)) ?_
    rintro v8 _ ⟨rfl, ⟨rfl, c7⟩ | ⟨Gv8, c7⟩⟩
    · refine zwW_p [(2, 5, 2), (1, 4, 2)] (q := 16) (ls' := [(2, 1), (0, a), (0, b), (0, c), (2, v2), (2, 0)]) (st' := [(2, v2)]) (by decide +kernel) rfl ?_
      refine zwnu_eq (q := 37) (nx := 19) (by decide +kernel) (by omega) (fun c9 => ?_) (fun c9 => ?_)
      · exfalso; omega
      · refine zwW_p [(1, 5, 2)] (q := 21) (ls' := [(2, 1), (0, a), (0, b), (0, c), (2, v2), (2, 0)]) (st' := [(2, 0)]) (by decide +kernel) rfl ?_
        refine zwnu_eq (q := 37) (nx := 24) (by decide +kernel) (by decide) (fun c10 => ?_) (fun c10 => ?_)
        · refine zwW_p [(0, -2147483648, 0)] (q := 39) (ls' := [(2, 1), (0, a), (0, b), (0, c), (2, v2), (2, 0)]) (st' := [(0, -2147483648)]) (by decide +kernel) rfl ?_
          refine zwW_ret (nx := 40) (a := 0) (b := 0) (by decide +kernel) rfl (Or.inl rfl) ?_
          exact ⟨C, X.le (by decide) (by decide), by omega⟩
        · exfalso; omega
    · have lv8 := Gv8.1
      have ev8 := c7.2.2
      refine zwW_p [(2, 5, 2), (1, 4, 2)] (q := 16) (ls' := [(2, 1), (0, a), (0, b), (0, c), (2, v2), (2, v8)]) (st' := [(2, v2)]) (by decide +kernel) rfl ?_
      refine zwnu_eq (q := 37) (nx := 19) (by decide +kernel) (by omega) (fun c11 => ?_) (fun c11 => ?_)
      · exfalso; omega
      · refine zwW_p [(1, 5, 2)] (q := 21) (ls' := [(2, 1), (0, a), (0, b), (0, c), (2, v2), (2, v8)]) (st' := [(2, v8)]) (by decide +kernel) rfl ?_
        refine zwnu_eq (q := 37) (nx := 24) (by decide +kernel) (by omega) (fun c12 => ?_) (fun c12 => ?_)
        · exfalso; omega
        · refine zwW_p [(1, 3, 0), (0, 1, 0), (1, 5, 2)] (q := 28) (ls' := [(2, 1), (0, a), (0, b), (0, c), (2, v2), (2, v8)]) (st' := [(2, v8), (0, 1), (0, c)]) (by decide +kernel) rfl ?_
          refine zwX_gi C (kd := 6) (bn := 6) (n := 7) (nx := 31) (by decide +kernel) Gv8.2.1 Gv8.1 rfl ?_
          intro v13 ev13 lv13 uv13
          refine zwW_cs (k' := 98) (n := 3) (nx := 34) (as := [(0, c), (0, 1), (0, v13)]) (st' := []) (by decide +kernel) rfl (x98 h C c 1 v13 (by omega) (by omega) (by omega)) rfl ?_
          rintro x _ ⟨rfl, ⟨rfl, c14⟩ | ⟨rfl, c14⟩⟩
          · refine zwif_eq (q := 40) (nx := 37) (by decide +kernel) (fun c15 => ?_) (fun c15 => ?_)
            · exfalso; omega
            · refine zwW_p [(0, -2147483648, 0)] (q := 39) (ls' := [(2, 1), (0, a), (0, b), (0, c), (2, v2), (2, v8)]) (st' := [(0, -2147483648)]) (by decide +kernel) rfl ?_
              refine zwW_ret (nx := 40) (a := 0) (b := 0) (by decide +kernel) rfl (Or.inl rfl) ?_
              exact ⟨C, X.le (by decide) (by decide), by omega⟩
          · refine zwif_eq (q := 40) (nx := 37) (by decide +kernel) (fun c16 => ?_) (fun c16 => ?_)
            · refine zwW_p [(1, 5, 2), (12, 0, 0)] (q := 43) (ls' := [(2, 1), (0, a), (0, b), (0, c), (2, v2), (2, v8)]) (st' := [(2, v8), (2, v8)]) (by decide +kernel) rfl ?_
              refine zwX_gi C (kd := 6) (bn := 6) (n := 7) (nx := 46) (by decide +kernel) Gv8.2.1 Gv8.1 rfl ?_
              intro v17 ev17 lv17 uv17
              refine zwW_p [(1, 3, 0)] (q := 47) (ls' := [(2, 1), (0, a), (0, b), (0, c), (2, v2), (2, v8)]) (st' := [(0, c), (0, v17), (2, v8)]) (by decide +kernel) rfl ?_
              refine zwW_sbw (nx := 48) (by decide +kernel) ?_
              intro v18 ev18 lv18 uv18
              have Ev18 : v18 = w32 ((fld h v8 6) - c) := by rw [ev18, ev17]
              refine zwX_pi C (kd := 6) (bn := 6) (n := 7) (nx := 51) (by decide +kernel) Gv8.2.1 Gv8.1 ⟨by omega, by omega⟩ ?_
              rintro h19 eh19 Ch19 Qh19
              have Xh19 : zXR msx35 (0) (0) h h19 := X.tr (c2 := 0) (s2 := 0) Qh19 (by decide +kernel) (by decide) (by decide)
              have Gh19_0 : gH h19 v2 := Gv2.x Qh19
              have Gh19_1 : gL h19 v8 := Gv8.x Qh19
              refine zwW_p [(1, 4, 2), (12, 0, 0)] (q := 54) (ls' := [(2, 1), (0, a), (0, b), (0, c), (2, v2), (2, v8)]) (st' := [(2, v2), (2, v2)]) (by decide +kernel) rfl ?_
              refine zwX_gi Ch19 (kd := 4) (bn := 16) (n := 19) (nx := 57) (by decide +kernel) Gh19_0.2.1 Gh19_0.1 rfl ?_
              intro v20 ev20 lv20 uv20
              refine zwW_p [(1, 3, 0)] (q := 58) (ls' := [(2, 1), (0, a), (0, b), (0, c), (2, v2), (2, v8)]) (st' := [(0, c), (0, v20), (2, v2)]) (by decide +kernel) rfl ?_
              refine zwW_adw (nx := 59) (by decide +kernel) ?_
              intro v21 ev21 lv21 uv21
              have Ev21 : v21 = w32 ((fld h19 v2 16) + c) := by rw [ev21, ev20]
              refine zwX_pi Ch19 (kd := 4) (bn := 16) (n := 19) (nx := 62) (by decide +kernel) Gh19_0.2.1 Gh19_0.1 ⟨by omega, by omega⟩ ?_
              rintro h22 eh22 Ch22 Qh22
              have Xh22 : zXR msx35 (0) (0) h h22 := Xh19.tr (c2 := 0) (s2 := 0) Qh22 (by decide +kernel) (by decide) (by decide)
              have Gh22_0 : gH h22 v2 := Gh19_0.x Qh22
              have Gh22_1 : gL h22 v8 := Gh19_1.x Qh22
              refine zwW_p [(1, 5, 2)] (q := 64) (ls' := [(2, 1), (0, a), (0, b), (0, c), (2, v2), (2, v8)]) (st' := [(2, v8)]) (by decide +kernel) rfl ?_
              refine zwW_get (kd := 6) (bn := 1) (t := 2) (n := 7) (nx := 67) (by decide +kernel) Gh22_1.2.1 rfl ?_
              obtain ⟨v23, ev23⟩ : ∃ z, z = fld h22 v8 1 := ⟨_, rfl⟩
              rw [← ev23]
              have Gv23 : gH h22 v23 := by rw [ev23]; exact Gh22_1.2.2
              have lv23 := Gv23.1
              refine zwW_p [(1, 4, 2)] (q := 69) (ls' := [(2, 1), (0, a), (0, b), (0, c), (2, v2), (2, v8)]) (st' := [(2, v2), (2, v23)]) (by decide +kernel) rfl ?_
              refine zwac_eq (q := 83) (nx := 72) (by decide +kernel) ⟨by omega, by omega, by omega, by omega⟩ (fun c24 => ?_) (fun c24 => ?_)
              · refine zwW_p [(1, 0, 2)] (q := 84) (ls' := [(2, 1), (0, a), (0, b), (0, c), (2, v2), (2, v8)]) (st' := [(2, 1)]) (by decide +kernel) rfl ?_
                refine zwW_gc Ch22.1 (kd := 12) (bn := 11) (n := 13) (c := 34) (nx := 87) (by decide +kernel) ?_
                refine zwW_p [(12, 0, 0)] (q := 88) (ls' := [(2, 1), (0, a), (0, b), (0, c), (2, v2), (2, v8)]) (st' := [(2, 34), (2, 34)]) (by decide +kernel) rfl ?_
                refine zwW_gs Ch22.1 (kd := 5) (bn := 0) (n := 4) (t := 0) (lo := -2147483648) (hi := 2147483647) (nx := 91) (by decide +kernel) ?_
                intro v25 ev25 lv25 uv25
                refine zwW_p [(1, 3, 0)] (q := 92) (ls' := [(2, 1), (0, a), (0, b), (0, c), (2, v2), (2, v8)]) (st' := [(0, c), (0, v25), (2, 34)]) (by decide +kernel) rfl ?_
                refine zwW_adw (nx := 93) (by decide +kernel) ?_
                intro v26 ev26 lv26 uv26
                refine zwW_ps Ch22.1 (kd := 5) (bn := 0) (n := 4) (lo := -2147483648) (hi := 2147483647) (nx := 96) (by decide +kernel) ⟨by omega, by omega⟩ ?_
                intro h27 eh27 Ih27
                have Ch27 : CI h27 := Ch22.wc eh27 Ih27 (by decide) (by decide)
                have Qh27 : zXR [(34, 34, 0, 1)] 0 0 h22 h27 := zXR.wc eh27 rfl ⟨by decide, by decide, Or.inl (by decide)⟩ ⟨by decide, by decide⟩
                have Xh27 : zXR msx35 (0) (0) h h27 := Xh22.tr (c2 := 0) (s2 := 0) Qh27 (by decide +kernel) (by decide) (by decide)
                have Gh27_0 : gH h27 v2 := Gh22_0.x Qh27
                have Gh27_1 : gL h27 v8 := Gh22_1.x Qh27
                refine zwW_p [(1, 4, 2)] (q := 98) (ls' := [(2, 1), (0, a), (0, b), (0, c), (2, v2), (2, v8)]) (st' := [(2, v2)]) (by decide +kernel) rfl ?_
                refine zwX_gi Ch27 (kd := 4) (bn := 15) (n := 19) (nx := 101) (by decide +kernel) Gh27_0.2.1 Gh27_0.1 rfl ?_
                intro v28 ev28 lv28 uv28
                refine zwW_p [(1, 4, 2)] (q := 103) (ls' := [(2, 1), (0, a), (0, b), (0, c), (2, v2), (2, v8)]) (st' := [(2, v2), (0, v28)]) (by decide +kernel) rfl ?_
                refine zwX_gi Ch27 (kd := 4) (bn := 16) (n := 19) (nx := 106) (by decide +kernel) Gh27_0.2.1 Gh27_0.1 rfl ?_
                intro v29 ev29 lv29 uv29
                refine zwW_sbw (nx := 107) (by decide +kernel) ?_
                intro v30 ev30 lv30 uv30
                have Ev30 : v30 = w32 ((fld h27 v2 15) - (fld h27 v2 16)) := by rw [ev30, ev28, ev29]
                refine zwW_ret (nx := 108) (a := 0) (b := 0) (by decide +kernel) rfl (Or.inl rfl) ?_
                exact ⟨Ch27, Xh27.le (by decide) (by decide), by omega⟩
              · refine zwW_p [(1, 4, 2), (12, 0, 0)] (q := 75) (ls' := [(2, 1), (0, a), (0, b), (0, c), (2, v2), (2, v8)]) (st' := [(2, v2), (2, v2)]) (by decide +kernel) rfl ?_
                refine zwX_gi Ch22 (kd := 4) (bn := 17) (n := 19) (nx := 78) (by decide +kernel) Gh22_0.2.1 Gh22_0.1 rfl ?_
                intro v31 ev31 lv31 uv31
                refine zwW_p [(1, 3, 0)] (q := 79) (ls' := [(2, 1), (0, a), (0, b), (0, c), (2, v2), (2, v8)]) (st' := [(0, c), (0, v31), (2, v2)]) (by decide +kernel) rfl ?_
                refine zwW_adw (nx := 80) (by decide +kernel) ?_
                intro v32 ev32 lv32 uv32
                have Ev32 : v32 = w32 ((fld h22 v2 17) + c) := by rw [ev32, ev31]
                refine zwX_pi Ch22 (kd := 4) (bn := 17) (n := 19) (nx := 83) (by decide +kernel) Gh22_0.2.1 Gh22_0.1 ⟨by omega, by omega⟩ ?_
                rintro h33 eh33 Ch33 Qh33
                have Xh33 : zXR msx35 (0) (0) h h33 := Xh22.tr (c2 := 0) (s2 := 0) Qh33 (by decide +kernel) (by decide) (by decide)
                have Gh33_0 : gH h33 v2 := Gh22_0.x Qh33
                have Gh33_1 : gL h33 v8 := Gh22_1.x Qh33
                refine zwW_p [(1, 0, 2)] (q := 84) (ls' := [(2, 1), (0, a), (0, b), (0, c), (2, v2), (2, v8)]) (st' := [(2, 1)]) (by decide +kernel) rfl ?_
                refine zwW_gc Ch33.1 (kd := 12) (bn := 11) (n := 13) (c := 34) (nx := 87) (by decide +kernel) ?_
                refine zwW_p [(12, 0, 0)] (q := 88) (ls' := [(2, 1), (0, a), (0, b), (0, c), (2, v2), (2, v8)]) (st' := [(2, 34), (2, 34)]) (by decide +kernel) rfl ?_
                refine zwW_gs Ch33.1 (kd := 5) (bn := 0) (n := 4) (t := 0) (lo := -2147483648) (hi := 2147483647) (nx := 91) (by decide +kernel) ?_
                intro v34 ev34 lv34 uv34
                refine zwW_p [(1, 3, 0)] (q := 92) (ls' := [(2, 1), (0, a), (0, b), (0, c), (2, v2), (2, v8)]) (st' := [(0, c), (0, v34), (2, 34)]) (by decide +kernel) rfl ?_
                refine zwW_adw (nx := 93) (by decide +kernel) ?_
                intro v35 ev35 lv35 uv35
                refine zwW_ps Ch33.1 (kd := 5) (bn := 0) (n := 4) (lo := -2147483648) (hi := 2147483647) (nx := 96) (by decide +kernel) ⟨by omega, by omega⟩ ?_
                intro h36 eh36 Ih36
                have Ch36 : CI h36 := Ch33.wc eh36 Ih36 (by decide) (by decide)
                have Qh36 : zXR [(34, 34, 0, 1)] 0 0 h33 h36 := zXR.wc eh36 rfl ⟨by decide, by decide, Or.inl (by decide)⟩ ⟨by decide, by decide⟩
                have Xh36 : zXR msx35 (0) (0) h h36 := Xh33.tr (c2 := 0) (s2 := 0) Qh36 (by decide +kernel) (by decide) (by decide)
                have Gh36_0 : gH h36 v2 := Gh33_0.x Qh36
                have Gh36_1 : gL h36 v8 := Gh33_1.x Qh36
                refine zwW_p [(1, 4, 2)] (q := 98) (ls' := [(2, 1), (0, a), (0, b), (0, c), (2, v2), (2, v8)]) (st' := [(2, v2)]) (by decide +kernel) rfl ?_
                refine zwX_gi Ch36 (kd := 4) (bn := 15) (n := 19) (nx := 101) (by decide +kernel) Gh36_0.2.1 Gh36_0.1 rfl ?_
                intro v37 ev37 lv37 uv37
                refine zwW_p [(1, 4, 2)] (q := 103) (ls' := [(2, 1), (0, a), (0, b), (0, c), (2, v2), (2, v8)]) (st' := [(2, v2), (0, v37)]) (by decide +kernel) rfl ?_
                refine zwX_gi Ch36 (kd := 4) (bn := 16) (n := 19) (nx := 106) (by decide +kernel) Gh36_0.2.1 Gh36_0.1 rfl ?_
                intro v38 ev38 lv38 uv38
                refine zwW_sbw (nx := 107) (by decide +kernel) ?_
                intro v39 ev39 lv39 uv39
                have Ev39 : v39 = w32 ((fld h36 v2 15) - (fld h36 v2 16)) := by rw [ev39, ev37, ev38]
                refine zwW_ret (nx := 108) (a := 0) (b := 0) (by decide +kernel) rfl (Or.inl rfl) ?_
                exact ⟨Ch36, Xh36.le (by decide) (by decide), by omega⟩
            · exfalso; omega
-- WheelLand.due(II)I
theorem x37 {sc : List Int} (h : Hp) (C : CI h) (a b : Int) (q_a : -2147483648 ≤ a ∧ a ≤ 2147483647) (q_b : -2147483648 ≤ b ∧ b ≤ 2147483647) : zwC sc 6 37 [(2, 1), (0, a), (0, b)] h (zwRt 0 (fun x g => h = g ∧ (-2147483648 ≤ x ∧ x ≤ 2147483647))) := by
  refine zwC_of (D := 5) 4 (by decide +kernel) rfl (ls := [(2, 1), (0, a), (0, b), (9, 0)]) rfl ?_
  refine zwW_p [(1, 0, 2), (1, 1, 0)] (q := 2) (ls' := [(2, 1), (0, a), (0, b), (9, 0)]) (st' := [(0, a), (2, 1)]) (by decide +kernel) rfl ?_
  refine zwW_cm C.1 (op := 60) (k' := 109) (n := 1) (kd := 12) (m := 13) (nx := 5) (r := 1) (tl := [(0, a)]) (st' := []) (by decide +kernel) rfl (by decide +kernel) rfl (x109 h C a (by omega)) ?_
  rintro v2 _ ⟨rfl, ⟨rfl, c1⟩ | ⟨Gv2, c1⟩⟩
  · refine zwW_p [(2, 3, 2), (1, 3, 2)] (q := 7) (ls' := [(2, 1), (0, a), (0, b), (2, 0)]) (st' := [(2, 0)]) (by decide +kernel) rfl ?_
    refine zwnu_ne (q := 13) (nx := 10) (by decide +kernel) (by decide) (fun c3 => ?_) (fun c3 => ?_)
    · exfalso; omega
    · refine zwW_p [(0, -2147483648, 0)] (q := 12) (ls' := [(2, 1), (0, a), (0, b), (2, 0)]) (st' := [(0, -2147483648)]) (by decide +kernel) rfl ?_
      refine zwW_ret (nx := 13) (a := 0) (b := 0) (by decide +kernel) rfl (Or.inl rfl) ?_
      exact ⟨rfl, by omega⟩
  · have lv2 := Gv2.1
    have ev2 := c1.2.2
    refine zwW_p [(2, 3, 2), (1, 3, 2)] (q := 7) (ls' := [(2, 1), (0, a), (0, b), (2, v2)]) (st' := [(2, v2)]) (by decide +kernel) rfl ?_
    refine zwnu_ne (q := 13) (nx := 10) (by decide +kernel) (by omega) (fun c4 => ?_) (fun c4 => ?_)
    · refine zwW_p [(1, 2, 0)] (q := 14) (ls' := [(2, 1), (0, a), (0, b), (2, v2)]) (st' := [(0, b)]) (by decide +kernel) rfl ?_
      refine zwW_sw (d := 87) (os := [0, 48, 1, 58, 2, 63, 3, 68, 4, 82]) (by decide +kernel) ?_
      refine ⟨fun c5 => ?_, fun c5 => ?_⟩
      · show zwW _ _ _ 48 _ _ _ _
        refine zwW_p [(1, 3, 2)] (q := 49) (ls' := [(2, 1), (0, a), (0, b), (2, v2)]) (st' := [(2, v2)]) (by decide +kernel) rfl ?_
        refine zwX_gi C (kd := 4) (bn := 15) (n := 19) (nx := 52) (by decide +kernel) Gv2.2.1 Gv2.1 rfl ?_
        intro v6 ev6 lv6 uv6
        refine zwW_p [(1, 3, 2)] (q := 53) (ls' := [(2, 1), (0, a), (0, b), (2, v2)]) (st' := [(2, v2), (0, v6)]) (by decide +kernel) rfl ?_
        refine zwX_gi C (kd := 4) (bn := 16) (n := 19) (nx := 56) (by decide +kernel) Gv2.2.1 Gv2.1 rfl ?_
        intro v7 ev7 lv7 uv7
        refine zwW_sbw (nx := 57) (by decide +kernel) ?_
        intro v8 ev8 lv8 uv8
        have Ev8 : v8 = w32 ((fld h v2 15) - (fld h v2 16)) := by rw [ev8, ev6, ev7]
        refine zwW_ret (nx := 58) (a := 0) (b := 0) (by decide +kernel) rfl (Or.inl rfl) ?_
        exact ⟨rfl, by omega⟩
      refine ⟨fun c9 => ?_, fun c9 => ?_⟩
      · show zwW _ _ _ 58 _ _ _ _
        refine zwW_p [(1, 3, 2)] (q := 59) (ls' := [(2, 1), (0, a), (0, b), (2, v2)]) (st' := [(2, v2)]) (by decide +kernel) rfl ?_
        refine zwX_gi C (kd := 4) (bn := 16) (n := 19) (nx := 62) (by decide +kernel) Gv2.2.1 Gv2.1 rfl ?_
        intro v10 ev10 lv10 uv10
        refine zwW_ret (nx := 63) (a := 0) (b := 0) (by decide +kernel) rfl (Or.inl rfl) ?_
        exact ⟨rfl, by omega⟩
      refine ⟨fun c11 => ?_, fun c11 => ?_⟩
      · show zwW _ _ _ 63 _ _ _ _
        refine zwW_p [(1, 3, 2)] (q := 64) (ls' := [(2, 1), (0, a), (0, b), (2, v2)]) (st' := [(2, v2)]) (by decide +kernel) rfl ?_
        refine zwX_gi C (kd := 4) (bn := 18) (n := 19) (nx := 67) (by decide +kernel) Gv2.2.1 Gv2.1 rfl ?_
        intro v12 ev12 lv12 uv12
        refine zwW_ret (nx := 68) (a := 0) (b := 0) (by decide +kernel) rfl (Or.inl rfl) ?_
        exact ⟨rfl, by omega⟩
      refine ⟨fun c13 => ?_, fun c13 => ?_⟩
      · show zwW _ _ _ 68 _ _ _ _
        refine zwW_p [(1, 3, 2)] (q := 69) (ls' := [(2, 1), (0, a), (0, b), (2, v2)]) (st' := [(2, v2)]) (by decide +kernel) rfl ?_
        refine zwX_gi C (kd := 4) (bn := 16) (n := 19) (nx := 72) (by decide +kernel) Gv2.2.1 Gv2.1 rfl ?_
        intro v14 ev14 lv14 uv14
        refine zwW_p [(1, 3, 2)] (q := 73) (ls' := [(2, 1), (0, a), (0, b), (2, v2)]) (st' := [(2, v2), (0, v14)]) (by decide +kernel) rfl ?_
        refine zwX_gi C (kd := 4) (bn := 18) (n := 19) (nx := 76) (by decide +kernel) Gv2.2.1 Gv2.1 rfl ?_
        intro v15 ev15 lv15 uv15
        refine zwW_sbw (nx := 77) (by decide +kernel) ?_
        intro v16 ev16 lv16 uv16
        have Ev16 : v16 = w32 ((fld h v2 16) - (fld h v2 18)) := by rw [ev16, ev14, ev15]
        refine zwW_p [(0, 0, 0)] (q := 78) (ls' := [(2, 1), (0, a), (0, b), (2, v2)]) (st' := [(0, 0), (0, v16)]) (by decide +kernel) rfl ?_
        refine zwW_max (nx := 81) (by decide +kernel) rfl ?_
        intro v17 ev17
        refine zwW_ret (nx := 82) (a := 0) (b := 0) (by decide +kernel) rfl (Or.inl rfl) ?_
        exact ⟨rfl, by omega⟩
      refine ⟨fun c18 => ?_, fun c18 => ?_⟩
      · show zwW _ _ _ 82 _ _ _ _
        refine zwW_p [(1, 3, 2)] (q := 83) (ls' := [(2, 1), (0, a), (0, b), (2, v2)]) (st' := [(2, v2)]) (by decide +kernel) rfl ?_
        refine zwX_gi C (kd := 4) (bn := 17) (n := 19) (nx := 86) (by decide +kernel) Gv2.2.1 Gv2.1 rfl ?_
        intro v19 ev19 lv19 uv19
        refine zwW_ret (nx := 87) (a := 0) (b := 0) (by decide +kernel) rfl (Or.inl rfl) ?_
        exact ⟨rfl, by omega⟩
      show zwW _ _ _ 87 _ _ _ _
      refine zwW_p [(0, -2147483648, 0)] (q := 89) (ls' := [(2, 1), (0, a), (0, b), (2, v2)]) (st' := [(0, -2147483648)]) (by decide +kernel) rfl ?_
      refine zwW_ret (nx := 90) (a := 0) (b := 0) (by decide +kernel) rfl (Or.inl rfl) ?_
      exact ⟨rfl, by omega⟩
    · exfalso; omega
def msx39 : Zms := [(17, 17, 0, 13), (18, 18, 0, 400)]
-- WheelLand.bar(III)I
theorem x39 {sc : List Int} (h : Hp) (C : CI h) (a b c : Int) (q_a : -2147483648 ≤ a ∧ a ≤ 2147483647) (q_b : -2147483648 ≤ b ∧ b ≤ 2147483647) (q_c : -2147483648 ≤ c ∧ c ≤ 2147483647) : zwC sc 7 39 [(2, 1), (0, a), (0, b), (0, c)] h (zwRt 0 (fun x g => CI g ∧ zXR msx39 (0) (0) h g ∧ (-2147483648 ≤ x ∧ x ≤ 2147483647))) := by
  refine zwC_of (D := 6) 6 (by decide +kernel) rfl (ls := [(2, 1), (0, a), (0, b), (0, c), (9, 0), (9, 0)]) rfl ?_
  have X : zXR msx39 0 0 h h := zXR.rf _ _
  refine zwW_p [(1, 0, 2), (1, 1, 0)] (q := 2) (ls' := [(2, 1), (0, a), (0, b), (0, c), (9, 0), (9, 0)]) (st' := [(0, a), (2, 1)]) (by decide +kernel) rfl ?_
  refine zwW_cm C.1 (op := 60) (k' := 109) (n := 1) (kd := 12) (m := 13) (nx := 5) (r := 1) (tl := [(0, a)]) (st' := []) (by decide +kernel) rfl (by decide +kernel) rfl (x109 h C a (by omega)) ?_
  rintro v2 _ ⟨rfl, ⟨rfl, c1⟩ | ⟨Gv2, c1⟩⟩
  · refine zwW_p [(2, 4, 2), (1, 0, 2), (1, 2, 0)] (q := 9) (ls' := [(2, 1), (0, a), (0, b), (0, c), (2, 0), (9, 0)]) (st' := [(0, b), (2, 1)]) (by decide +kernel) rfl ?_
    refine zwW_cm C.1 (op := 60) (k' := 115) (n := 1) (kd := 12) (m := 13) (nx := 12) (r := 1) (tl := [(0, b)]) (st' := []) (by decide +kernel) rfl (by decide +kernel) rfl (x115 h C b (by omega)) ?_
    rintro v4 _ ⟨rfl, ⟨rfl, c3⟩ | ⟨Gv4, c3⟩⟩
    · refine zwW_p [(2, 5, 2), (1, 4, 2)] (q := 16) (ls' := [(2, 1), (0, a), (0, b), (0, c), (2, 0), (2, 0)]) (st' := [(2, 0)]) (by decide +kernel) rfl ?_
      refine zwnu_eq (q := 31) (nx := 19) (by decide +kernel) (by decide) (fun c5 => ?_) (fun c5 => ?_)
      · refine zwW_p [(0, -1, 0)] (q := 32) (ls' := [(2, 1), (0, a), (0, b), (0, c), (2, 0), (2, 0)]) (st' := [(0, -1)]) (by decide +kernel) rfl ?_
        refine zwW_ret (nx := 33) (a := 0) (b := 0) (by decide +kernel) rfl (Or.inl rfl) ?_
        exact ⟨C, X.le (by decide) (by decide), by omega⟩
      · exfalso; omega
    · have lv4 := Gv4.1
      have ev4 := c3.2.2
      refine zwW_p [(2, 5, 2), (1, 4, 2)] (q := 16) (ls' := [(2, 1), (0, a), (0, b), (0, c), (2, 0), (2, v4)]) (st' := [(2, 0)]) (by decide +kernel) rfl ?_
      refine zwnu_eq (q := 31) (nx := 19) (by decide +kernel) (by decide) (fun c6 => ?_) (fun c6 => ?_)
      · refine zwW_p [(0, -1, 0)] (q := 32) (ls' := [(2, 1), (0, a), (0, b), (0, c), (2, 0), (2, v4)]) (st' := [(0, -1)]) (by decide +kernel) rfl ?_
        refine zwW_ret (nx := 33) (a := 0) (b := 0) (by decide +kernel) rfl (Or.inl rfl) ?_
        exact ⟨C, X.le (by decide) (by decide), by omega⟩
      · exfalso; omega
  · have lv2 := Gv2.1
    have ev2 := c1.2.2
    refine zwW_p [(2, 4, 2), (1, 0, 2), (1, 2, 0)] (q := 9) (ls' := [(2, 1), (0, a), (0, b), (0, c), (2, v2), (9, 0)]) (st' := [(0, b), (2, 1)]) (by decide +kernel) rfl ?_
    refine zwW_cm C.1 (op := 60) (k' := 115) (n := 1) (kd := 12) (m := 13) (nx := 12) (r := 1) (tl := [(0, b)]) (st' := []) (by decide +kernel) rfl (by decide +kernel) rfl (x115 h C b (by omega)) ?_
    rintro v8 _ ⟨rfl, ⟨rfl, c7⟩ | ⟨Gv8, c7⟩⟩
    · refine zwW_p [(2, 5, 2), (1, 4, 2)] (q := 16) (ls' := [(2, 1), (0, a), (0, b), (0, c), (2, v2), (2, 0)]) (st' := [(2, v2)]) (by decide +kernel) rfl ?_
      refine zwnu_eq (q := 31) (nx := 19) (by decide +kernel) (by omega) (fun c9 => ?_) (fun c9 => ?_)
      · exfalso; omega
      · refine zwW_p [(1, 5, 2)] (q := 21) (ls' := [(2, 1), (0, a), (0, b), (0, c), (2, v2), (2, 0)]) (st' := [(2, 0)]) (by decide +kernel) rfl ?_
        refine zwnu_eq (q := 31) (nx := 24) (by decide +kernel) (by decide) (fun c10 => ?_) (fun c10 => ?_)
        · refine zwW_p [(0, -1, 0)] (q := 32) (ls' := [(2, 1), (0, a), (0, b), (0, c), (2, v2), (2, 0)]) (st' := [(0, -1)]) (by decide +kernel) rfl ?_
          refine zwW_ret (nx := 33) (a := 0) (b := 0) (by decide +kernel) rfl (Or.inl rfl) ?_
          exact ⟨C, X.le (by decide) (by decide), by omega⟩
        · exfalso; omega
    · have lv8 := Gv8.1
      have ev8 := c7.2.2
      refine zwW_p [(2, 5, 2), (1, 4, 2)] (q := 16) (ls' := [(2, 1), (0, a), (0, b), (0, c), (2, v2), (2, v8)]) (st' := [(2, v2)]) (by decide +kernel) rfl ?_
      refine zwnu_eq (q := 31) (nx := 19) (by decide +kernel) (by omega) (fun c11 => ?_) (fun c11 => ?_)
      · exfalso; omega
      · refine zwW_p [(1, 5, 2)] (q := 21) (ls' := [(2, 1), (0, a), (0, b), (0, c), (2, v2), (2, v8)]) (st' := [(2, v8)]) (by decide +kernel) rfl ?_
        refine zwnu_eq (q := 31) (nx := 24) (by decide +kernel) (by omega) (fun c12 => ?_) (fun c12 => ?_)
        · exfalso; omega
        · refine zwW_p [(1, 3, 0)] (q := 25) (ls' := [(2, 1), (0, a), (0, b), (0, c), (2, v2), (2, v8)]) (st' := [(0, c)]) (by decide +kernel) rfl ?_
          refine zwW_cs (k' := 130) (n := 1) (nx := 28) (as := [(0, c)]) (st' := []) (by decide +kernel) rfl (x130 h C c (by omega)) rfl ?_
          rintro x _ ⟨rfl, ⟨rfl, c13⟩ | ⟨rfl, c13⟩⟩
          · refine zwif_ne (q := 33) (nx := 31) (by decide +kernel) (fun c14 => ?_) (fun c14 => ?_)
            · refine zwW_p [(1, 0, 2), (1, 4, 2), (1, 5, 2), (1, 3, 0)] (q := 39) (ls' := [(2, 1), (0, a), (0, b), (0, c), (2, v2), (2, v8)]) (st' := [(0, c), (2, v8), (2, v2), (2, 1)]) (by decide +kernel) rfl ?_
              refine zwW_cm C.1 (op := 60) (k' := 131) (n := 3) (kd := 12) (m := 13) (nx := 42) (r := 1) (tl := [(2, v2), (2, v8), (0, c)]) (st' := []) (by decide +kernel) rfl (by decide +kernel) rfl (x131 h C v2 v8 c Gv2 Gv8 (by omega)) ?_
              rintro v16 h17 ⟨Ch17, Qh17, f15⟩
              have Xh17 : zXR msx39 (0) (0) h h17 := X.tr (c2 := 0) (s2 := 0) Qh17 (by decide +kernel) (by decide) (by decide)
              have Gh17_0 : gH h17 v2 := Gv2.x Qh17
              have Gh17_1 : gL h17 v8 := Gv8.x Qh17
              refine zwW_ret (nx := 43) (a := 0) (b := 0) (by decide +kernel) rfl (Or.inl rfl) ?_
              exact ⟨Ch17, Xh17.le (by decide) (by decide), by omega⟩
            · exfalso; omega
          · refine zwif_ne (q := 33) (nx := 31) (by decide +kernel) (fun c18 => ?_) (fun c18 => ?_)
            · exfalso; omega
            · refine zwW_p [(0, -1, 0)] (q := 32) (ls' := [(2, 1), (0, a), (0, b), (0, c), (2, v2), (2, v8)]) (st' := [(0, -1)]) (by decide +kernel) rfl ?_
              refine zwW_ret (nx := 33) (a := 0) (b := 0) (by decide +kernel) rfl (Or.inl rfl) ?_
              exact ⟨C, X.le (by decide) (by decide), by omega⟩
