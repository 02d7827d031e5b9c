/-! the branches of the law -/
theorem zl_220 {sc : List Int} {Q : Option Vl → Hp → Prop} (h : Hp) (C : CI h) (A : zAM h) (W : zCW h) (E : zE h) (hl : h.length ≤ 800000) (hin : ∀ x ∈ sc, in32 x) (i : Int) (hi : 0 ≤ i ∧ i + 6 ≤ sc.length) (hs : sc.length ≤ 3072) (k : ∀ g, zLJ h g → zwW sc 400 0 1605 [(2, -1), (2, 1), (2, 37), (0, i)] [] g Q) : zwW sc 400 0 220 [(2, -1), (2, 1), (2, 37), (0, i)] [] h Q := by
  have X : zXR msxL 0 0 h h := zXR.rf _ _
  have E2_2 := zE_s2_2 E
  have E3_2 := zE_s3_2 E
  have E1_0 := zE_s1_0 E
  have E27_0 := zE_s27_0 E
  refine zwW_p [(1, 1, 2), (1, 0, 2), (1, 3, 0), (0, 1, 0)] (q := 224) (ls' := [(2, -1), (2, 1), (2, 37), (0, i)]) (st' := [(0, 1), (0, i), (2, -1), (2, 1)]) (by decide +kernel) rfl ?_
  refine zwW_add (nx := 225) (by decide +kernel) (by first | omega | exact ⟨by omega, by omega⟩) ?_
  refine zwW_sld (nx := 226) (by decide +kernel) (by omega) (by omega) ?_
  obtain ⟨v1, ev1⟩ : ∃ z, z = sc.getD (i + 1).toNat 0 := ⟨_, rfl⟩
  rw [← ev1]
  have qv1 : -2147483648 ≤ v1 ∧ v1 ≤ 2147483647 := by rw [ev1]; exact zgetD hin _
  refine zwW_p [(1, 0, 2), (1, 3, 0), (0, 2, 0)] (q := 229) (ls' := [(2, -1), (2, 1), (2, 37), (0, i)]) (st' := [(0, 2), (0, i), (2, -1), (0, v1), (2, 1)]) (by decide +kernel) rfl ?_
  refine zwW_add (nx := 230) (by decide +kernel) (by first | omega | exact ⟨by omega, by omega⟩) ?_
  refine zwW_sld (nx := 231) (by decide +kernel) (by omega) (by omega) ?_
  obtain ⟨v2, ev2⟩ : ∃ z, z = sc.getD (i + 2).toNat 0 := ⟨_, rfl⟩
  rw [← ev2]
  have qv2 : -2147483648 ≤ v2 ∧ v2 ≤ 2147483647 := by rw [ev2]; exact zgetD hin _
  refine zwW_p [(1, 0, 2), (1, 3, 0), (0, 3, 0)] (q := 234) (ls' := [(2, -1), (2, 1), (2, 37), (0, i)]) (st' := [(0, 3), (0, i), (2, -1), (0, v2), (0, v1), (2, 1)]) (by decide +kernel) rfl ?_
  refine zwW_add (nx := 235) (by decide +kernel) (by first | omega | exact ⟨by omega, by omega⟩) ?_
  refine zwW_sld (nx := 236) (by decide +kernel) (by omega) (by omega) ?_
  obtain ⟨v3, ev3⟩ : ∃ z, z = sc.getD (i + 3).toNat 0 := ⟨_, rfl⟩
  rw [← ev3]
  have qv3 : -2147483648 ≤ v3 ∧ v3 ≤ 2147483647 := by rw [ev3]; exact zgetD hin _
  refine zwW_cm C.1 (op := 60) (k' := 3) (n := 3) (kd := 12) (m := 13) (nx := 239) (r := 1) (tl := [(0, v1), (0, v2), (0, v3)]) (st' := []) (by decide +kernel) rfl (by decide +kernel) rfl (x3 h C v1 v2 v3 (by omega) (by omega) (by omega) (by omega)) ?_
  rintro v6 h7 ⟨Ch7, Qh7, f4, f5⟩
  have Xh7 : zXR msxL (3) (1174) h h7 := X.tr (c2 := 3) (s2 := 1174) Qh7 (by decide +kernel) (by decide) (by decide)
  have th7_37_1 : fld h7 37 1 = fld h 37 1 := Qh7.f (a1 := 37) (a2 := 37) (j1 := 1) (j2 := 2) (by decide +kernel) (by first | decide | exact ⟨by decide, by decide⟩) (by first | decide | exact ⟨by decide, by decide⟩) (by first | decide | exact ⟨by decide, by decide⟩)
  have th7_3_2 : fld h7 3 2 = fld h 3 2 := Qh7.f (a1 := 3) (a2 := 3) (j1 := 2) (j2 := 3) (by decide +kernel) (by first | decide | exact ⟨by decide, by decide⟩) (by first | decide | exact ⟨by decide, by decide⟩) (by first | decide | exact ⟨by decide, by decide⟩)
  have th7_37_2 : fld h7 37 2 = fld h 37 2 := Qh7.f (a1 := 37) (a2 := 37) (j1 := 2) (j2 := 3) (by decide +kernel) (by first | decide | exact ⟨by decide, by decide⟩) (by first | decide | exact ⟨by decide, by decide⟩) (by first | decide | exact ⟨by decide, by decide⟩)
  have th7_1_0 : fld h7 1 0 = fld h 1 0 := Qh7.f (a1 := 1) (a2 := 1) (j1 := 0) (j2 := 1) (by decide +kernel) (by first | decide | exact ⟨by decide, by decide⟩) (by first | decide | exact ⟨by decide, by decide⟩) (by first | decide | exact ⟨by decide, by decide⟩)
  have th7_37_0 : fld h7 37 0 = fld h 37 0 := Qh7.f (a1 := 37) (a2 := 37) (j1 := 0) (j2 := 1) (by decide +kernel) (by first | decide | exact ⟨by decide, by decide⟩) (by first | decide | exact ⟨by decide, by decide⟩) (by first | decide | exact ⟨by decide, by decide⟩)
  have th7_27_0 : fld h7 27 0 = fld h 27 0 := Qh7.f (a1 := 27) (a2 := 27) (j1 := 0) (j2 := 1) (by decide +kernel) (by first | decide | exact ⟨by decide, by decide⟩) (by first | decide | exact ⟨by decide, by decide⟩) (by first | decide | exact ⟨by decide, by decide⟩)
  have th7_37_96 : fld h7 37 96 = fld h 37 96 := Qh7.f (a1 := 37) (a2 := 37) (j1 := 96) (j2 := 97) (by decide +kernel) (by first | decide | exact ⟨by decide, by decide⟩) (by first | decide | exact ⟨by decide, by decide⟩) (by first | decide | exact ⟨by decide, by decide⟩)
  have Ah7 : zAM h7 := A.sm (fun r hr => Qh7.same (by decide +kernel) hr)
  have Wh7 : zCW h7 := W.sm C.1 (fun r hr => Qh7.same (by decide +kernel) hr)
  refine zwW_p [(15, 0, 0), (1, 2, 2), (1, 0, 2), (1, 3, 0), (0, 1, 0)] (q := 244) (ls' := [(2, -1), (2, 1), (2, 37), (0, i)]) (st' := [(0, 1), (0, i), (2, -1), (2, 37)]) (by decide +kernel) rfl ?_
  refine zwW_add (nx := 245) (by decide +kernel) (by first | omega | exact ⟨by omega, by omega⟩) ?_
  refine zwW_sld (nx := 246) (by decide +kernel) (by omega) (by omega) ?_
  rw [← ev1]
  refine zwW_p [(1, 0, 2), (1, 3, 0), (0, 2, 0)] (q := 249) (ls' := [(2, -1), (2, 1), (2, 37), (0, i)]) (st' := [(0, 2), (0, i), (2, -1), (0, v1), (2, 37)]) (by decide +kernel) rfl ?_
  refine zwW_add (nx := 250) (by decide +kernel) (by first | omega | exact ⟨by omega, by omega⟩) ?_
  refine zwW_sld (nx := 251) (by decide +kernel) (by omega) (by omega) ?_
  rw [← ev2]
  refine zwW_p [(1, 0, 2), (1, 3, 0), (0, 3, 0)] (q := 254) (ls' := [(2, -1), (2, 1), (2, 37), (0, i)]) (st' := [(0, 3), (0, i), (2, -1), (0, v2), (0, v1), (2, 37)]) (by decide +kernel) rfl ?_
  refine zwW_add (nx := 255) (by decide +kernel) (by first | omega | exact ⟨by omega, by omega⟩) ?_
  refine zwW_sld (nx := 256) (by decide +kernel) (by omega) (by omega) ?_
  rw [← ev3]
  refine zwW_cm Ch7.1 (op := 60) (k' := 4) (n := 3) (kd := 13) (m := 97) (nx := 259) (r := 37) (tl := [(0, v1), (0, v2), (0, v3)]) (st' := []) (by decide +kernel) rfl (by decide +kernel) rfl (m4 h7 Ch7.1 v1 v2 v3 (by omega)) ?_
  rintro v9 h8 ⟨Ih8, Qh8, f10, f11⟩
  obtain ⟨Ch8, Zh8⟩ := Ch7.m Ih8 Qh8 (by decide +kernel)
  have Xh8 : zXR msxL (3) (1174) h h8 := Xh7.tr (c2 := 3) (s2 := 1174) Zh8 (by decide +kernel) (by decide) (by decide)
  have th8_2_2 : fld h8 2 2 = fld h7 2 2 := Zh8.f (a1 := 2) (a2 := 2) (j1 := 2) (j2 := 3) (by decide +kernel) (by first | decide | exact ⟨by decide, by decide⟩) (by first | decide | exact ⟨by decide, by decide⟩) (by first | decide | exact ⟨by decide, by decide⟩)
  have th8_3_2 : fld h8 3 2 = fld h7 3 2 := Zh8.f (a1 := 3) (a2 := 3) (j1 := 2) (j2 := 3) (by decide +kernel) (by first | decide | exact ⟨by decide, by decide⟩) (by first | decide | exact ⟨by decide, by decide⟩) (by first | decide | exact ⟨by decide, by decide⟩)
  have th8_37_2 : fld h8 37 2 = fld h7 37 2 := Zh8.f (a1 := 37) (a2 := 37) (j1 := 2) (j2 := 3) (by decide +kernel) (by first | decide | exact ⟨by decide, by decide⟩) (by first | decide | exact ⟨by decide, by decide⟩) (by first | decide | exact ⟨by decide, by decide⟩)
  have th8_1_0 : fld h8 1 0 = fld h7 1 0 := Zh8.f (a1 := 1) (a2 := 1) (j1 := 0) (j2 := 1) (by decide +kernel) (by first | decide | exact ⟨by decide, by decide⟩) (by first | decide | exact ⟨by decide, by decide⟩) (by first | decide | exact ⟨by decide, by decide⟩)
  have th8_37_0 : fld h8 37 0 = fld h7 37 0 := Zh8.f (a1 := 37) (a2 := 37) (j1 := 0) (j2 := 1) (by decide +kernel) (by first | decide | exact ⟨by decide, by decide⟩) (by first | decide | exact ⟨by decide, by decide⟩) (by first | decide | exact ⟨by decide, by decide⟩)
  have th8_27_0 : fld h8 27 0 = fld h7 27 0 := Zh8.f (a1 := 27) (a2 := 27) (j1 := 0) (j2 := 1) (by decide +kernel) (by first | decide | exact ⟨by decide, by decide⟩) (by first | decide | exact ⟨by decide, by decide⟩) (by first | decide | exact ⟨by decide, by decide⟩)
  have th8_37_96 : fld h8 37 96 = fld h7 37 96 := Zh8.f (a1 := 37) (a2 := 37) (j1 := 96) (j2 := 97) (by decide +kernel) (by first | decide | exact ⟨by decide, by decide⟩) (by first | decide | exact ⟨by decide, by decide⟩) (by first | decide | exact ⟨by decide, by decide⟩)
  have Ah8 : zAM h8 := Ah7.mr Qh8 (by decide +kernel) (Ch7.1.b (a1 := 37) (a2 := 37) (j1 := 2) (j2 := 3) (lo := 0) (hi := 20) (by decide +kernel) (by decide) (by decide) (by decide) (by decide)).2
  have Wh8 : zCW h8 := Wh7.mr Ch7.1 Qh8 (by decide +kernel)
  have KEh8 : zE h8 ∧ v6 = v9 := by
    rcases f5 with ⟨xC0, xC1, xC2, xC3, xC4⟩ | ⟨xN0, xN1, xN2⟩
    · rcases f11 with ⟨mC0, mC1, mC2, mC3, mC4, mC5, mC6, mC7⟩ | ⟨mN0, mN1, mN2⟩
      · obtain ⟨q, p1, rr, r1, r2, r3, r4⟩ := xC4
        have D : zAd 2 h h7 rr := ⟨xC2, r1, r2, r3⟩
        have bb := zLb_2 C
        have TT : zXR [(2, 2, 0, 3), (37, 37, 1, 2), (39, 46, 0, 4), (57, 64, 0, 157), (65, 65, 0, 8), (66, 66, 0, 8), (70, 70, 0, 8), (71, 71, 0, 8)] (3) (1174) h h8 := (Qh7.mono (ms' := [(2, 2, 0, 3), (37, 37, 1, 2), (39, 46, 0, 4), (57, 64, 0, 157), (65, 65, 0, 8), (66, 66, 0, 8), (70, 70, 0, 8), (71, 71, 0, 8)]) (by decide +kernel)).tr (c2 := 3) (s2 := 1174) Zh8 (by decide +kernel) (by decide) (by decide)
        exact ⟨⟨zQS.st (T := [(2, 2, 37, 1)]) TT E.1 (by decide +kernel) (zQS.cons (show fld h8 2 2 = fld h8 37 1 by omega) zQS.nil), zNM.st (T := [2]) TT C E.2.1 (by decide +kernel) (zNM.cons (zNM.ad (A := 2) C Ch7 Qh7 Zh8 D (zE_n2 E) (by decide +kernel) (by decide +kernel) (r4 0)) zNM.nil), zFL.st (T := [(2, 2, 65), (2, 11, 74)]) TT C E.2.2.1 (by decide +kernel) (zFL.cons (zF1.ad (A := 2) (j := 2) (a := 65) (k := (fld h7 37 1).toNat) C Ch7 Qh7 Zh8 D (zE_f2_2 E) (by decide +kernel) (by decide +kernel) (r4 2) mC4 (show (((fld h7 37 1).toNat : Nat) : Int) = fld h 2 2 by omega) rfl) (zFL.cons (zF1.ad0 (A := 2) (j := 11) (a := 74) C Ch7 Qh7 Zh8 D (zE_f2_11 E) (zE_z2_74 E) (by decide +kernel) (by decide +kernel) (r4 11)) zFL.nil)), zZL.st (T := [(2, 74)]) TT E.2.2.2.1 (by decide +kernel) (zZL.cons (zZ1.ad (A := 2) (a := 74) C Qh7 Zh8 D (zE_z2_74 E) (by decide +kernel) (by decide +kernel)) zZL.nil), zRL.st (T := [(3, 1, 2, 79)]) TT C E.2.2.2.2.1 (by decide +kernel) (zRL.cons (zR1.adB (A := 3) (j := 1) (B := 2) (a := 79) C Ch7 Qh7 Zh8 D (zE_r3_1 E) (by decide +kernel) (by decide +kernel)) zRL.nil), E.2.2.2.2.2.kp TT (by decide +kernel) (by omega)⟩, by omega⟩
      · exfalso; omega
    · rcases f11 with ⟨mC0, mC1, mC2, mC3, mC4, mC5, mC6, mC7⟩ | ⟨mN0, mN1, mN2⟩
      · exfalso; omega
      · exact ⟨by rw [mN1, xN1]; exact E, by omega⟩
  obtain ⟨Eh8, kEh8⟩ := KEh8
  refine zwW_p [(15, 0, 0), (24, 1605, 0)] (q := 1605) (ls' := [(2, -1), (2, 1), (2, 37), (0, i)]) (st' := []) (by decide +kernel) rfl ?_
  exact k _ ⟨Ch8, Ah8, Wh8, Eh8, _, Xh8.le (by decide) (by decide)⟩
theorem zl_263 {sc : List Int} {Q : Option Vl → Hp → Prop} (h : Hp) (C : CI h) (A : zAM h) (W : zCW h) (E : zE h) (hl : h.length ≤ 800000) (hin : ∀ x ∈ sc, in32 x) (i : Int) (hi : 0 ≤ i ∧ i + 6 ≤ sc.length) (hs : sc.length ≤ 3072) (k : ∀ g, zLJ h g → zwW sc 400 0 1605 [(2, -1), (2, 1), (2, 37), (0, i)] [] g Q) : zwW sc 400 0 263 [(2, -1), (2, 1), (2, 37), (0, i)] [] h Q := by
  have X : zXR msxL 0 0 h h := zXR.rf _ _
  have E2_2 := zE_s2_2 E
  have E3_2 := zE_s3_2 E
  have E1_0 := zE_s1_0 E
  have E27_0 := zE_s27_0 E
  refine zwW_p [(1, 1, 2), (1, 0, 2), (1, 3, 0), (0, 1, 0)] (q := 267) (ls' := [(2, -1), (2, 1), (2, 37), (0, i)]) (st' := [(0, 1), (0, i), (2, -1), (2, 1)]) (by decide +kernel) rfl ?_
  refine zwW_add (nx := 268) (by decide +kernel) (by first | omega | exact ⟨by omega, by omega⟩) ?_
  refine zwW_sld (nx := 269) (by decide +kernel) (by omega) (by omega) ?_
  obtain ⟨v1, ev1⟩ : ∃ z, z = sc.getD (i + 1).toNat 0 := ⟨_, rfl⟩
  rw [← ev1]
  have qv1 : -2147483648 ≤ v1 ∧ v1 ≤ 2147483647 := by rw [ev1]; exact zgetD hin _
  refine zwW_p [(1, 0, 2), (1, 3, 0), (0, 2, 0)] (q := 272) (ls' := [(2, -1), (2, 1), (2, 37), (0, i)]) (st' := [(0, 2), (0, i), (2, -1), (0, v1), (2, 1)]) (by decide +kernel) rfl ?_
  refine zwW_add (nx := 273) (by decide +kernel) (by first | omega | exact ⟨by omega, by omega⟩) ?_
  refine zwW_sld (nx := 274) (by decide +kernel) (by omega) (by omega) ?_
  obtain ⟨v2, ev2⟩ : ∃ z, z = sc.getD (i + 2).toNat 0 := ⟨_, rfl⟩
  rw [← ev2]
  have qv2 : -2147483648 ≤ v2 ∧ v2 ≤ 2147483647 := by rw [ev2]; exact zgetD hin _
  refine zwW_p [(1, 0, 2), (1, 3, 0), (0, 3, 0)] (q := 277) (ls' := [(2, -1), (2, 1), (2, 37), (0, i)]) (st' := [(0, 3), (0, i), (2, -1), (0, v2), (0, v1), (2, 1)]) (by decide +kernel) rfl ?_
  refine zwW_add (nx := 278) (by decide +kernel) (by first | omega | exact ⟨by omega, by omega⟩) ?_
  refine zwW_sld (nx := 279) (by decide +kernel) (by omega) (by omega) ?_
  obtain ⟨v3, ev3⟩ : ∃ z, z = sc.getD (i + 3).toNat 0 := ⟨_, rfl⟩
  rw [← ev3]
  have qv3 : -2147483648 ≤ v3 ∧ v3 ≤ 2147483647 := by rw [ev3]; exact zgetD hin _
  refine zwW_cm C.1 (op := 60) (k' := 5) (n := 3) (kd := 12) (m := 13) (nx := 282) (r := 1) (tl := [(0, v1), (0, v2), (0, v3)]) (st' := []) (by decide +kernel) rfl (by decide +kernel) rfl (x5 h C v1 v2 v3 (by omega) (by omega) (by omega) E.2.2.2.2.2.1) ?_
  rintro v6 h7 ⟨Ch7, Qh7, f4, f5⟩
  have Xh7 : zXR msxL (0) (0) h h7 := X.tr (c2 := 0) (s2 := 0) Qh7 (by decide +kernel) (by decide) (by decide)
  have th7_2_2 : fld h7 2 2 = fld h 2 2 := Qh7.f (a1 := 2) (a2 := 2) (j1 := 2) (j2 := 3) (by decide +kernel) (by first | decide | exact ⟨by decide, by decide⟩) (by first | decide | exact ⟨by decide, by decide⟩) (by first | decide | exact ⟨by decide, by decide⟩)
  have th7_37_1 : fld h7 37 1 = fld h 37 1 := Qh7.f (a1 := 37) (a2 := 37) (j1 := 1) (j2 := 2) (by decide +kernel) (by first | decide | exact ⟨by decide, by decide⟩) (by first | decide | exact ⟨by decide, by decide⟩) (by first | decide | exact ⟨by decide, by decide⟩)
  have th7_3_2 : fld h7 3 2 = fld h 3 2 := Qh7.f (a1 := 3) (a2 := 3) (j1 := 2) (j2 := 3) (by decide +kernel) (by first | decide | exact ⟨by decide, by decide⟩) (by first | decide | exact ⟨by decide, by decide⟩) (by first | decide | exact ⟨by decide, by decide⟩)
  have th7_37_2 : fld h7 37 2 = fld h 37 2 := Qh7.f (a1 := 37) (a2 := 37) (j1 := 2) (j2 := 3) (by decide +kernel) (by first | decide | exact ⟨by decide, by decide⟩) (by first | decide | exact ⟨by decide, by decide⟩) (by first | decide | exact ⟨by decide, by decide⟩)
  have th7_1_0 : fld h7 1 0 = fld h 1 0 := Qh7.f (a1 := 1) (a2 := 1) (j1 := 0) (j2 := 1) (by decide +kernel) (by first | decide | exact ⟨by decide, by decide⟩) (by first | decide | exact ⟨by decide, by decide⟩) (by first | decide | exact ⟨by decide, by decide⟩)
  have th7_37_0 : fld h7 37 0 = fld h 37 0 := Qh7.f (a1 := 37) (a2 := 37) (j1 := 0) (j2 := 1) (by decide +kernel) (by first | decide | exact ⟨by decide, by decide⟩) (by first | decide | exact ⟨by decide, by decide⟩) (by first | decide | exact ⟨by decide, by decide⟩)
  have th7_27_0 : fld h7 27 0 = fld h 27 0 := Qh7.f (a1 := 27) (a2 := 27) (j1 := 0) (j2 := 1) (by decide +kernel) (by first | decide | exact ⟨by decide, by decide⟩) (by first | decide | exact ⟨by decide, by decide⟩) (by first | decide | exact ⟨by decide, by decide⟩)
  have th7_37_96 : fld h7 37 96 = fld h 37 96 := Qh7.f (a1 := 37) (a2 := 37) (j1 := 96) (j2 := 97) (by decide +kernel) (by first | decide | exact ⟨by decide, by decide⟩) (by first | decide | exact ⟨by decide, by decide⟩) (by first | decide | exact ⟨by decide, by decide⟩)
  have Ah7 : zAM h7 := A.sm (fun r hr => Qh7.same (by decide +kernel) hr)
  have Wh7 : zCW h7 := W.sm C.1 (fun r hr => Qh7.same (by decide +kernel) hr)
  refine zwW_p [(15, 0, 0), (1, 2, 2), (1, 0, 2), (1, 3, 0), (0, 1, 0)] (q := 287) (ls' := [(2, -1), (2, 1), (2, 37), (0, i)]) (st' := [(0, 1), (0, i), (2, -1), (2, 37)]) (by decide +kernel) rfl ?_
  refine zwW_add (nx := 288) (by decide +kernel) (by first | omega | exact ⟨by omega, by omega⟩) ?_
  refine zwW_sld (nx := 289) (by decide +kernel) (by omega) (by omega) ?_
  rw [← ev1]
  refine zwW_p [(1, 0, 2), (1, 3, 0), (0, 2, 0)] (q := 292) (ls' := [(2, -1), (2, 1), (2, 37), (0, i)]) (st' := [(0, 2), (0, i), (2, -1), (0, v1), (2, 37)]) (by decide +kernel) rfl ?_
  refine zwW_add (nx := 293) (by decide +kernel) (by first | omega | exact ⟨by omega, by omega⟩) ?_
  refine zwW_sld (nx := 294) (by decide +kernel) (by omega) (by omega) ?_
  rw [← ev2]
  refine zwW_p [(1, 0, 2), (1, 3, 0), (0, 3, 0)] (q := 297) (ls' := [(2, -1), (2, 1), (2, 37), (0, i)]) (st' := [(0, 3), (0, i), (2, -1), (0, v2), (0, v1), (2, 37)]) (by decide +kernel) rfl ?_
  refine zwW_add (nx := 298) (by decide +kernel) (by first | omega | exact ⟨by omega, by omega⟩) ?_
  refine zwW_sld (nx := 299) (by decide +kernel) (by omega) (by omega) ?_
  rw [← ev3]
  refine zwW_cm Ch7.1 (op := 60) (k' := 6) (n := 3) (kd := 13) (m := 97) (nx := 302) (r := 37) (tl := [(0, v1), (0, v2), (0, v3)]) (st' := []) (by decide +kernel) rfl (by decide +kernel) rfl (m6 h7 Ch7.1 v1 v2 v3) ?_
  rintro v9 h8 ⟨Ih8, Qh8, f10, f11⟩
  obtain ⟨Ch8, Zh8⟩ := Ch7.m Ih8 Qh8 (by decide +kernel)
  have Xh8 : zXR msxL (0) (0) h h8 := Xh7.tr (c2 := 0) (s2 := 0) Zh8 (by decide +kernel) (by decide) (by decide)
  have th8_2_2 : fld h8 2 2 = fld h7 2 2 := Zh8.f (a1 := 2) (a2 := 2) (j1 := 2) (j2 := 3) (by decide +kernel) (by first | decide | exact ⟨by decide, by decide⟩) (by first | decide | exact ⟨by decide, by decide⟩) (by first | decide | exact ⟨by decide, by decide⟩)
  have th8_37_1 : fld h8 37 1 = fld h7 37 1 := Zh8.f (a1 := 37) (a2 := 37) (j1 := 1) (j2 := 2) (by decide +kernel) (by first | decide | exact ⟨by decide, by decide⟩) (by first | decide | exact ⟨by decide, by decide⟩) (by first | decide | exact ⟨by decide, by decide⟩)
  have th8_3_2 : fld h8 3 2 = fld h7 3 2 := Zh8.f (a1 := 3) (a2 := 3) (j1 := 2) (j2 := 3) (by decide +kernel) (by first | decide | exact ⟨by decide, by decide⟩) (by first | decide | exact ⟨by decide, by decide⟩) (by first | decide | exact ⟨by decide, by decide⟩)
  have th8_37_2 : fld h8 37 2 = fld h7 37 2 := Zh8.f (a1 := 37) (a2 := 37) (j1 := 2) (j2 := 3) (by decide +kernel) (by first | decide | exact ⟨by decide, by decide⟩) (by first | decide | exact ⟨by decide, by decide⟩) (by first | decide | exact ⟨by decide, by decide⟩)
  have th8_1_0 : fld h8 1 0 = fld h7 1 0 := Zh8.f (a1 := 1) (a2 := 1) (j1 := 0) (j2 := 1) (by decide +kernel) (by first | decide | exact ⟨by decide, by decide⟩) (by first | decide | exact ⟨by decide, by decide⟩) (by first | decide | exact ⟨by decide, by decide⟩)
  have th8_37_0 : fld h8 37 0 = fld h7 37 0 := Zh8.f (a1 := 37) (a2 := 37) (j1 := 0) (j2 := 1) (by decide +kernel) (by first | decide | exact ⟨by decide, by decide⟩) (by first | decide | exact ⟨by decide, by decide⟩) (by first | decide | exact ⟨by decide, by decide⟩)
  have th8_27_0 : fld h8 27 0 = fld h7 27 0 := Zh8.f (a1 := 27) (a2 := 27) (j1 := 0) (j2 := 1) (by decide +kernel) (by first | decide | exact ⟨by decide, by decide⟩) (by first | decide | exact ⟨by decide, by decide⟩) (by first | decide | exact ⟨by decide, by decide⟩)
  have th8_37_96 : fld h8 37 96 = fld h7 37 96 := Zh8.f (a1 := 37) (a2 := 37) (j1 := 96) (j2 := 97) (by decide +kernel) (by first | decide | exact ⟨by decide, by decide⟩) (by first | decide | exact ⟨by decide, by decide⟩) (by first | decide | exact ⟨by decide, by decide⟩)
  have Ah8 : zAM h8 := Ah7.mr Qh8 (by decide +kernel) (Ch7.1.b (a1 := 37) (a2 := 37) (j1 := 2) (j2 := 3) (lo := 0) (hi := 20) (by decide +kernel) (by decide) (by decide) (by decide) (by decide)).2
  have Wh8 : zCW h8 := Wh7.mr Ch7.1 Qh8 (by decide +kernel)
  have KEh8 : zE h8 ∧ v6 = v9 := by
    rcases f5 with ⟨xC0, xC1, xC2⟩ | ⟨xN0, xN1, xN2⟩
    · rcases f11 with ⟨mC0, mC1, mC2⟩ | ⟨mN0, mN1, mN2⟩
      · have TT : zXR [(7, 7, 0, 64), (8, 8, 0, 64), (48, 55, 0, 8)] (0) (0) h h8 := (Qh7.mono (ms' := [(7, 7, 0, 64), (8, 8, 0, 64), (48, 55, 0, 8)]) (by decide +kernel)).tr (c2 := 0) (s2 := 0) Zh8 (by decide +kernel) (by decide) (by decide)
        exact ⟨⟨zQS.st (T := []) TT E.1 (by decide +kernel) zQS.nil, zNM.st (T := []) TT C E.2.1 (by decide +kernel) zNM.nil, zFL.st (T := []) TT C E.2.2.1 (by decide +kernel) zFL.nil, zZL.st (T := []) TT E.2.2.2.1 (by decide +kernel) zZL.nil, zRL.st (T := []) TT C E.2.2.2.2.1 (by decide +kernel) zRL.nil, zRO.rd E.2.2.2.2.2 Qh7 Zh8 (by decide +kernel) (by decide +kernel) xC2.1 xC2.2.1 xC2.2.2 mC2 (by omega) (by omega) (by omega)⟩, by omega⟩
      · exfalso; omega
    · rcases f11 with ⟨mC0, mC1, mC2⟩ | ⟨mN0, mN1, mN2⟩
      · exfalso; omega
      · exact ⟨by rw [mN1, xN1]; exact E, by omega⟩
  obtain ⟨Eh8, kEh8⟩ := KEh8
  refine zwW_p [(15, 0, 0), (24, 1605, 0)] (q := 1605) (ls' := [(2, -1), (2, 1), (2, 37), (0, i)]) (st' := []) (by decide +kernel) rfl ?_
  exact k _ ⟨Ch8, Ah8, Wh8, Eh8, _, Xh8.le (by decide) (by decide)⟩
theorem zl_306 {sc : List Int} {Q : Option Vl → Hp → Prop} (h : Hp) (C : CI h) (A : zAM h) (W : zCW h) (E : zE h) (hl : h.length ≤ 800000) (hin : ∀ x ∈ sc, in32 x) (i : Int) (hi : 0 ≤ i ∧ i + 6 ≤ sc.length) (hs : sc.length ≤ 3072) (k : ∀ g, zLJ h g → zwW sc 400 0 1605 [(2, -1), (2, 1), (2, 37), (0, i)] [] g Q) : zwW sc 400 0 306 [(2, -1), (2, 1), (2, 37), (0, i)] [] h Q := by
  have X : zXR msxL 0 0 h h := zXR.rf _ _
  have E2_2 := zE_s2_2 E
  have E3_2 := zE_s3_2 E
  have E1_0 := zE_s1_0 E
  have E27_0 := zE_s27_0 E
  refine zwW_p [(1, 1, 2), (1, 0, 2), (1, 3, 0), (0, 1, 0)] (q := 310) (ls' := [(2, -1), (2, 1), (2, 37), (0, i)]) (st' := [(0, 1), (0, i), (2, -1), (2, 1)]) (by decide +kernel) rfl ?_
  refine zwW_add (nx := 311) (by decide +kernel) (by first | omega | exact ⟨by omega, by omega⟩) ?_
  refine zwW_sld (nx := 312) (by decide +kernel) (by omega) (by omega) ?_
  obtain ⟨v1, ev1⟩ : ∃ z, z = sc.getD (i + 1).toNat 0 := ⟨_, rfl⟩
  rw [← ev1]
  have qv1 : -2147483648 ≤ v1 ∧ v1 ≤ 2147483647 := by rw [ev1]; exact zgetD hin _
  refine zwW_p [(1, 0, 2), (1, 3, 0), (0, 2, 0)] (q := 315) (ls' := [(2, -1), (2, 1), (2, 37), (0, i)]) (st' := [(0, 2), (0, i), (2, -1), (0, v1), (2, 1)]) (by decide +kernel) rfl ?_
  refine zwW_add (nx := 316) (by decide +kernel) (by first | omega | exact ⟨by omega, by omega⟩) ?_
  refine zwW_sld (nx := 317) (by decide +kernel) (by omega) (by omega) ?_
  obtain ⟨v2, ev2⟩ : ∃ z, z = sc.getD (i + 2).toNat 0 := ⟨_, rfl⟩
  rw [← ev2]
  have qv2 : -2147483648 ≤ v2 ∧ v2 ≤ 2147483647 := by rw [ev2]; exact zgetD hin _
  refine zwW_cm C.1 (op := 60) (k' := 7) (n := 2) (kd := 12) (m := 13) (nx := 320) (r := 1) (tl := [(0, v1), (0, v2)]) (st' := []) (by decide +kernel) rfl (by decide +kernel) rfl (x7 h C v1 v2 (by omega) (by omega) (zE_n2 E)) ?_
  rintro v3 _ ⟨rfl, f4, f5⟩
  refine zwW_p [(15, 0, 0), (1, 2, 2), (1, 0, 2), (1, 3, 0), (0, 1, 0)] (q := 325) (ls' := [(2, -1), (2, 1), (2, 37), (0, i)]) (st' := [(0, 1), (0, i), (2, -1), (2, 37)]) (by decide +kernel) rfl ?_
  refine zwW_add (nx := 326) (by decide +kernel) (by first | omega | exact ⟨by omega, by omega⟩) ?_
  refine zwW_sld (nx := 327) (by decide +kernel) (by omega) (by omega) ?_
  rw [← ev1]
  refine zwW_p [(1, 0, 2), (1, 3, 0), (0, 2, 0)] (q := 330) (ls' := [(2, -1), (2, 1), (2, 37), (0, i)]) (st' := [(0, 2), (0, i), (2, -1), (0, v1), (2, 37)]) (by decide +kernel) rfl ?_
  refine zwW_add (nx := 331) (by decide +kernel) (by first | omega | exact ⟨by omega, by omega⟩) ?_
  refine zwW_sld (nx := 332) (by decide +kernel) (by omega) (by omega) ?_
  rw [← ev2]
  refine zwW_cm C.1 (op := 60) (k' := 8) (n := 2) (kd := 13) (m := 97) (nx := 335) (r := 37) (tl := [(0, v1), (0, v2)]) (st' := []) (by decide +kernel) rfl (by decide +kernel) rfl (m8_f h C.1 v1 v2 E.2.2.2.2.2) ?_
  rintro v7 h6 ⟨Ih6, Qh6, f8, f9⟩
  obtain ⟨Ch6, Zh6⟩ := C.m Ih6 Qh6 (by decide +kernel)
  have Xh6 : zXR msxL (0) (0) h h6 := X.tr (c2 := 0) (s2 := 0) Zh6 (by decide +kernel) (by decide) (by decide)
  have th6_2_2 : fld h6 2 2 = fld h 2 2 := Zh6.f (a1 := 2) (a2 := 2) (j1 := 2) (j2 := 3) (by decide +kernel) (by first | decide | exact ⟨by decide, by decide⟩) (by first | decide | exact ⟨by decide, by decide⟩) (by first | decide | exact ⟨by decide, by decide⟩)
  have th6_37_1 : fld h6 37 1 = fld h 37 1 := Zh6.f (a1 := 37) (a2 := 37) (j1 := 1) (j2 := 2) (by decide +kernel) (by first | decide | exact ⟨by decide, by decide⟩) (by first | decide | exact ⟨by decide, by decide⟩) (by first | decide | exact ⟨by decide, by decide⟩)
  have th6_3_2 : fld h6 3 2 = fld h 3 2 := Zh6.f (a1 := 3) (a2 := 3) (j1 := 2) (j2 := 3) (by decide +kernel) (by first | decide | exact ⟨by decide, by decide⟩) (by first | decide | exact ⟨by decide, by decide⟩) (by first | decide | exact ⟨by decide, by decide⟩)
  have th6_37_2 : fld h6 37 2 = fld h 37 2 := Zh6.f (a1 := 37) (a2 := 37) (j1 := 2) (j2 := 3) (by decide +kernel) (by first | decide | exact ⟨by decide, by decide⟩) (by first | decide | exact ⟨by decide, by decide⟩) (by first | decide | exact ⟨by decide, by decide⟩)
  have th6_1_0 : fld h6 1 0 = fld h 1 0 := Zh6.f (a1 := 1) (a2 := 1) (j1 := 0) (j2 := 1) (by decide +kernel) (by first | decide | exact ⟨by decide, by decide⟩) (by first | decide | exact ⟨by decide, by decide⟩) (by first | decide | exact ⟨by decide, by decide⟩)
  have th6_37_0 : fld h6 37 0 = fld h 37 0 := Zh6.f (a1 := 37) (a2 := 37) (j1 := 0) (j2 := 1) (by decide +kernel) (by first | decide | exact ⟨by decide, by decide⟩) (by first | decide | exact ⟨by decide, by decide⟩) (by first | decide | exact ⟨by decide, by decide⟩)
  have th6_27_0 : fld h6 27 0 = fld h 27 0 := Zh6.f (a1 := 27) (a2 := 27) (j1 := 0) (j2 := 1) (by decide +kernel) (by first | decide | exact ⟨by decide, by decide⟩) (by first | decide | exact ⟨by decide, by decide⟩) (by first | decide | exact ⟨by decide, by decide⟩)
  have th6_37_96 : fld h6 37 96 = fld h 37 96 := Zh6.f (a1 := 37) (a2 := 37) (j1 := 96) (j2 := 97) (by decide +kernel) (by first | decide | exact ⟨by decide, by decide⟩) (by first | decide | exact ⟨by decide, by decide⟩) (by first | decide | exact ⟨by decide, by decide⟩)
  have Ah6 : zAM h6 := A.mr Qh6 (by decide +kernel) (C.1.b (a1 := 37) (a2 := 37) (j1 := 2) (j2 := 3) (lo := 0) (hi := 20) (by decide +kernel) (by decide) (by decide) (by decide) (by decide)).2
  have Wh6 : zCW h6 := W.mr C.1 Qh6 (by decide +kernel)
  have TT := Zh6
  have Eh6 : zE h6 := ⟨zQS.st (T := []) TT E.1 (by decide +kernel) zQS.nil, zNM.st (T := []) TT C E.2.1 (by decide +kernel) zNM.nil, zFL.st (T := []) TT C E.2.2.1 (by decide +kernel) zFL.nil, zZL.st (T := []) TT E.2.2.2.1 (by decide +kernel) zZL.nil, zRL.st (T := []) TT C E.2.2.2.2.1 (by decide +kernel) zRL.nil, E.2.2.2.2.2.kp TT (by decide +kernel) (by omega)⟩
  refine zwW_p [(15, 0, 0), (24, 1605, 0)] (q := 1605) (ls' := [(2, -1), (2, 1), (2, 37), (0, i)]) (st' := []) (by decide +kernel) rfl ?_
  exact k _ ⟨Ch6, Ah6, Wh6, Eh6, _, Xh6.le (by decide) (by decide)⟩
theorem zl_339 {sc : List Int} {Q : Option Vl → Hp → Prop} (h : Hp) (C : CI h) (A : zAM h) (W : zCW h) (E : zE h) (hl : h.length ≤ 800000) (hin : ∀ x ∈ sc, in32 x) (i : Int) (hi : 0 ≤ i ∧ i + 6 ≤ sc.length) (hs : sc.length ≤ 3072) (k : ∀ g, zLJ h g → zwW sc 400 0 1605 [(2, -1), (2, 1), (2, 37), (0, i)] [] g Q) : zwW sc 400 0 339 [(2, -1), (2, 1), (2, 37), (0, i)] [] h Q := by
  have X : zXR msxL 0 0 h h := zXR.rf _ _
  have E2_2 := zE_s2_2 E
  have E3_2 := zE_s3_2 E
  have E1_0 := zE_s1_0 E
  have E27_0 := zE_s27_0 E
  refine zwW_p [(1, 1, 2), (1, 0, 2), (1, 3, 0), (0, 1, 0)] (q := 343) (ls' := [(2, -1), (2, 1), (2, 37), (0, i)]) (st' := [(0, 1), (0, i), (2, -1), (2, 1)]) (by decide +kernel) rfl ?_
  refine zwW_add (nx := 344) (by decide +kernel) (by first | omega | exact ⟨by omega, by omega⟩) ?_
  refine zwW_sld (nx := 345) (by decide +kernel) (by omega) (by omega) ?_
  obtain ⟨v1, ev1⟩ : ∃ z, z = sc.getD (i + 1).toNat 0 := ⟨_, rfl⟩
  rw [← ev1]
  have qv1 : -2147483648 ≤ v1 ∧ v1 ≤ 2147483647 := by rw [ev1]; exact zgetD hin _
  refine zwW_p [(1, 0, 2), (1, 3, 0), (0, 2, 0)] (q := 348) (ls' := [(2, -1), (2, 1), (2, 37), (0, i)]) (st' := [(0, 2), (0, i), (2, -1), (0, v1), (2, 1)]) (by decide +kernel) rfl ?_
  refine zwW_add (nx := 349) (by decide +kernel) (by first | omega | exact ⟨by omega, by omega⟩) ?_
  refine zwW_sld (nx := 350) (by decide +kernel) (by omega) (by omega) ?_
  obtain ⟨v2, ev2⟩ : ∃ z, z = sc.getD (i + 2).toNat 0 := ⟨_, rfl⟩
  rw [← ev2]
  have qv2 : -2147483648 ≤ v2 ∧ v2 ≤ 2147483647 := by rw [ev2]; exact zgetD hin _
  refine zwW_cm C.1 (op := 60) (k' := 9) (n := 2) (kd := 12) (m := 13) (nx := 353) (r := 1) (tl := [(0, v1), (0, v2)]) (st' := []) (by decide +kernel) rfl (by decide +kernel) rfl (x9 h C v1 v2 (by omega) (by omega) (by omega)) ?_
  rintro v5 h6 ⟨Ch6, Qh6, f3, f4⟩
  have Xh6 : zXR msxL (2) (1019) h h6 := X.tr (c2 := 2) (s2 := 1019) Qh6 (by decide +kernel) (by decide) (by decide)
  have th6_2_2 : fld h6 2 2 = fld h 2 2 := Qh6.f (a1 := 2) (a2 := 2) (j1 := 2) (j2 := 3) (by decide +kernel) (by first | decide | exact ⟨by decide, by decide⟩) (by first | decide | exact ⟨by decide, by decide⟩) (by first | decide | exact ⟨by decide, by decide⟩)
  have th6_37_1 : fld h6 37 1 = fld h 37 1 := Qh6.f (a1 := 37) (a2 := 37) (j1 := 1) (j2 := 2) (by decide +kernel) (by first | decide | exact ⟨by decide, by decide⟩) (by first | decide | exact ⟨by decide, by decide⟩) (by first | decide | exact ⟨by decide, by decide⟩)
  have th6_37_2 : fld h6 37 2 = fld h 37 2 := Qh6.f (a1 := 37) (a2 := 37) (j1 := 2) (j2 := 3) (by decide +kernel) (by first | decide | exact ⟨by decide, by decide⟩) (by first | decide | exact ⟨by decide, by decide⟩) (by first | decide | exact ⟨by decide, by decide⟩)
  have th6_1_0 : fld h6 1 0 = fld h 1 0 := Qh6.f (a1 := 1) (a2 := 1) (j1 := 0) (j2 := 1) (by decide +kernel) (by first | decide | exact ⟨by decide, by decide⟩) (by first | decide | exact ⟨by decide, by decide⟩) (by first | decide | exact ⟨by decide, by decide⟩)
  have th6_37_0 : fld h6 37 0 = fld h 37 0 := Qh6.f (a1 := 37) (a2 := 37) (j1 := 0) (j2 := 1) (by decide +kernel) (by first | decide | exact ⟨by decide, by decide⟩) (by first | decide | exact ⟨by decide, by decide⟩) (by first | decide | exact ⟨by decide, by decide⟩)
  have th6_27_0 : fld h6 27 0 = fld h 27 0 := Qh6.f (a1 := 27) (a2 := 27) (j1 := 0) (j2 := 1) (by decide +kernel) (by first | decide | exact ⟨by decide, by decide⟩) (by first | decide | exact ⟨by decide, by decide⟩) (by first | decide | exact ⟨by decide, by decide⟩)
  have th6_37_96 : fld h6 37 96 = fld h 37 96 := Qh6.f (a1 := 37) (a2 := 37) (j1 := 96) (j2 := 97) (by decide +kernel) (by first | decide | exact ⟨by decide, by decide⟩) (by first | decide | exact ⟨by decide, by decide⟩) (by first | decide | exact ⟨by decide, by decide⟩)
  have Ah6 : zAM h6 := A.sm (fun r hr => Qh6.same (by decide +kernel) hr)
  have Wh6 : zCW h6 := W.sm C.1 (fun r hr => Qh6.same (by decide +kernel) hr)
  refine zwW_p [(15, 0, 0), (1, 2, 2), (1, 0, 2), (1, 3, 0), (0, 1, 0)] (q := 358) (ls' := [(2, -1), (2, 1), (2, 37), (0, i)]) (st' := [(0, 1), (0, i), (2, -1), (2, 37)]) (by decide +kernel) rfl ?_
  refine zwW_add (nx := 359) (by decide +kernel) (by first | omega | exact ⟨by omega, by omega⟩) ?_
  refine zwW_sld (nx := 360) (by decide +kernel) (by omega) (by omega) ?_
  rw [← ev1]
  refine zwW_p [(1, 0, 2), (1, 3, 0), (0, 2, 0)] (q := 363) (ls' := [(2, -1), (2, 1), (2, 37), (0, i)]) (st' := [(0, 2), (0, i), (2, -1), (0, v1), (2, 37)]) (by decide +kernel) rfl ?_
  refine zwW_add (nx := 364) (by decide +kernel) (by first | omega | exact ⟨by omega, by omega⟩) ?_
  refine zwW_sld (nx := 365) (by decide +kernel) (by omega) (by omega) ?_
  rw [← ev2]
  refine zwW_cm Ch6.1 (op := 60) (k' := 10) (n := 2) (kd := 13) (m := 97) (nx := 368) (r := 37) (tl := [(0, v1), (0, v2)]) (st' := []) (by decide +kernel) rfl (by decide +kernel) rfl (m10 h6 Ch6.1 v1 v2 (by omega) Ah6) ?_
  rintro v8 h7 ⟨Ih7, Qh7, f9, f10, f11⟩
  obtain ⟨Ch7, Zh7⟩ := Ch6.m Ih7 Qh7 (by decide +kernel)
  have Xh7 : zXR msxL (2) (1019) h h7 := Xh6.tr (c2 := 2) (s2 := 1019) Zh7 (by decide +kernel) (by decide) (by decide)
  have th7_2_2 : fld h7 2 2 = fld h6 2 2 := Zh7.f (a1 := 2) (a2 := 2) (j1 := 2) (j2 := 3) (by decide +kernel) (by first | decide | exact ⟨by decide, by decide⟩) (by first | decide | exact ⟨by decide, by decide⟩) (by first | decide | exact ⟨by decide, by decide⟩)
  have th7_37_1 : fld h7 37 1 = fld h6 37 1 := Zh7.f (a1 := 37) (a2 := 37) (j1 := 1) (j2 := 2) (by decide +kernel) (by first | decide | exact ⟨by decide, by decide⟩) (by first | decide | exact ⟨by decide, by decide⟩) (by first | decide | exact ⟨by decide, by decide⟩)
  have th7_3_2 : fld h7 3 2 = fld h6 3 2 := Zh7.f (a1 := 3) (a2 := 3) (j1 := 2) (j2 := 3) (by decide +kernel) (by first | decide | exact ⟨by decide, by decide⟩) (by first | decide | exact ⟨by decide, by decide⟩) (by first | decide | exact ⟨by decide, by decide⟩)
  have th7_1_0 : fld h7 1 0 = fld h6 1 0 := Zh7.f (a1 := 1) (a2 := 1) (j1 := 0) (j2 := 1) (by decide +kernel) (by first | decide | exact ⟨by decide, by decide⟩) (by first | decide | exact ⟨by decide, by decide⟩) (by first | decide | exact ⟨by decide, by decide⟩)
  have th7_37_0 : fld h7 37 0 = fld h6 37 0 := Zh7.f (a1 := 37) (a2 := 37) (j1 := 0) (j2 := 1) (by decide +kernel) (by first | decide | exact ⟨by decide, by decide⟩) (by first | decide | exact ⟨by decide, by decide⟩) (by first | decide | exact ⟨by decide, by decide⟩)
  have th7_27_0 : fld h7 27 0 = fld h6 27 0 := Zh7.f (a1 := 27) (a2 := 27) (j1 := 0) (j2 := 1) (by decide +kernel) (by first | decide | exact ⟨by decide, by decide⟩) (by first | decide | exact ⟨by decide, by decide⟩) (by first | decide | exact ⟨by decide, by decide⟩)
  have th7_37_96 : fld h7 37 96 = fld h6 37 96 := Zh7.f (a1 := 37) (a2 := 37) (j1 := 96) (j2 := 97) (by decide +kernel) (by first | decide | exact ⟨by decide, by decide⟩) (by first | decide | exact ⟨by decide, by decide⟩) (by first | decide | exact ⟨by decide, by decide⟩)
  have Wh7 : zCW h7 := Wh6.mr Ch6.1 Qh7 (by decide +kernel)
  have KEh7 : zE h7 ∧ v5 = v8 := by
    rcases f4 with ⟨xC0, xC1, xC2, xC3⟩ | ⟨xN0, xN1, xN2⟩
    · rcases f10 with ⟨mC0, mC1, mC2, mC3, mC4, mC5, mC6, mC7, mC8⟩ | ⟨mN0, mN1, mN2⟩
      · obtain ⟨rr, r1, r2, r3, r4⟩ := xC3
        have D : zAd 3 h h6 rr := ⟨xC1, r1, r2, r3⟩
        have bb := zLb_3 C
        have TT : zXR [(3, 3, 0, 3), (37, 37, 2, 3), (79, 79, 0, 20), (80, 80, 0, 20), (81, 81, 0, 20), (82, 82, 0, 20), (83, 83, 0, 20), (85, 85, 0, 20)] (2) (1019) h h7 := (Qh6.mono (ms' := [(3, 3, 0, 3), (37, 37, 2, 3), (79, 79, 0, 20), (80, 80, 0, 20), (81, 81, 0, 20), (82, 82, 0, 20), (83, 83, 0, 20), (85, 85, 0, 20)]) (by decide +kernel)).tr (c2 := 2) (s2 := 1019) Zh7 (by decide +kernel) (by decide) (by decide)
        exact ⟨⟨zQS.st (T := [(3, 2, 37, 2)]) TT E.1 (by decide +kernel) (zQS.cons (show fld h7 3 2 = fld h7 37 2 by omega) zQS.nil), zNM.st (T := [3]) TT C E.2.1 (by decide +kernel) (zNM.cons (zNM.ad (A := 3) C Ch6 Qh6 Zh7 D (zE_n3 E) (by decide +kernel) (by decide +kernel) (r4 0)) zNM.nil), zFL.st (T := [(3, 2, 80), (3, 3, 81), (3, 4, 82), (3, 5, 83), (3, 7, 85), (3, 11, 89), (3, 12, 90), (3, 13, 91)]) TT C E.2.2.1 (by decide +kernel) (zFL.cons (zF1.ad (A := 3) (j := 2) (a := 80) (k := (fld h6 37 2).toNat) C Ch6 Qh6 Zh7 D (zE_f3_2 E) (by decide +kernel) (by decide +kernel) (r4 2) mC4 (show (((fld h6 37 2).toNat : Nat) : Int) = fld h 3 2 by omega) rfl) (zFL.cons (zF1.ad (A := 3) (j := 3) (a := 81) (k := (fld h6 37 2).toNat) C Ch6 Qh6 Zh7 D (zE_f3_3 E) (by decide +kernel) (by decide +kernel) (r4 3) mC5 (show (((fld h6 37 2).toNat : Nat) : Int) = fld h 3 2 by omega) rfl) (zFL.cons (zF1.ad (A := 3) (j := 4) (a := 82) (k := (fld h6 37 2).toNat) C Ch6 Qh6 Zh7 D (zE_f3_4 E) (by decide +kernel) (by decide +kernel) (r4 4) mC6 (show (((fld h6 37 2).toNat : Nat) : Int) = fld h 3 2 by omega) rfl) (zFL.cons (zF1.ad (A := 3) (j := 5) (a := 83) (k := (fld h6 37 2).toNat) C Ch6 Qh6 Zh7 D (zE_f3_5 E) (by decide +kernel) (by decide +kernel) (r4 5) mC7 (show (((fld h6 37 2).toNat : Nat) : Int) = fld h 3 2 by omega) rfl) (zFL.cons (zF1.ad (A := 3) (j := 7) (a := 85) (k := (fld h6 37 2).toNat) C Ch6 Qh6 Zh7 D (zE_f3_7 E) (by decide +kernel) (by decide +kernel) (r4 7) mC8 (show (((fld h6 37 2).toNat : Nat) : Int) = fld h 3 2 by omega) rfl) (zFL.cons (zF1.ad0 (A := 3) (j := 11) (a := 89) C Ch6 Qh6 Zh7 D (zE_f3_11 E) (zE_z3_89 E) (by decide +kernel) (by decide +kernel) (r4 11)) (zFL.cons (zF1.ad0 (A := 3) (j := 12) (a := 90) C Ch6 Qh6 Zh7 D (zE_f3_12 E) (zE_z3_90 E) (by decide +kernel) (by decide +kernel) (r4 12)) (zFL.cons (zF1.ad0 (A := 3) (j := 13) (a := 91) C Ch6 Qh6 Zh7 D (zE_f3_13 E) (zE_z3_91 E) (by decide +kernel) (by decide +kernel) (r4 13)) zFL.nil)))))))), zZL.st (T := [(3, 89), (3, 90), (3, 91)]) TT E.2.2.2.1 (by decide +kernel) (zZL.cons (zZ1.ad (A := 3) (a := 89) C Qh6 Zh7 D (zE_z3_89 E) (by decide +kernel) (by decide +kernel)) (zZL.cons (zZ1.ad (A := 3) (a := 90) C Qh6 Zh7 D (zE_z3_90 E) (by decide +kernel) (by decide +kernel)) (zZL.cons (zZ1.ad (A := 3) (a := 91) C Qh6 Zh7 D (zE_z3_91 E) (by decide +kernel) (by decide +kernel)) zZL.nil))), zRL.st (T := [(3, 1, 2, 79)]) TT C E.2.2.2.2.1 (by decide +kernel) (zRL.cons (zR1.ad (A := 3) (j := 1) (B := 2) (a := 79) (k := (fld h6 37 2).toNat) (x := (v1).toNat) C Ch6 Qh6 Zh7 D (zE_r3_1 E) (by decide +kernel) (by decide +kernel) (show (((v1).toNat : Nat) : Int) < fld h 2 2 by omega) (r4 1) (fun i => (by rw [show (((v1).toNat : Nat) : Int) = v1 by omega]; exact mC3 i)) (show (((fld h6 37 2).toNat : Nat) : Int) = fld h 3 2 by omega)) zRL.nil), E.2.2.2.2.2.kp TT (by decide +kernel) (by omega)⟩, by omega⟩
      · exfalso; omega
    · rcases f10 with ⟨mC0, mC1, mC2, mC3, mC4, mC5, mC6, mC7, mC8⟩ | ⟨mN0, mN1, mN2⟩
      · exfalso; omega
      · exact ⟨by rw [mN1, xN1]; exact E, by omega⟩
  obtain ⟨Eh7, kEh7⟩ := KEh7
  refine zwW_p [(15, 0, 0), (24, 1605, 0)] (q := 1605) (ls' := [(2, -1), (2, 1), (2, 37), (0, i)]) (st' := []) (by decide +kernel) rfl ?_
  exact k _ ⟨Ch7, f11, Wh7, Eh7, _, Xh7.le (by decide) (by decide)⟩
theorem zl_372 {sc : List Int} {Q : Option Vl → Hp → Prop} (h : Hp) (C : CI h) (A : zAM h) (W : zCW h) (E : zE h) (hl : h.length ≤ 800000) (hin : ∀ x ∈ sc, in32 x) (i : Int) (hi : 0 ≤ i ∧ i + 6 ≤ sc.length) (hs : sc.length ≤ 3072) (k : ∀ g, zLJ h g → zwW sc 400 0 1605 [(2, -1), (2, 1), (2, 37), (0, i)] [] g Q) : zwW sc 400 0 372 [(2, -1), (2, 1), (2, 37), (0, i)] [] h Q := by
  have X : zXR msxL 0 0 h h := zXR.rf _ _
  have E2_2 := zE_s2_2 E
  have E3_2 := zE_s3_2 E
  have E1_0 := zE_s1_0 E
  have E27_0 := zE_s27_0 E
  refine zwW_p [(1, 1, 2), (1, 0, 2), (1, 3, 0), (0, 1, 0)] (q := 376) (ls' := [(2, -1), (2, 1), (2, 37), (0, i)]) (st' := [(0, 1), (0, i), (2, -1), (2, 1)]) (by decide +kernel) rfl ?_
  refine zwW_add (nx := 377) (by decide +kernel) (by first | omega | exact ⟨by omega, by omega⟩) ?_
  refine zwW_sld (nx := 378) (by decide +kernel) (by omega) (by omega) ?_
  obtain ⟨v1, ev1⟩ : ∃ z, z = sc.getD (i + 1).toNat 0 := ⟨_, rfl⟩
  rw [← ev1]
  have qv1 : -2147483648 ≤ v1 ∧ v1 ≤ 2147483647 := by rw [ev1]; exact zgetD hin _
  refine zwW_p [(1, 0, 2), (1, 3, 0), (0, 2, 0)] (q := 381) (ls' := [(2, -1), (2, 1), (2, 37), (0, i)]) (st' := [(0, 2), (0, i), (2, -1), (0, v1), (2, 1)]) (by decide +kernel) rfl ?_
  refine zwW_add (nx := 382) (by decide +kernel) (by first | omega | exact ⟨by omega, by omega⟩) ?_
  refine zwW_sld (nx := 383) (by decide +kernel) (by omega) (by omega) ?_
  obtain ⟨v2, ev2⟩ : ∃ z, z = sc.getD (i + 2).toNat 0 := ⟨_, rfl⟩
  rw [← ev2]
  have qv2 : -2147483648 ≤ v2 ∧ v2 ≤ 2147483647 := by rw [ev2]; exact zgetD hin _
  refine zwW_p [(1, 0, 2), (1, 3, 0), (0, 3, 0)] (q := 386) (ls' := [(2, -1), (2, 1), (2, 37), (0, i)]) (st' := [(0, 3), (0, i), (2, -1), (0, v2), (0, v1), (2, 1)]) (by decide +kernel) rfl ?_
  refine zwW_add (nx := 387) (by decide +kernel) (by first | omega | exact ⟨by omega, by omega⟩) ?_
  refine zwW_sld (nx := 388) (by decide +kernel) (by omega) (by omega) ?_
  obtain ⟨v3, ev3⟩ : ∃ z, z = sc.getD (i + 3).toNat 0 := ⟨_, rfl⟩
  rw [← ev3]
  have qv3 : -2147483648 ≤ v3 ∧ v3 ≤ 2147483647 := by rw [ev3]; exact zgetD hin _
  refine zwW_cm C.1 (op := 60) (k' := 11) (n := 3) (kd := 12) (m := 13) (nx := 391) (r := 1) (tl := [(0, v1), (0, v2), (0, v3)]) (st' := []) (by decide +kernel) rfl (by decide +kernel) rfl (x11 h C v1 v2 v3 (by omega) (by omega) (by omega)) ?_
  rintro v6 h7 ⟨Ch7, Qh7, f4, f5⟩
  have Xh7 : zXR msxL (0) (0) h h7 := X.tr (c2 := 0) (s2 := 0) Qh7 (by decide +kernel) (by decide) (by decide)
  have th7_2_2 : fld h7 2 2 = fld h 2 2 := Qh7.f (a1 := 2) (a2 := 2) (j1 := 2) (j2 := 3) (by decide +kernel) (by first | decide | exact ⟨by decide, by decide⟩) (by first | decide | exact ⟨by decide, by decide⟩) (by first | decide | exact ⟨by decide, by decide⟩)
  have th7_37_1 : fld h7 37 1 = fld h 37 1 := Qh7.f (a1 := 37) (a2 := 37) (j1 := 1) (j2 := 2) (by decide +kernel) (by first | decide | exact ⟨by decide, by decide⟩) (by first | decide | exact ⟨by decide, by decide⟩) (by first | decide | exact ⟨by decide, by decide⟩)
  have th7_3_2 : fld h7 3 2 = fld h 3 2 := Qh7.f (a1 := 3) (a2 := 3) (j1 := 2) (j2 := 3) (by decide +kernel) (by first | decide | exact ⟨by decide, by decide⟩) (by first | decide | exact ⟨by decide, by decide⟩) (by first | decide | exact ⟨by decide, by decide⟩)
  have th7_37_2 : fld h7 37 2 = fld h 37 2 := Qh7.f (a1 := 37) (a2 := 37) (j1 := 2) (j2 := 3) (by decide +kernel) (by first | decide | exact ⟨by decide, by decide⟩) (by first | decide | exact ⟨by decide, by decide⟩) (by first | decide | exact ⟨by decide, by decide⟩)
  have th7_1_0 : fld h7 1 0 = fld h 1 0 := Qh7.f (a1 := 1) (a2 := 1) (j1 := 0) (j2 := 1) (by decide +kernel) (by first | decide | exact ⟨by decide, by decide⟩) (by first | decide | exact ⟨by decide, by decide⟩) (by first | decide | exact ⟨by decide, by decide⟩)
  have th7_37_0 : fld h7 37 0 = fld h 37 0 := Qh7.f (a1 := 37) (a2 := 37) (j1 := 0) (j2 := 1) (by decide +kernel) (by first | decide | exact ⟨by decide, by decide⟩) (by first | decide | exact ⟨by decide, by decide⟩) (by first | decide | exact ⟨by decide, by decide⟩)
  have th7_27_0 : fld h7 27 0 = fld h 27 0 := Qh7.f (a1 := 27) (a2 := 27) (j1 := 0) (j2 := 1) (by decide +kernel) (by first | decide | exact ⟨by decide, by decide⟩) (by first | decide | exact ⟨by decide, by decide⟩) (by first | decide | exact ⟨by decide, by decide⟩)
  have th7_37_96 : fld h7 37 96 = fld h 37 96 := Qh7.f (a1 := 37) (a2 := 37) (j1 := 96) (j2 := 97) (by decide +kernel) (by first | decide | exact ⟨by decide, by decide⟩) (by first | decide | exact ⟨by decide, by decide⟩) (by first | decide | exact ⟨by decide, by decide⟩)
  have Ah7 : zAM h7 := A.sm (fun r hr => Qh7.same (by decide +kernel) hr)
  have Wh7 : zCW h7 := W.sm C.1 (fun r hr => Qh7.same (by decide +kernel) hr)
  refine zwW_p [(15, 0, 0), (1, 2, 2), (1, 0, 2), (1, 3, 0), (0, 1, 0)] (q := 396) (ls' := [(2, -1), (2, 1), (2, 37), (0, i)]) (st' := [(0, 1), (0, i), (2, -1), (2, 37)]) (by decide +kernel) rfl ?_
  refine zwW_add (nx := 397) (by decide +kernel) (by first | omega | exact ⟨by omega, by omega⟩) ?_
  refine zwW_sld (nx := 398) (by decide +kernel) (by omega) (by omega) ?_
  rw [← ev1]
  refine zwW_p [(1, 0, 2), (1, 3, 0), (0, 2, 0)] (q := 401) (ls' := [(2, -1), (2, 1), (2, 37), (0, i)]) (st' := [(0, 2), (0, i), (2, -1), (0, v1), (2, 37)]) (by decide +kernel) rfl ?_
  refine zwW_add (nx := 402) (by decide +kernel) (by first | omega | exact ⟨by omega, by omega⟩) ?_
  refine zwW_sld (nx := 403) (by decide +kernel) (by omega) (by omega) ?_
  rw [← ev2]
  refine zwW_p [(1, 0, 2), (1, 3, 0), (0, 3, 0)] (q := 406) (ls' := [(2, -1), (2, 1), (2, 37), (0, i)]) (st' := [(0, 3), (0, i), (2, -1), (0, v2), (0, v1), (2, 37)]) (by decide +kernel) rfl ?_
  refine zwW_add (nx := 407) (by decide +kernel) (by first | omega | exact ⟨by omega, by omega⟩) ?_
  refine zwW_sld (nx := 408) (by decide +kernel) (by omega) (by omega) ?_
  rw [← ev3]
  refine zwW_cm Ch7.1 (op := 60) (k' := 12) (n := 3) (kd := 13) (m := 97) (nx := 411) (r := 37) (tl := [(0, v1), (0, v2), (0, v3)]) (st' := []) (by decide +kernel) rfl (by decide +kernel) rfl (m12 h7 Ch7.1 v1 v2 v3 (by omega)) ?_
  rintro v9 h8 ⟨Ih8, Qh8, f10, f11, f12⟩
  obtain ⟨Ch8, Zh8⟩ := Ch7.m Ih8 Qh8 (by decide +kernel)
  have Xh8 : zXR msxL (0) (0) h h8 := Xh7.tr (c2 := 0) (s2 := 0) Zh8 (by decide +kernel) (by decide) (by decide)
  have th8_2_2 : fld h8 2 2 = fld h7 2 2 := Zh8.f (a1 := 2) (a2 := 2) (j1 := 2) (j2 := 3) (by decide +kernel) (by first | decide | exact ⟨by decide, by decide⟩) (by first | decide | exact ⟨by decide, by decide⟩) (by first | decide | exact ⟨by decide, by decide⟩)
  have th8_37_1 : fld h8 37 1 = fld h7 37 1 := Zh8.f (a1 := 37) (a2 := 37) (j1 := 1) (j2 := 2) (by decide +kernel) (by first | decide | exact ⟨by decide, by decide⟩) (by first | decide | exact ⟨by decide, by decide⟩) (by first | decide | exact ⟨by decide, by decide⟩)
  have th8_3_2 : fld h8 3 2 = fld h7 3 2 := Zh8.f (a1 := 3) (a2 := 3) (j1 := 2) (j2 := 3) (by decide +kernel) (by first | decide | exact ⟨by decide, by decide⟩) (by first | decide | exact ⟨by decide, by decide⟩) (by first | decide | exact ⟨by decide, by decide⟩)
  have th8_37_2 : fld h8 37 2 = fld h7 37 2 := Zh8.f (a1 := 37) (a2 := 37) (j1 := 2) (j2 := 3) (by decide +kernel) (by first | decide | exact ⟨by decide, by decide⟩) (by first | decide | exact ⟨by decide, by decide⟩) (by first | decide | exact ⟨by decide, by decide⟩)
  have th8_1_0 : fld h8 1 0 = fld h7 1 0 := Zh8.f (a1 := 1) (a2 := 1) (j1 := 0) (j2 := 1) (by decide +kernel) (by first | decide | exact ⟨by decide, by decide⟩) (by first | decide | exact ⟨by decide, by decide⟩) (by first | decide | exact ⟨by decide, by decide⟩)
  have th8_37_0 : fld h8 37 0 = fld h7 37 0 := Zh8.f (a1 := 37) (a2 := 37) (j1 := 0) (j2 := 1) (by decide +kernel) (by first | decide | exact ⟨by decide, by decide⟩) (by first | decide | exact ⟨by decide, by decide⟩) (by first | decide | exact ⟨by decide, by decide⟩)
  have th8_27_0 : fld h8 27 0 = fld h7 27 0 := Zh8.f (a1 := 27) (a2 := 27) (j1 := 0) (j2 := 1) (by decide +kernel) (by first | decide | exact ⟨by decide, by decide⟩) (by first | decide | exact ⟨by decide, by decide⟩) (by first | decide | exact ⟨by decide, by decide⟩)
  have th8_37_96 : fld h8 37 96 = fld h7 37 96 := Zh8.f (a1 := 37) (a2 := 37) (j1 := 96) (j2 := 97) (by decide +kernel) (by first | decide | exact ⟨by decide, by decide⟩) (by first | decide | exact ⟨by decide, by decide⟩) (by first | decide | exact ⟨by decide, by decide⟩)
  have Ah8 : zAM h8 := Ah7.mr Qh8 (by decide +kernel) (Ch7.1.b (a1 := 37) (a2 := 37) (j1 := 2) (j2 := 3) (lo := 0) (hi := 20) (by decide +kernel) (by decide) (by decide) (by decide) (by decide)).2
  have Wh8 : zCW h8 := Wh7.mr Ch7.1 Qh8 (by decide +kernel)
  have w : 0 ≤ v1 → v1 < fld h 3 2 → fld h (fld h (fld h 3 1) (v1).toNat) 13 = fld h7 91 (v1).toNat := fun p q => ((zE_f3_13 E) (v1).toNat (show (((v1).toNat : Nat) : Int) < fld h 3 2 by omega)).trans (Qh7.a (a := 91) (n := 20) (i := (v1).toNat) (by decide +kernel) (by first | decide | exact ⟨by decide, by decide⟩) (by have := zLb_3 C; omega)).symm
  have KEh8 : zE h8 ∧ v6 = v9 := by
    rcases f5 with ⟨xC0, xC1, xC2, xC3, xC4⟩ | ⟨xN0, xN1, xN2⟩
    · rcases f12 with ⟨mC0, mC1, mC2, mC3, mC4⟩ | ⟨mN0, mN1, mN2⟩
      · have TT : zXR [(89, 89, 0, 20), (90, 90, 0, 20), (91, 91, 0, 20), (1004, 1004, 11, 12), (1004, 1004, 12, 13), (1004, 1004, 13, 14)] (0) (0) h h8 := (Qh7.mono (ms' := [(89, 89, 0, 20), (90, 90, 0, 20), (91, 91, 0, 20), (1004, 1004, 11, 12), (1004, 1004, 12, 13), (1004, 1004, 13, 14)]) (by decide +kernel)).tr (c2 := 0) (s2 := 0) Zh8 (by decide +kernel) (by decide) (by decide)
        exact ⟨⟨zQS.st (T := []) TT E.1 (by decide +kernel) zQS.nil, zNM.st (T := []) TT C E.2.1 (by decide +kernel) zNM.nil, zFL.st (T := [(3, 11, 89), (3, 12, 90), (3, 13, 91)]) TT C E.2.2.1 (by decide +kernel) (zFL.cons (zF1.up C Ch7 Qh7 Zh8 (zE_f3_11 E) E.2.1 (A := 3) (j := 11) (a := 89) (k := (v1).toNat) (L := zTN) (by decide +kernel) (by decide +kernel) (by decide +kernel) (show (((v1).toNat : Nat) : Int) < fld h 3 2 by omega) xC2 mC2 (by omega)) (zFL.cons (zF1.up C Ch7 Qh7 Zh8 (zE_f3_12 E) E.2.1 (A := 3) (j := 12) (a := 90) (k := (v1).toNat) (L := zTN) (by decide +kernel) (by decide +kernel) (by decide +kernel) (show (((v1).toNat : Nat) : Int) < fld h 3 2 by omega) xC3 mC3 (by omega)) (zFL.cons (zF1.up C Ch7 Qh7 Zh8 (zE_f3_13 E) E.2.1 (A := 3) (j := 13) (a := 91) (k := (v1).toNat) (L := zTN) (by decide +kernel) (by decide +kernel) (by decide +kernel) (show (((v1).toNat : Nat) : Int) < fld h 3 2 by omega) xC4 mC4 (by omega)) zFL.nil))), zZL.st (T := [(3, 89), (3, 90), (3, 91)]) TT E.2.2.2.1 (by decide +kernel) (zZL.cons (zZ1.up (A := 3) (a := 89) (k := (v1).toNat) Qh7 Zh8 (zE_z3_89 E) (by decide +kernel) (by decide +kernel) (show (((v1).toNat : Nat) : Int) < fld h 3 2 by omega) mC2) (zZL.cons (zZ1.up (A := 3) (a := 90) (k := (v1).toNat) Qh7 Zh8 (zE_z3_90 E) (by decide +kernel) (by decide +kernel) (show (((v1).toNat : Nat) : Int) < fld h 3 2 by omega) mC3) (zZL.cons (zZ1.up (A := 3) (a := 91) (k := (v1).toNat) Qh7 Zh8 (zE_z3_91 E) (by decide +kernel) (by decide +kernel) (show (((v1).toNat : Nat) : Int) < fld h 3 2 by omega) mC4) zZL.nil))), zRL.st (T := []) TT C E.2.2.2.2.1 (by decide +kernel) zRL.nil, E.2.2.2.2.2.kp TT (by decide +kernel) (by omega)⟩, by omega⟩
      · exfalso; omega
    · rcases f12 with ⟨mC0, mC1, mC2, mC3, mC4⟩ | ⟨mN0, mN1, mN2⟩
      · exfalso; omega
      · exact ⟨by rw [mN1, xN1]; exact E, by omega⟩
  obtain ⟨Eh8, kEh8⟩ := KEh8
  refine zwW_p [(15, 0, 0), (24, 1605, 0)] (q := 1605) (ls' := [(2, -1), (2, 1), (2, 37), (0, i)]) (st' := []) (by decide +kernel) rfl ?_
  exact k _ ⟨Ch8, Ah8, Wh8, Eh8, _, Xh8.le (by decide) (by decide)⟩
theorem zl_415 {sc : List Int} {Q : Option Vl → Hp → Prop} (h : Hp) (C : CI h) (A : zAM h) (W : zCW h) (E : zE h) (hl : h.length ≤ 800000) (hin : ∀ x ∈ sc, in32 x) (i : Int) (hi : 0 ≤ i ∧ i + 6 ≤ sc.length) (hs : sc.length ≤ 3072) (k : ∀ g, zLJ h g → zwW sc 400 0 1605 [(2, -1), (2, 1), (2, 37), (0, i)] [] g Q) : zwW sc 400 0 415 [(2, -1), (2, 1), (2, 37), (0, i)] [] h Q := by
  have X : zXR msxL 0 0 h h := zXR.rf _ _
  have E2_2 := zE_s2_2 E
  have E3_2 := zE_s3_2 E
  have E1_0 := zE_s1_0 E
  have E27_0 := zE_s27_0 E
  refine zwW_p [(1, 1, 2), (1, 0, 2), (1, 3, 0), (0, 1, 0)] (q := 419) (ls' := [(2, -1), (2, 1), (2, 37), (0, i)]) (st' := [(0, 1), (0, i), (2, -1), (2, 1)]) (by decide +kernel) rfl ?_
  refine zwW_add (nx := 420) (by decide +kernel) (by first | omega | exact ⟨by omega, by omega⟩) ?_
  refine zwW_sld (nx := 421) (by decide +kernel) (by omega) (by omega) ?_
  obtain ⟨v1, ev1⟩ : ∃ z, z = sc.getD (i + 1).toNat 0 := ⟨_, rfl⟩
  rw [← ev1]
  have qv1 : -2147483648 ≤ v1 ∧ v1 ≤ 2147483647 := by rw [ev1]; exact zgetD hin _
  refine zwW_p [(1, 0, 2), (1, 3, 0), (0, 2, 0)] (q := 424) (ls' := [(2, -1), (2, 1), (2, 37), (0, i)]) (st' := [(0, 2), (0, i), (2, -1), (0, v1), (2, 1)]) (by decide +kernel) rfl ?_
  refine zwW_add (nx := 425) (by decide +kernel) (by first | omega | exact ⟨by omega, by omega⟩) ?_
  refine zwW_sld (nx := 426) (by decide +kernel) (by omega) (by omega) ?_
  obtain ⟨v2, ev2⟩ : ∃ z, z = sc.getD (i + 2).toNat 0 := ⟨_, rfl⟩
  rw [← ev2]
  have qv2 : -2147483648 ≤ v2 ∧ v2 ≤ 2147483647 := by rw [ev2]; exact zgetD hin _
  refine zwW_cm C.1 (op := 60) (k' := 13) (n := 2) (kd := 12) (m := 13) (nx := 429) (r := 1) (tl := [(0, v1), (0, v2)]) (st' := []) (by decide +kernel) rfl (by decide +kernel) rfl (x13 h C v1 v2 (by omega) (by omega)) ?_
  rintro v5 h6 ⟨Ch6, Qh6, f3, f4⟩
  have Xh6 : zXR msxL (0) (0) h h6 := X.tr (c2 := 0) (s2 := 0) Qh6 (by decide +kernel) (by decide) (by decide)
  have th6_2_2 : fld h6 2 2 = fld h 2 2 := Qh6.f (a1 := 2) (a2 := 2) (j1 := 2) (j2 := 3) (by decide +kernel) (by first | decide | exact ⟨by decide, by decide⟩) (by first | decide | exact ⟨by decide, by decide⟩) (by first | decide | exact ⟨by decide, by decide⟩)
  have th6_37_1 : fld h6 37 1 = fld h 37 1 := Qh6.f (a1 := 37) (a2 := 37) (j1 := 1) (j2 := 2) (by decide +kernel) (by first | decide | exact ⟨by decide, by decide⟩) (by first | decide | exact ⟨by decide, by decide⟩) (by first | decide | exact ⟨by decide, by decide⟩)
  have th6_3_2 : fld h6 3 2 = fld h 3 2 := Qh6.f (a1 := 3) (a2 := 3) (j1 := 2) (j2 := 3) (by decide +kernel) (by first | decide | exact ⟨by decide, by decide⟩) (by first | decide | exact ⟨by decide, by decide⟩) (by first | decide | exact ⟨by decide, by decide⟩)
  have th6_37_2 : fld h6 37 2 = fld h 37 2 := Qh6.f (a1 := 37) (a2 := 37) (j1 := 2) (j2 := 3) (by decide +kernel) (by first | decide | exact ⟨by decide, by decide⟩) (by first | decide | exact ⟨by decide, by decide⟩) (by first | decide | exact ⟨by decide, by decide⟩)
  have th6_1_0 : fld h6 1 0 = fld h 1 0 := Qh6.f (a1 := 1) (a2 := 1) (j1 := 0) (j2 := 1) (by decide +kernel) (by first | decide | exact ⟨by decide, by decide⟩) (by first | decide | exact ⟨by decide, by decide⟩) (by first | decide | exact ⟨by decide, by decide⟩)
  have th6_37_0 : fld h6 37 0 = fld h 37 0 := Qh6.f (a1 := 37) (a2 := 37) (j1 := 0) (j2 := 1) (by decide +kernel) (by first | decide | exact ⟨by decide, by decide⟩) (by first | decide | exact ⟨by decide, by decide⟩) (by first | decide | exact ⟨by decide, by decide⟩)
  have th6_27_0 : fld h6 27 0 = fld h 27 0 := Qh6.f (a1 := 27) (a2 := 27) (j1 := 0) (j2 := 1) (by decide +kernel) (by first | decide | exact ⟨by decide, by decide⟩) (by first | decide | exact ⟨by decide, by decide⟩) (by first | decide | exact ⟨by decide, by decide⟩)
  have th6_37_96 : fld h6 37 96 = fld h 37 96 := Qh6.f (a1 := 37) (a2 := 37) (j1 := 96) (j2 := 97) (by decide +kernel) (by first | decide | exact ⟨by decide, by decide⟩) (by first | decide | exact ⟨by decide, by decide⟩) (by first | decide | exact ⟨by decide, by decide⟩)
  have Ah6 : zAM h6 := A.sm (fun r hr => Qh6.same (by decide +kernel) hr)
  have Wh6 : zCW h6 := W.sm C.1 (fun r hr => Qh6.same (by decide +kernel) hr)
  refine zwW_p [(15, 0, 0), (1, 2, 2), (1, 0, 2), (1, 3, 0), (0, 1, 0)] (q := 434) (ls' := [(2, -1), (2, 1), (2, 37), (0, i)]) (st' := [(0, 1), (0, i), (2, -1), (2, 37)]) (by decide +kernel) rfl ?_
  refine zwW_add (nx := 435) (by decide +kernel) (by first | omega | exact ⟨by omega, by omega⟩) ?_
  refine zwW_sld (nx := 436) (by decide +kernel) (by omega) (by omega) ?_
  rw [← ev1]
  refine zwW_p [(1, 0, 2), (1, 3, 0), (0, 2, 0)] (q := 439) (ls' := [(2, -1), (2, 1), (2, 37), (0, i)]) (st' := [(0, 2), (0, i), (2, -1), (0, v1), (2, 37)]) (by decide +kernel) rfl ?_
  refine zwW_add (nx := 440) (by decide +kernel) (by first | omega | exact ⟨by omega, by omega⟩) ?_
  refine zwW_sld (nx := 441) (by decide +kernel) (by omega) (by omega) ?_
  rw [← ev2]
  refine zwW_cm Ch6.1 (op := 60) (k' := 14) (n := 2) (kd := 13) (m := 97) (nx := 444) (r := 37) (tl := [(0, v1), (0, v2)]) (st' := []) (by decide +kernel) rfl (by decide +kernel) rfl (m14 h6 Ch6.1 v1 v2 Ah6) ?_
  rintro v8 h7 ⟨Ih7, Qh7, f9, f10, f11⟩
  obtain ⟨Ch7, Zh7⟩ := Ch6.m Ih7 Qh7 (by decide +kernel)
  have Xh7 : zXR msxL (0) (0) h h7 := Xh6.tr (c2 := 0) (s2 := 0) Zh7 (by decide +kernel) (by decide) (by decide)
  have th7_2_2 : fld h7 2 2 = fld h6 2 2 := Zh7.f (a1 := 2) (a2 := 2) (j1 := 2) (j2 := 3) (by decide +kernel) (by first | decide | exact ⟨by decide, by decide⟩) (by first | decide | exact ⟨by decide, by decide⟩) (by first | decide | exact ⟨by decide, by decide⟩)
  have th7_37_1 : fld h7 37 1 = fld h6 37 1 := Zh7.f (a1 := 37) (a2 := 37) (j1 := 1) (j2 := 2) (by decide +kernel) (by first | decide | exact ⟨by decide, by decide⟩) (by first | decide | exact ⟨by decide, by decide⟩) (by first | decide | exact ⟨by decide, by decide⟩)
  have th7_3_2 : fld h7 3 2 = fld h6 3 2 := Zh7.f (a1 := 3) (a2 := 3) (j1 := 2) (j2 := 3) (by decide +kernel) (by first | decide | exact ⟨by decide, by decide⟩) (by first | decide | exact ⟨by decide, by decide⟩) (by first | decide | exact ⟨by decide, by decide⟩)
  have th7_37_2 : fld h7 37 2 = fld h6 37 2 := Zh7.f (a1 := 37) (a2 := 37) (j1 := 2) (j2 := 3) (by decide +kernel) (by first | decide | exact ⟨by decide, by decide⟩) (by first | decide | exact ⟨by decide, by decide⟩) (by first | decide | exact ⟨by decide, by decide⟩)
  have th7_1_0 : fld h7 1 0 = fld h6 1 0 := Zh7.f (a1 := 1) (a2 := 1) (j1 := 0) (j2 := 1) (by decide +kernel) (by first | decide | exact ⟨by decide, by decide⟩) (by first | decide | exact ⟨by decide, by decide⟩) (by first | decide | exact ⟨by decide, by decide⟩)
  have th7_37_0 : fld h7 37 0 = fld h6 37 0 := Zh7.f (a1 := 37) (a2 := 37) (j1 := 0) (j2 := 1) (by decide +kernel) (by first | decide | exact ⟨by decide, by decide⟩) (by first | decide | exact ⟨by decide, by decide⟩) (by first | decide | exact ⟨by decide, by decide⟩)
  have th7_27_0 : fld h7 27 0 = fld h6 27 0 := Zh7.f (a1 := 27) (a2 := 27) (j1 := 0) (j2 := 1) (by decide +kernel) (by first | decide | exact ⟨by decide, by decide⟩) (by first | decide | exact ⟨by decide, by decide⟩) (by first | decide | exact ⟨by decide, by decide⟩)
  have th7_37_96 : fld h7 37 96 = fld h6 37 96 := Zh7.f (a1 := 37) (a2 := 37) (j1 := 96) (j2 := 97) (by decide +kernel) (by first | decide | exact ⟨by decide, by decide⟩) (by first | decide | exact ⟨by decide, by decide⟩) (by first | decide | exact ⟨by decide, by decide⟩)
  have Wh7 : zCW h7 := Wh6.mr Ch6.1 Qh7 (by decide +kernel)
  have KEh7 : zE h7 ∧ v5 = v8 := by
    rcases f4 with ⟨xC0, xC1, xC2⟩ | ⟨xN0, xN1, xN2⟩
    · rcases f10 with ⟨mC0, mC1, mC2⟩ | ⟨mN0, mN1, mN2⟩
      · have TT : zXR [(85, 85, 0, 20), (1004, 1004, 7, 8)] (0) (0) h h7 := (Qh6.mono (ms' := [(85, 85, 0, 20), (1004, 1004, 7, 8)]) (by decide +kernel)).tr (c2 := 0) (s2 := 0) Zh7 (by decide +kernel) (by decide) (by decide)
        exact ⟨⟨zQS.st (T := []) TT E.1 (by decide +kernel) zQS.nil, zNM.st (T := []) TT C E.2.1 (by decide +kernel) zNM.nil, zFL.st (T := [(3, 7, 85)]) TT C E.2.2.1 (by decide +kernel) (zFL.cons (zF1.up C Ch6 Qh6 Zh7 (zE_f3_7 E) E.2.1 (A := 3) (j := 7) (a := 85) (k := (v1).toNat) (L := zTN) (by decide +kernel) (by decide +kernel) (by decide +kernel) (show (((v1).toNat : Nat) : Int) < fld h 3 2 by omega) xC2 mC2 (by omega)) zFL.nil), zZL.st (T := []) TT E.2.2.2.1 (by decide +kernel) zZL.nil, zRL.st (T := []) TT C E.2.2.2.2.1 (by decide +kernel) zRL.nil, E.2.2.2.2.2.kp TT (by decide +kernel) (by omega)⟩, by omega⟩
      · exfalso; omega
    · rcases f10 with ⟨mC0, mC1, mC2⟩ | ⟨mN0, mN1, mN2⟩
      · exfalso; omega
      · exact ⟨by rw [mN1, xN1]; exact E, by omega⟩
  obtain ⟨Eh7, kEh7⟩ := KEh7
  refine zwW_p [(15, 0, 0), (24, 1605, 0)] (q := 1605) (ls' := [(2, -1), (2, 1), (2, 37), (0, i)]) (st' := []) (by decide +kernel) rfl ?_
  exact k _ ⟨Ch7, f11, Wh7, Eh7, _, Xh7.le (by decide) (by decide)⟩
theorem zl_448 {sc : List Int} {Q : Option Vl → Hp → Prop} (h : Hp) (C : CI h) (A : zAM h) (W : zCW h) (E : zE h) (hl : h.length ≤ 800000) (hin : ∀ x ∈ sc, in32 x) (i : Int) (hi : 0 ≤ i ∧ i + 6 ≤ sc.length) (hs : sc.length ≤ 3072) (k : ∀ g, zLJ h g → zwW sc 400 0 1605 [(2, -1), (2, 1), (2, 37), (0, i)] [] g Q) : zwW sc 400 0 448 [(2, -1), (2, 1), (2, 37), (0, i)] [] h Q := by
  have X : zXR msxL 0 0 h h := zXR.rf _ _
  have E2_2 := zE_s2_2 E
  have E3_2 := zE_s3_2 E
  have E1_0 := zE_s1_0 E
  have E27_0 := zE_s27_0 E
  refine zwW_p [(1, 1, 2), (1, 0, 2), (1, 3, 0), (0, 1, 0)] (q := 452) (ls' := [(2, -1), (2, 1), (2, 37), (0, i)]) (st' := [(0, 1), (0, i), (2, -1), (2, 1)]) (by decide +kernel) rfl ?_
  refine zwW_add (nx := 453) (by decide +kernel) (by first | omega | exact ⟨by omega, by omega⟩) ?_
  refine zwW_sld (nx := 454) (by decide +kernel) (by omega) (by omega) ?_
  obtain ⟨v1, ev1⟩ : ∃ z, z = sc.getD (i + 1).toNat 0 := ⟨_, rfl⟩
  rw [← ev1]
  have qv1 : -2147483648 ≤ v1 ∧ v1 ≤ 2147483647 := by rw [ev1]; exact zgetD hin _
  refine zwW_p [(1, 0, 2), (1, 3, 0), (0, 2, 0)] (q := 457) (ls' := [(2, -1), (2, 1), (2, 37), (0, i)]) (st' := [(0, 2), (0, i), (2, -1), (0, v1), (2, 1)]) (by decide +kernel) rfl ?_
  refine zwW_add (nx := 458) (by decide +kernel) (by first | omega | exact ⟨by omega, by omega⟩) ?_
  refine zwW_sld (nx := 459) (by decide +kernel) (by omega) (by omega) ?_
  obtain ⟨v2, ev2⟩ : ∃ z, z = sc.getD (i + 2).toNat 0 := ⟨_, rfl⟩
  rw [← ev2]
  have qv2 : -2147483648 ≤ v2 ∧ v2 ≤ 2147483647 := by rw [ev2]; exact zgetD hin _
  refine zwW_cm C.1 (op := 60) (k' := 15) (n := 2) (kd := 12) (m := 13) (nx := 462) (r := 1) (tl := [(0, v1), (0, v2)]) (st' := []) (by decide +kernel) rfl (by decide +kernel) rfl (x15 h C v1 v2 (by omega) (by omega)) ?_
  rintro v4 h5 ⟨Ch5, Qh5, f3⟩
  have Xh5 : zXR msxL (0) (0) h h5 := X.tr (c2 := 0) (s2 := 0) Qh5 (by decide +kernel) (by decide) (by decide)
  have th5_2_2 : fld h5 2 2 = fld h 2 2 := Qh5.f (a1 := 2) (a2 := 2) (j1 := 2) (j2 := 3) (by decide +kernel) (by first | decide | exact ⟨by decide, by decide⟩) (by first | decide | exact ⟨by decide, by decide⟩) (by first | decide | exact ⟨by decide, by decide⟩)
  have th5_37_1 : fld h5 37 1 = fld h 37 1 := Qh5.f (a1 := 37) (a2 := 37) (j1 := 1) (j2 := 2) (by decide +kernel) (by first | decide | exact ⟨by decide, by decide⟩) (by first | decide | exact ⟨by decide, by decide⟩) (by first | decide | exact ⟨by decide, by decide⟩)
  have th5_3_2 : fld h5 3 2 = fld h 3 2 := Qh5.f (a1 := 3) (a2 := 3) (j1 := 2) (j2 := 3) (by decide +kernel) (by first | decide | exact ⟨by decide, by decide⟩) (by first | decide | exact ⟨by decide, by decide⟩) (by first | decide | exact ⟨by decide, by decide⟩)
  have th5_37_2 : fld h5 37 2 = fld h 37 2 := Qh5.f (a1 := 37) (a2 := 37) (j1 := 2) (j2 := 3) (by decide +kernel) (by first | decide | exact ⟨by decide, by decide⟩) (by first | decide | exact ⟨by decide, by decide⟩) (by first | decide | exact ⟨by decide, by decide⟩)
  have th5_1_0 : fld h5 1 0 = fld h 1 0 := Qh5.f (a1 := 1) (a2 := 1) (j1 := 0) (j2 := 1) (by decide +kernel) (by first | decide | exact ⟨by decide, by decide⟩) (by first | decide | exact ⟨by decide, by decide⟩) (by first | decide | exact ⟨by decide, by decide⟩)
  have th5_37_0 : fld h5 37 0 = fld h 37 0 := Qh5.f (a1 := 37) (a2 := 37) (j1 := 0) (j2 := 1) (by decide +kernel) (by first | decide | exact ⟨by decide, by decide⟩) (by first | decide | exact ⟨by decide, by decide⟩) (by first | decide | exact ⟨by decide, by decide⟩)
  have th5_27_0 : fld h5 27 0 = fld h 27 0 := Qh5.f (a1 := 27) (a2 := 27) (j1 := 0) (j2 := 1) (by decide +kernel) (by first | decide | exact ⟨by decide, by decide⟩) (by first | decide | exact ⟨by decide, by decide⟩) (by first | decide | exact ⟨by decide, by decide⟩)
  have th5_37_96 : fld h5 37 96 = fld h 37 96 := Qh5.f (a1 := 37) (a2 := 37) (j1 := 96) (j2 := 97) (by decide +kernel) (by first | decide | exact ⟨by decide, by decide⟩) (by first | decide | exact ⟨by decide, by decide⟩) (by first | decide | exact ⟨by decide, by decide⟩)
  have Ah5 : zAM h5 := A.sm (fun r hr => Qh5.same (by decide +kernel) hr)
  have Wh5 : zCW h5 := W.sm C.1 (fun r hr => Qh5.same (by decide +kernel) hr)
  refine zwW_p [(15, 0, 0), (1, 2, 2), (1, 0, 2), (1, 3, 0), (0, 1, 0)] (q := 467) (ls' := [(2, -1), (2, 1), (2, 37), (0, i)]) (st' := [(0, 1), (0, i), (2, -1), (2, 37)]) (by decide +kernel) rfl ?_
  refine zwW_add (nx := 468) (by decide +kernel) (by first | omega | exact ⟨by omega, by omega⟩) ?_
  refine zwW_sld (nx := 469) (by decide +kernel) (by omega) (by omega) ?_
  rw [← ev1]
  refine zwW_p [(1, 0, 2), (1, 3, 0), (0, 2, 0)] (q := 472) (ls' := [(2, -1), (2, 1), (2, 37), (0, i)]) (st' := [(0, 2), (0, i), (2, -1), (0, v1), (2, 37)]) (by decide +kernel) rfl ?_
  refine zwW_add (nx := 473) (by decide +kernel) (by first | omega | exact ⟨by omega, by omega⟩) ?_
  refine zwW_sld (nx := 474) (by decide +kernel) (by omega) (by omega) ?_
  rw [← ev2]
  refine zwW_cm Ch5.1 (op := 60) (k' := 16) (n := 2) (kd := 13) (m := 97) (nx := 477) (r := 37) (tl := [(0, v1), (0, v2)]) (st' := []) (by decide +kernel) rfl (by decide +kernel) rfl (m16 h5 Ch5.1 v1 v2) ?_
  rintro v7 h6 ⟨Ih6, Qh6, f8⟩
  obtain ⟨Ch6, Zh6⟩ := Ch5.m Ih6 Qh6 (by decide +kernel)
  have Xh6 : zXR msxL (0) (0) h h6 := Xh5.tr (c2 := 0) (s2 := 0) Zh6 (by decide +kernel) (by decide) (by decide)
  have th6_2_2 : fld h6 2 2 = fld h5 2 2 := Zh6.f (a1 := 2) (a2 := 2) (j1 := 2) (j2 := 3) (by decide +kernel) (by first | decide | exact ⟨by decide, by decide⟩) (by first | decide | exact ⟨by decide, by decide⟩) (by first | decide | exact ⟨by decide, by decide⟩)
  have th6_37_1 : fld h6 37 1 = fld h5 37 1 := Zh6.f (a1 := 37) (a2 := 37) (j1 := 1) (j2 := 2) (by decide +kernel) (by first | decide | exact ⟨by decide, by decide⟩) (by first | decide | exact ⟨by decide, by decide⟩) (by first | decide | exact ⟨by decide, by decide⟩)
  have th6_3_2 : fld h6 3 2 = fld h5 3 2 := Zh6.f (a1 := 3) (a2 := 3) (j1 := 2) (j2 := 3) (by decide +kernel) (by first | decide | exact ⟨by decide, by decide⟩) (by first | decide | exact ⟨by decide, by decide⟩) (by first | decide | exact ⟨by decide, by decide⟩)
  have th6_37_2 : fld h6 37 2 = fld h5 37 2 := Zh6.f (a1 := 37) (a2 := 37) (j1 := 2) (j2 := 3) (by decide +kernel) (by first | decide | exact ⟨by decide, by decide⟩) (by first | decide | exact ⟨by decide, by decide⟩) (by first | decide | exact ⟨by decide, by decide⟩)
  have th6_1_0 : fld h6 1 0 = fld h5 1 0 := Zh6.f (a1 := 1) (a2 := 1) (j1 := 0) (j2 := 1) (by decide +kernel) (by first | decide | exact ⟨by decide, by decide⟩) (by first | decide | exact ⟨by decide, by decide⟩) (by first | decide | exact ⟨by decide, by decide⟩)
  have th6_37_0 : fld h6 37 0 = fld h5 37 0 := Zh6.f (a1 := 37) (a2 := 37) (j1 := 0) (j2 := 1) (by decide +kernel) (by first | decide | exact ⟨by decide, by decide⟩) (by first | decide | exact ⟨by decide, by decide⟩) (by first | decide | exact ⟨by decide, by decide⟩)
  have th6_27_0 : fld h6 27 0 = fld h5 27 0 := Zh6.f (a1 := 27) (a2 := 27) (j1 := 0) (j2 := 1) (by decide +kernel) (by first | decide | exact ⟨by decide, by decide⟩) (by first | decide | exact ⟨by decide, by decide⟩) (by first | decide | exact ⟨by decide, by decide⟩)
  have th6_37_96 : fld h6 37 96 = fld h5 37 96 := Zh6.f (a1 := 37) (a2 := 37) (j1 := 96) (j2 := 97) (by decide +kernel) (by first | decide | exact ⟨by decide, by decide⟩) (by first | decide | exact ⟨by decide, by decide⟩) (by first | decide | exact ⟨by decide, by decide⟩)
  have Ah6 : zAM h6 := Ah5.mr Qh6 (by decide +kernel) (Ch5.1.b (a1 := 37) (a2 := 37) (j1 := 2) (j2 := 3) (lo := 0) (hi := 20) (by decide +kernel) (by decide) (by decide) (by decide) (by decide)).2
  have Wh6 : zCW h6 := Wh5.mr Ch5.1 Qh6 (by decide +kernel)
  have TT : zXR [(84, 84, 0, 20), (1004, 1004, 6, 7)] (0) (0) h h6 := (Qh5.mono (ms' := [(84, 84, 0, 20), (1004, 1004, 6, 7)]) (by decide +kernel)).tr (c2 := 0) (s2 := 0) Zh6 (by decide +kernel) (by decide) (by decide)
  have Eh6 : zE h6 := ⟨zQS.st (T := []) TT E.1 (by decide +kernel) zQS.nil, zNM.st (T := []) TT C E.2.1 (by decide +kernel) zNM.nil, zFL.st (T := []) TT C E.2.2.1 (by decide +kernel) zFL.nil, zZL.st (T := []) TT E.2.2.2.1 (by decide +kernel) zZL.nil, zRL.st (T := []) TT C E.2.2.2.2.1 (by decide +kernel) zRL.nil, E.2.2.2.2.2.kp TT (by decide +kernel) (by omega)⟩
  refine zwW_p [(15, 0, 0), (24, 1605, 0)] (q := 1605) (ls' := [(2, -1), (2, 1), (2, 37), (0, i)]) (st' := []) (by decide +kernel) rfl ?_
  exact k _ ⟨Ch6, Ah6, Wh6, Eh6, _, Xh6.le (by decide) (by decide)⟩
theorem zl_481 {sc : List Int} {Q : Option Vl → Hp → Prop} (h : Hp) (C : CI h) (A : zAM h) (W : zCW h) (E : zE h) (hl : h.length ≤ 800000) (hin : ∀ x ∈ sc, in32 x) (i : Int) (hi : 0 ≤ i ∧ i + 6 ≤ sc.length) (hs : sc.length ≤ 3072) (k : ∀ g, zLJ h g → zwW sc 400 0 1605 [(2, -1), (2, 1), (2, 37), (0, i)] [] g Q) : zwW sc 400 0 481 [(2, -1), (2, 1), (2, 37), (0, i)] [] h Q := by
  have X : zXR msxL 0 0 h h := zXR.rf _ _
  have E2_2 := zE_s2_2 E
  have E3_2 := zE_s3_2 E
  have E1_0 := zE_s1_0 E
  have E27_0 := zE_s27_0 E
  refine zwW_p [(1, 1, 2), (1, 0, 2), (1, 3, 0), (0, 1, 0)] (q := 485) (ls' := [(2, -1), (2, 1), (2, 37), (0, i)]) (st' := [(0, 1), (0, i), (2, -1), (2, 1)]) (by decide +kernel) rfl ?_
  refine zwW_add (nx := 486) (by decide +kernel) (by first | omega | exact ⟨by omega, by omega⟩) ?_
  refine zwW_sld (nx := 487) (by decide +kernel) (by omega) (by omega) ?_
  obtain ⟨v1, ev1⟩ : ∃ z, z = sc.getD (i + 1).toNat 0 := ⟨_, rfl⟩
  rw [← ev1]
  have qv1 : -2147483648 ≤ v1 ∧ v1 ≤ 2147483647 := by rw [ev1]; exact zgetD hin _
  refine zwW_p [(1, 0, 2), (1, 3, 0), (0, 2, 0)] (q := 490) (ls' := [(2, -1), (2, 1), (2, 37), (0, i)]) (st' := [(0, 2), (0, i), (2, -1), (0, v1), (2, 1)]) (by decide +kernel) rfl ?_
  refine zwW_add (nx := 491) (by decide +kernel) (by first | omega | exact ⟨by omega, by omega⟩) ?_
  refine zwW_sld (nx := 492) (by decide +kernel) (by omega) (by omega) ?_
  obtain ⟨v2, ev2⟩ : ∃ z, z = sc.getD (i + 2).toNat 0 := ⟨_, rfl⟩
  rw [← ev2]
  have qv2 : -2147483648 ≤ v2 ∧ v2 ≤ 2147483647 := by rw [ev2]; exact zgetD hin _
  refine zwW_cm C.1 (op := 60) (k' := 17) (n := 2) (kd := 12) (m := 13) (nx := 495) (r := 1) (tl := [(0, v1), (0, v2)]) (st' := []) (by decide +kernel) rfl (by decide +kernel) rfl (x17 h C v1 v2 (by omega) (by omega)) ?_
  rintro v4 h5 ⟨Ch5, Qh5, f3⟩
  have Xh5 : zXR msxL (0) (0) h h5 := X.tr (c2 := 0) (s2 := 0) Qh5 (by decide +kernel) (by decide) (by decide)
  have th5_2_2 : fld h5 2 2 = fld h 2 2 := Qh5.f (a1 := 2) (a2 := 2) (j1 := 2) (j2 := 3) (by decide +kernel) (by first | decide | exact ⟨by decide, by decide⟩) (by first | decide | exact ⟨by decide, by decide⟩) (by first | decide | exact ⟨by decide, by decide⟩)
  have th5_37_1 : fld h5 37 1 = fld h 37 1 := Qh5.f (a1 := 37) (a2 := 37) (j1 := 1) (j2 := 2) (by decide +kernel) (by first | decide | exact ⟨by decide, by decide⟩) (by first | decide | exact ⟨by decide, by decide⟩) (by first | decide | exact ⟨by decide, by decide⟩)
  have th5_3_2 : fld h5 3 2 = fld h 3 2 := Qh5.f (a1 := 3) (a2 := 3) (j1 := 2) (j2 := 3) (by decide +kernel) (by first | decide | exact ⟨by decide, by decide⟩) (by first | decide | exact ⟨by decide, by decide⟩) (by first | decide | exact ⟨by decide, by decide⟩)
  have th5_37_2 : fld h5 37 2 = fld h 37 2 := Qh5.f (a1 := 37) (a2 := 37) (j1 := 2) (j2 := 3) (by decide +kernel) (by first | decide | exact ⟨by decide, by decide⟩) (by first | decide | exact ⟨by decide, by decide⟩) (by first | decide | exact ⟨by decide, by decide⟩)
  have th5_1_0 : fld h5 1 0 = fld h 1 0 := Qh5.f (a1 := 1) (a2 := 1) (j1 := 0) (j2 := 1) (by decide +kernel) (by first | decide | exact ⟨by decide, by decide⟩) (by first | decide | exact ⟨by decide, by decide⟩) (by first | decide | exact ⟨by decide, by decide⟩)
  have th5_37_0 : fld h5 37 0 = fld h 37 0 := Qh5.f (a1 := 37) (a2 := 37) (j1 := 0) (j2 := 1) (by decide +kernel) (by first | decide | exact ⟨by decide, by decide⟩) (by first | decide | exact ⟨by decide, by decide⟩) (by first | decide | exact ⟨by decide, by decide⟩)
  have th5_27_0 : fld h5 27 0 = fld h 27 0 := Qh5.f (a1 := 27) (a2 := 27) (j1 := 0) (j2 := 1) (by decide +kernel) (by first | decide | exact ⟨by decide, by decide⟩) (by first | decide | exact ⟨by decide, by decide⟩) (by first | decide | exact ⟨by decide, by decide⟩)
  have th5_37_96 : fld h5 37 96 = fld h 37 96 := Qh5.f (a1 := 37) (a2 := 37) (j1 := 96) (j2 := 97) (by decide +kernel) (by first | decide | exact ⟨by decide, by decide⟩) (by first | decide | exact ⟨by decide, by decide⟩) (by first | decide | exact ⟨by decide, by decide⟩)
  have Ah5 : zAM h5 := A.sm (fun r hr => Qh5.same (by decide +kernel) hr)
  have Wh5 : zCW h5 := W.sm C.1 (fun r hr => Qh5.same (by decide +kernel) hr)
  refine zwW_p [(15, 0, 0), (1, 2, 2), (1, 0, 2), (1, 3, 0), (0, 1, 0)] (q := 500) (ls' := [(2, -1), (2, 1), (2, 37), (0, i)]) (st' := [(0, 1), (0, i), (2, -1), (2, 37)]) (by decide +kernel) rfl ?_
  refine zwW_add (nx := 501) (by decide +kernel) (by first | omega | exact ⟨by omega, by omega⟩) ?_
  refine zwW_sld (nx := 502) (by decide +kernel) (by omega) (by omega) ?_
  rw [← ev1]
  refine zwW_p [(1, 0, 2), (1, 3, 0), (0, 2, 0)] (q := 505) (ls' := [(2, -1), (2, 1), (2, 37), (0, i)]) (st' := [(0, 2), (0, i), (2, -1), (0, v1), (2, 37)]) (by decide +kernel) rfl ?_
  refine zwW_add (nx := 506) (by decide +kernel) (by first | omega | exact ⟨by omega, by omega⟩) ?_
  refine zwW_sld (nx := 507) (by decide +kernel) (by omega) (by omega) ?_
  rw [← ev2]
  refine zwW_cm Ch5.1 (op := 60) (k' := 18) (n := 2) (kd := 13) (m := 97) (nx := 510) (r := 37) (tl := [(0, v1), (0, v2)]) (st' := []) (by decide +kernel) rfl (by decide +kernel) rfl (m18 h5 Ch5.1 v1 v2) ?_
  rintro v7 h6 ⟨Ih6, Qh6, f8⟩
  obtain ⟨Ch6, Zh6⟩ := Ch5.m Ih6 Qh6 (by decide +kernel)
  have Xh6 : zXR msxL (0) (0) h h6 := Xh5.tr (c2 := 0) (s2 := 0) Zh6 (by decide +kernel) (by decide) (by decide)
  have th6_2_2 : fld h6 2 2 = fld h5 2 2 := Zh6.f (a1 := 2) (a2 := 2) (j1 := 2) (j2 := 3) (by decide +kernel) (by first | decide | exact ⟨by decide, by decide⟩) (by first | decide | exact ⟨by decide, by decide⟩) (by first | decide | exact ⟨by decide, by decide⟩)
  have th6_37_1 : fld h6 37 1 = fld h5 37 1 := Zh6.f (a1 := 37) (a2 := 37) (j1 := 1) (j2 := 2) (by decide +kernel) (by first | decide | exact ⟨by decide, by decide⟩) (by first | decide | exact ⟨by decide, by decide⟩) (by first | decide | exact ⟨by decide, by decide⟩)
  have th6_3_2 : fld h6 3 2 = fld h5 3 2 := Zh6.f (a1 := 3) (a2 := 3) (j1 := 2) (j2 := 3) (by decide +kernel) (by first | decide | exact ⟨by decide, by decide⟩) (by first | decide | exact ⟨by decide, by decide⟩) (by first | decide | exact ⟨by decide, by decide⟩)
  have th6_37_2 : fld h6 37 2 = fld h5 37 2 := Zh6.f (a1 := 37) (a2 := 37) (j1 := 2) (j2 := 3) (by decide +kernel) (by first | decide | exact ⟨by decide, by decide⟩) (by first | decide | exact ⟨by decide, by decide⟩) (by first | decide | exact ⟨by decide, by decide⟩)
  have th6_1_0 : fld h6 1 0 = fld h5 1 0 := Zh6.f (a1 := 1) (a2 := 1) (j1 := 0) (j2 := 1) (by decide +kernel) (by first | decide | exact ⟨by decide, by decide⟩) (by first | decide | exact ⟨by decide, by decide⟩) (by first | decide | exact ⟨by decide, by decide⟩)
  have th6_37_0 : fld h6 37 0 = fld h5 37 0 := Zh6.f (a1 := 37) (a2 := 37) (j1 := 0) (j2 := 1) (by decide +kernel) (by first | decide | exact ⟨by decide, by decide⟩) (by first | decide | exact ⟨by decide, by decide⟩) (by first | decide | exact ⟨by decide, by decide⟩)
  have th6_27_0 : fld h6 27 0 = fld h5 27 0 := Zh6.f (a1 := 27) (a2 := 27) (j1 := 0) (j2 := 1) (by decide +kernel) (by first | decide | exact ⟨by decide, by decide⟩) (by first | decide | exact ⟨by decide, by decide⟩) (by first | decide | exact ⟨by decide, by decide⟩)
  have th6_37_96 : fld h6 37 96 = fld h5 37 96 := Zh6.f (a1 := 37) (a2 := 37) (j1 := 96) (j2 := 97) (by decide +kernel) (by first | decide | exact ⟨by decide, by decide⟩) (by first | decide | exact ⟨by decide, by decide⟩) (by first | decide | exact ⟨by decide, by decide⟩)
  have Ah6 : zAM h6 := Ah5.mr Qh6 (by decide +kernel) (Ch5.1.b (a1 := 37) (a2 := 37) (j1 := 2) (j2 := 3) (lo := 0) (hi := 20) (by decide +kernel) (by decide) (by decide) (by decide) (by decide)).2
  have Wh6 : zCW h6 := Wh5.mr Ch5.1 Qh6 (by decide +kernel)
  have TT : zXR [(66, 66, 0, 8), (1011, 1011, 3, 4)] (0) (0) h h6 := (Qh5.mono (ms' := [(66, 66, 0, 8), (1011, 1011, 3, 4)]) (by decide +kernel)).tr (c2 := 0) (s2 := 0) Zh6 (by decide +kernel) (by decide) (by decide)
  have Eh6 : zE h6 := ⟨zQS.st (T := []) TT E.1 (by decide +kernel) zQS.nil, zNM.st (T := []) TT C E.2.1 (by decide +kernel) zNM.nil, zFL.st (T := []) TT C E.2.2.1 (by decide +kernel) zFL.nil, zZL.st (T := []) TT E.2.2.2.1 (by decide +kernel) zZL.nil, zRL.st (T := []) TT C E.2.2.2.2.1 (by decide +kernel) zRL.nil, E.2.2.2.2.2.kp TT (by decide +kernel) (by omega)⟩
  refine zwW_p [(15, 0, 0), (24, 1605, 0)] (q := 1605) (ls' := [(2, -1), (2, 1), (2, 37), (0, i)]) (st' := []) (by decide +kernel) rfl ?_
  exact k _ ⟨Ch6, Ah6, Wh6, Eh6, _, Xh6.le (by decide) (by decide)⟩
theorem zl_514 {sc : List Int} {Q : Option Vl → Hp → Prop} (h : Hp) (C : CI h) (A : zAM h) (W : zCW h) (E : zE h) (hl : h.length ≤ 800000) (hin : ∀ x ∈ sc, in32 x) (i : Int) (hi : 0 ≤ i ∧ i + 6 ≤ sc.length) (hs : sc.length ≤ 3072) (k : ∀ g, zLJ h g → zwW sc 400 0 1605 [(2, -1), (2, 1), (2, 37), (0, i)] [] g Q) : zwW sc 400 0 514 [(2, -1), (2, 1), (2, 37), (0, i)] [] h Q := by
  have X : zXR msxL 0 0 h h := zXR.rf _ _
  have E2_2 := zE_s2_2 E
  have E3_2 := zE_s3_2 E
  have E1_0 := zE_s1_0 E
  have E27_0 := zE_s27_0 E
  refine zwW_p [(1, 1, 2), (1, 0, 2), (1, 3, 0), (0, 1, 0)] (q := 518) (ls' := [(2, -1), (2, 1), (2, 37), (0, i)]) (st' := [(0, 1), (0, i), (2, -1), (2, 1)]) (by decide +kernel) rfl ?_
  refine zwW_add (nx := 519) (by decide +kernel) (by first | omega | exact ⟨by omega, by omega⟩) ?_
  refine zwW_sld (nx := 520) (by decide +kernel) (by omega) (by omega) ?_
  obtain ⟨v1, ev1⟩ : ∃ z, z = sc.getD (i + 1).toNat 0 := ⟨_, rfl⟩
  rw [← ev1]
  have qv1 : -2147483648 ≤ v1 ∧ v1 ≤ 2147483647 := by rw [ev1]; exact zgetD hin _
  refine zwW_cm C.1 (op := 60) (k' := 19) (n := 1) (kd := 12) (m := 13) (nx := 523) (r := 1) (tl := [(0, v1)]) (st' := []) (by decide +kernel) rfl (by decide +kernel) rfl (x19 h C v1 (by omega) (by omega)) ?_
  rintro v4 h5 ⟨Ch5, Qh5, f2, f3⟩
  have Xh5 : zXR msxL (0) (0) h h5 := X.tr (c2 := 0) (s2 := 0) Qh5 (by decide +kernel) (by decide) (by decide)
  have th5_2_2 : fld h5 2 2 = fld h 2 2 := Qh5.f (a1 := 2) (a2 := 2) (j1 := 2) (j2 := 3) (by decide +kernel) (by first | decide | exact ⟨by decide, by decide⟩) (by first | decide | exact ⟨by decide, by decide⟩) (by first | decide | exact ⟨by decide, by decide⟩)
  have th5_37_1 : fld h5 37 1 = fld h 37 1 := Qh5.f (a1 := 37) (a2 := 37) (j1 := 1) (j2 := 2) (by decide +kernel) (by first | decide | exact ⟨by decide, by decide⟩) (by first | decide | exact ⟨by decide, by decide⟩) (by first | decide | exact ⟨by decide, by decide⟩)
  have th5_3_2 : fld h5 3 2 = fld h 3 2 := Qh5.f (a1 := 3) (a2 := 3) (j1 := 2) (j2 := 3) (by decide +kernel) (by first | decide | exact ⟨by decide, by decide⟩) (by first | decide | exact ⟨by decide, by decide⟩) (by first | decide | exact ⟨by decide, by decide⟩)
  have th5_37_2 : fld h5 37 2 = fld h 37 2 := Qh5.f (a1 := 37) (a2 := 37) (j1 := 2) (j2 := 3) (by decide +kernel) (by first | decide | exact ⟨by decide, by decide⟩) (by first | decide | exact ⟨by decide, by decide⟩) (by first | decide | exact ⟨by decide, by decide⟩)
  have th5_37_0 : fld h5 37 0 = fld h 37 0 := Qh5.f (a1 := 37) (a2 := 37) (j1 := 0) (j2 := 1) (by decide +kernel) (by first | decide | exact ⟨by decide, by decide⟩) (by first | decide | exact ⟨by decide, by decide⟩) (by first | decide | exact ⟨by decide, by decide⟩)
  have th5_27_0 : fld h5 27 0 = fld h 27 0 := Qh5.f (a1 := 27) (a2 := 27) (j1 := 0) (j2 := 1) (by decide +kernel) (by first | decide | exact ⟨by decide, by decide⟩) (by first | decide | exact ⟨by decide, by decide⟩) (by first | decide | exact ⟨by decide, by decide⟩)
  have th5_37_96 : fld h5 37 96 = fld h 37 96 := Qh5.f (a1 := 37) (a2 := 37) (j1 := 96) (j2 := 97) (by decide +kernel) (by first | decide | exact ⟨by decide, by decide⟩) (by first | decide | exact ⟨by decide, by decide⟩) (by first | decide | exact ⟨by decide, by decide⟩)
  have Ah5 : zAM h5 := A.sm (fun r hr => Qh5.same (by decide +kernel) hr)
  have Wh5 : zCW h5 := W.sm C.1 (fun r hr => Qh5.same (by decide +kernel) hr)
  refine zwW_p [(15, 0, 0), (1, 2, 2), (1, 0, 2), (1, 3, 0), (0, 1, 0)] (q := 528) (ls' := [(2, -1), (2, 1), (2, 37), (0, i)]) (st' := [(0, 1), (0, i), (2, -1), (2, 37)]) (by decide +kernel) rfl ?_
  refine zwW_add (nx := 529) (by decide +kernel) (by first | omega | exact ⟨by omega, by omega⟩) ?_
  refine zwW_sld (nx := 530) (by decide +kernel) (by omega) (by omega) ?_
  rw [← ev1]
  refine zwW_cm Ch5.1 (op := 60) (k' := 20) (n := 1) (kd := 13) (m := 97) (nx := 533) (r := 37) (tl := [(0, v1)]) (st' := []) (by decide +kernel) rfl (by decide +kernel) rfl (m20 h5 Ch5.1 v1 Ah5 Wh5) ?_
  rintro v7 h6 ⟨Ih6, Qh6, f8, f9⟩
  obtain ⟨Ch6, Zh6⟩ := Ch5.m Ih6 Qh6 (by decide +kernel)
  have Xh6 : zXR msxL (0) (0) h h6 := Xh5.tr (c2 := 0) (s2 := 0) Zh6 (by decide +kernel) (by decide) (by decide)
  have th6_2_2 : fld h6 2 2 = fld h5 2 2 := Zh6.f (a1 := 2) (a2 := 2) (j1 := 2) (j2 := 3) (by decide +kernel) (by first | decide | exact ⟨by decide, by decide⟩) (by first | decide | exact ⟨by decide, by decide⟩) (by first | decide | exact ⟨by decide, by decide⟩)
  have th6_37_1 : fld h6 37 1 = fld h5 37 1 := Zh6.f (a1 := 37) (a2 := 37) (j1 := 1) (j2 := 2) (by decide +kernel) (by first | decide | exact ⟨by decide, by decide⟩) (by first | decide | exact ⟨by decide, by decide⟩) (by first | decide | exact ⟨by decide, by decide⟩)
  have th6_3_2 : fld h6 3 2 = fld h5 3 2 := Zh6.f (a1 := 3) (a2 := 3) (j1 := 2) (j2 := 3) (by decide +kernel) (by first | decide | exact ⟨by decide, by decide⟩) (by first | decide | exact ⟨by decide, by decide⟩) (by first | decide | exact ⟨by decide, by decide⟩)
  have th6_37_2 : fld h6 37 2 = fld h5 37 2 := Zh6.f (a1 := 37) (a2 := 37) (j1 := 2) (j2 := 3) (by decide +kernel) (by first | decide | exact ⟨by decide, by decide⟩) (by first | decide | exact ⟨by decide, by decide⟩) (by first | decide | exact ⟨by decide, by decide⟩)
  have th6_1_0 : fld h6 1 0 = fld h5 1 0 := Zh6.f (a1 := 1) (a2 := 1) (j1 := 0) (j2 := 1) (by decide +kernel) (by first | decide | exact ⟨by decide, by decide⟩) (by first | decide | exact ⟨by decide, by decide⟩) (by first | decide | exact ⟨by decide, by decide⟩)
  have th6_27_0 : fld h6 27 0 = fld h5 27 0 := Zh6.f (a1 := 27) (a2 := 27) (j1 := 0) (j2 := 1) (by decide +kernel) (by first | decide | exact ⟨by decide, by decide⟩) (by first | decide | exact ⟨by decide, by decide⟩) (by first | decide | exact ⟨by decide, by decide⟩)
  have th6_37_96 : fld h6 37 96 = fld h5 37 96 := Zh6.f (a1 := 37) (a2 := 37) (j1 := 96) (j2 := 97) (by decide +kernel) (by first | decide | exact ⟨by decide, by decide⟩) (by first | decide | exact ⟨by decide, by decide⟩) (by first | decide | exact ⟨by decide, by decide⟩)
  have Ah6 : zAM h6 := Ah5.mr Qh6 (by decide +kernel) (Ch5.1.b (a1 := 37) (a2 := 37) (j1 := 2) (j2 := 3) (lo := 0) (hi := 20) (by decide +kernel) (by decide) (by decide) (by decide) (by decide)).2
  have Wh6 : zCW h6 := Wh5.mr Ch5.1 Qh6 (by decide +kernel)
  have TT : zXR [(1, 1, 0, 1), (1, 1, 1, 2), (4, 4, 0, 3), (17, 17, 0, 13), (18, 18, 0, 400), (34, 34, 2, 3), (35, 35, 0, 936), (36, 36, 0, 8), (37, 37, 0, 1), (37, 37, 38, 39), (37, 37, 64, 65), (37, 37, 71, 72), (57, 64, 0, 157), (66, 66, 0, 8), (67, 67, 0, 8), (68, 68, 0, 8), (69, 69, 0, 8), (71, 71, 0, 8), (72, 72, 0, 8), (73, 73, 0, 8), (76, 76, 0, 8), (77, 77, 0, 8), (78, 78, 0, 8), (84, 84, 0, 20), (86, 86, 0, 20), (87, 87, 0, 20), (88, 88, 0, 20), (92, 92, 0, 20), (93, 93, 0, 20), (95, 95, 0, 20), (168, 168, 0, 13), (169, 169, 0, 420), (170, 170, 0, 300), (171, 171, 0, 300), (172, 172, 0, 300), (173, 173, 0, 300), (174, 174, 0, 300), (175, 175, 0, 300), (176, 176, 0, 20), (177, 177, 0, 8), (178, 178, 0, 20), (179, 179, 0, 20), (206, 361, 0, 6), (362, 362, 0, 8), (1004, 1004, 6, 7), (1004, 1004, 8, 9), (1004, 1004, 9, 10), (1004, 1004, 10, 11), (1004, 1004, 14, 15), (1004, 1004, 15, 16), (1004, 1004, 18, 19), (1011, 1011, 3, 4), (1011, 1011, 4, 5), (1011, 1011, 5, 6), (1011, 1011, 6, 7), (1011, 1011, 7, 8), (1011, 1011, 9, 10), (1011, 1011, 10, 11), (1011, 1011, 13, 14), (1011, 1011, 14, 15), (1011, 1011, 15, 16), (1020, 1020, 0, 100000)] (0) (0) h h6 := (Qh5.mono (ms' := [(1, 1, 0, 1), (1, 1, 1, 2), (4, 4, 0, 3), (17, 17, 0, 13), (18, 18, 0, 400), (34, 34, 2, 3), (35, 35, 0, 936), (36, 36, 0, 8), (37, 37, 0, 1), (37, 37, 38, 39), (37, 37, 64, 65), (37, 37, 71, 72), (57, 64, 0, 157), (66, 66, 0, 8), (67, 67, 0, 8), (68, 68, 0, 8), (69, 69, 0, 8), (71, 71, 0, 8), (72, 72, 0, 8), (73, 73, 0, 8), (76, 76, 0, 8), (77, 77, 0, 8), (78, 78, 0, 8), (84, 84, 0, 20), (86, 86, 0, 20), (87, 87, 0, 20), (88, 88, 0, 20), (92, 92, 0, 20), (93, 93, 0, 20), (95, 95, 0, 20), (168, 168, 0, 13), (169, 169, 0, 420), (170, 170, 0, 300), (171, 171, 0, 300), (172, 172, 0, 300), (173, 173, 0, 300), (174, 174, 0, 300), (175, 175, 0, 300), (176, 176, 0, 20), (177, 177, 0, 8), (178, 178, 0, 20), (179, 179, 0, 20), (206, 361, 0, 6), (362, 362, 0, 8), (1004, 1004, 6, 7), (1004, 1004, 8, 9), (1004, 1004, 9, 10), (1004, 1004, 10, 11), (1004, 1004, 14, 15), (1004, 1004, 15, 16), (1004, 1004, 18, 19), (1011, 1011, 3, 4), (1011, 1011, 4, 5), (1011, 1011, 5, 6), (1011, 1011, 6, 7), (1011, 1011, 7, 8), (1011, 1011, 9, 10), (1011, 1011, 10, 11), (1011, 1011, 13, 14), (1011, 1011, 14, 15), (1011, 1011, 15, 16), (1020, 1020, 0, 100000)]) (by decide +kernel)).tr (c2 := 0) (s2 := 0) Zh6 (by decide +kernel) (by decide) (by decide)
  have Eh6 : zE h6 := ⟨zQS.st (T := [(1, 0, 37, 0)]) TT E.1 (by decide +kernel) (zQS.cons (show fld h6 1 0 = fld h6 37 0 by omega) zQS.nil), zNM.st (T := []) TT C E.2.1 (by decide +kernel) zNM.nil, zFL.st (T := []) TT C E.2.2.1 (by decide +kernel) zFL.nil, zZL.st (T := []) TT E.2.2.2.1 (by decide +kernel) zZL.nil, zRL.st (T := []) TT C E.2.2.2.2.1 (by decide +kernel) zRL.nil, E.2.2.2.2.2.kp TT (by decide +kernel) (by omega)⟩
  refine zwW_p [(15, 0, 0), (24, 1605, 0)] (q := 1605) (ls' := [(2, -1), (2, 1), (2, 37), (0, i)]) (st' := []) (by decide +kernel) rfl ?_
  exact k _ ⟨Ch6, Ah6, Wh6, Eh6, _, Xh6.le (by decide) (by decide)⟩
theorem zl_537 {sc : List Int} {Q : Option Vl → Hp → Prop} (h : Hp) (C : CI h) (A : zAM h) (W : zCW h) (E : zE h) (hl : h.length ≤ 800000) (hin : ∀ x ∈ sc, in32 x) (i : Int) (hi : 0 ≤ i ∧ i + 6 ≤ sc.length) (hs : sc.length ≤ 3072) (k : ∀ g, zLJ h g → zwW sc 400 0 1605 [(2, -1), (2, 1), (2, 37), (0, i)] [] g Q) : zwW sc 400 0 537 [(2, -1), (2, 1), (2, 37), (0, i)] [] h Q := by
  have X : zXR msxL 0 0 h h := zXR.rf _ _
  have E2_2 := zE_s2_2 E
  have E3_2 := zE_s3_2 E
  have E1_0 := zE_s1_0 E
  have E27_0 := zE_s27_0 E
  refine zwW_p [(1, 1, 2), (1, 0, 2), (1, 3, 0), (0, 1, 0)] (q := 541) (ls' := [(2, -1), (2, 1), (2, 37), (0, i)]) (st' := [(0, 1), (0, i), (2, -1), (2, 1)]) (by decide +kernel) rfl ?_
  refine zwW_add (nx := 542) (by decide +kernel) (by first | omega | exact ⟨by omega, by omega⟩) ?_
  refine zwW_sld (nx := 543) (by decide +kernel) (by omega) (by omega) ?_
  obtain ⟨v1, ev1⟩ : ∃ z, z = sc.getD (i + 1).toNat 0 := ⟨_, rfl⟩
  rw [← ev1]
  have qv1 : -2147483648 ≤ v1 ∧ v1 ≤ 2147483647 := by rw [ev1]; exact zgetD hin _
  refine zwW_p [(1, 0, 2), (1, 3, 0), (0, 2, 0)] (q := 546) (ls' := [(2, -1), (2, 1), (2, 37), (0, i)]) (st' := [(0, 2), (0, i), (2, -1), (0, v1), (2, 1)]) (by decide +kernel) rfl ?_
  refine zwW_add (nx := 547) (by decide +kernel) (by first | omega | exact ⟨by omega, by omega⟩) ?_
  refine zwW_sld (nx := 548) (by decide +kernel) (by omega) (by omega) ?_
  obtain ⟨v2, ev2⟩ : ∃ z, z = sc.getD (i + 2).toNat 0 := ⟨_, rfl⟩
  rw [← ev2]
  have qv2 : -2147483648 ≤ v2 ∧ v2 ≤ 2147483647 := by rw [ev2]; exact zgetD hin _
  refine zwW_cm C.1 (op := 60) (k' := 21) (n := 2) (kd := 12) (m := 13) (nx := 551) (r := 1) (tl := [(0, v1), (0, v2)]) (st' := []) (by decide +kernel) rfl (by decide +kernel) rfl (x21 h C v1 v2 (by omega) (by omega)) ?_
  rintro v3 _ ⟨rfl, f4⟩
  refine zwW_p [(15, 0, 0), (1, 2, 2), (1, 0, 2), (1, 3, 0), (0, 1, 0)] (q := 556) (ls' := [(2, -1), (2, 1), (2, 37), (0, i)]) (st' := [(0, 1), (0, i), (2, -1), (2, 37)]) (by decide +kernel) rfl ?_
  refine zwW_add (nx := 557) (by decide +kernel) (by first | omega | exact ⟨by omega, by omega⟩) ?_
  refine zwW_sld (nx := 558) (by decide +kernel) (by omega) (by omega) ?_
  rw [← ev1]
  refine zwW_p [(1, 0, 2), (1, 3, 0), (0, 2, 0)] (q := 561) (ls' := [(2, -1), (2, 1), (2, 37), (0, i)]) (st' := [(0, 2), (0, i), (2, -1), (0, v1), (2, 37)]) (by decide +kernel) rfl ?_
  refine zwW_add (nx := 562) (by decide +kernel) (by first | omega | exact ⟨by omega, by omega⟩) ?_
  refine zwW_sld (nx := 563) (by decide +kernel) (by omega) (by omega) ?_
  rw [← ev2]
  refine zwW_cm C.1 (op := 60) (k' := 22) (n := 2) (kd := 13) (m := 97) (nx := 566) (r := 37) (tl := [(0, v1), (0, v2)]) (st' := []) (by decide +kernel) rfl (by decide +kernel) rfl (m22 h C.1 v1 v2) ?_
  rintro v5 _ ⟨rfl, f6⟩
  refine zwW_p [(15, 0, 0), (24, 1605, 0)] (q := 1605) (ls' := [(2, -1), (2, 1), (2, 37), (0, i)]) (st' := []) (by decide +kernel) rfl ?_
  exact k _ ⟨C, A, W, E, _, X.le (by decide) (by decide)⟩
theorem zl_570 {sc : List Int} {Q : Option Vl → Hp → Prop} (h : Hp) (C : CI h) (A : zAM h) (W : zCW h) (E : zE h) (hl : h.length ≤ 800000) (hin : ∀ x ∈ sc, in32 x) (i : Int) (hi : 0 ≤ i ∧ i + 6 ≤ sc.length) (hs : sc.length ≤ 3072) (k : ∀ g, zLJ h g → zwW sc 400 0 1605 [(2, -1), (2, 1), (2, 37), (0, i)] [] g Q) : zwW sc 400 0 570 [(2, -1), (2, 1), (2, 37), (0, i)] [] h Q := by
  have X : zXR msxL 0 0 h h := zXR.rf _ _
  have E2_2 := zE_s2_2 E
  have E3_2 := zE_s3_2 E
  have E1_0 := zE_s1_0 E
  have E27_0 := zE_s27_0 E
  refine zwW_p [(1, 1, 2), (1, 0, 2), (1, 3, 0), (0, 1, 0)] (q := 574) (ls' := [(2, -1), (2, 1), (2, 37), (0, i)]) (st' := [(0, 1), (0, i), (2, -1), (2, 1)]) (by decide +kernel) rfl ?_
  refine zwW_add (nx := 575) (by decide +kernel) (by first | omega | exact ⟨by omega, by omega⟩) ?_
  refine zwW_sld (nx := 576) (by decide +kernel) (by omega) (by omega) ?_
  obtain ⟨v1, ev1⟩ : ∃ z, z = sc.getD (i + 1).toNat 0 := ⟨_, rfl⟩
  rw [← ev1]
  have qv1 : -2147483648 ≤ v1 ∧ v1 ≤ 2147483647 := by rw [ev1]; exact zgetD hin _
  refine zwW_p [(1, 0, 2), (1, 3, 0), (0, 2, 0)] (q := 579) (ls' := [(2, -1), (2, 1), (2, 37), (0, i)]) (st' := [(0, 2), (0, i), (2, -1), (0, v1), (2, 1)]) (by decide +kernel) rfl ?_
  refine zwW_add (nx := 580) (by decide +kernel) (by first | omega | exact ⟨by omega, by omega⟩) ?_
  refine zwW_sld (nx := 581) (by decide +kernel) (by omega) (by omega) ?_
  obtain ⟨v2, ev2⟩ : ∃ z, z = sc.getD (i + 2).toNat 0 := ⟨_, rfl⟩
  rw [← ev2]
  have qv2 : -2147483648 ≤ v2 ∧ v2 ≤ 2147483647 := by rw [ev2]; exact zgetD hin _
  refine zwW_p [(1, 0, 2), (1, 3, 0), (0, 3, 0)] (q := 584) (ls' := [(2, -1), (2, 1), (2, 37), (0, i)]) (st' := [(0, 3), (0, i), (2, -1), (0, v2), (0, v1), (2, 1)]) (by decide +kernel) rfl ?_
  refine zwW_add (nx := 585) (by decide +kernel) (by first | omega | exact ⟨by omega, by omega⟩) ?_
  refine zwW_sld (nx := 586) (by decide +kernel) (by omega) (by omega) ?_
  obtain ⟨v3, ev3⟩ : ∃ z, z = sc.getD (i + 3).toNat 0 := ⟨_, rfl⟩
  rw [← ev3]
  have qv3 : -2147483648 ≤ v3 ∧ v3 ≤ 2147483647 := by rw [ev3]; exact zgetD hin _
  refine zwW_p [(1, 0, 2), (1, 3, 0), (0, 4, 0)] (q := 589) (ls' := [(2, -1), (2, 1), (2, 37), (0, i)]) (st' := [(0, 4), (0, i), (2, -1), (0, v3), (0, v2), (0, v1), (2, 1)]) (by decide +kernel) rfl ?_
  refine zwW_add (nx := 590) (by decide +kernel) (by first | omega | exact ⟨by omega, by omega⟩) ?_
  refine zwW_sld (nx := 591) (by decide +kernel) (by omega) (by omega) ?_
  obtain ⟨v4, ev4⟩ : ∃ z, z = sc.getD (i + 4).toNat 0 := ⟨_, rfl⟩
  rw [← ev4]
  have qv4 : -2147483648 ≤ v4 ∧ v4 ≤ 2147483647 := by rw [ev4]; exact zgetD hin _
  refine zwW_p [(1, 0, 2), (1, 3, 0), (0, 5, 0)] (q := 594) (ls' := [(2, -1), (2, 1), (2, 37), (0, i)]) (st' := [(0, 5), (0, i), (2, -1), (0, v4), (0, v3), (0, v2), (0, v1), (2, 1)]) (by decide +kernel) rfl ?_
  refine zwW_add (nx := 595) (by decide +kernel) (by first | omega | exact ⟨by omega, by omega⟩) ?_
  refine zwW_sld (nx := 596) (by decide +kernel) (by omega) (by omega) ?_
  obtain ⟨v5, ev5⟩ : ∃ z, z = sc.getD (i + 5).toNat 0 := ⟨_, rfl⟩
  rw [← ev5]
  have qv5 : -2147483648 ≤ v5 ∧ v5 ≤ 2147483647 := by rw [ev5]; exact zgetD hin _
  refine zwW_cm C.1 (op := 60) (k' := 23) (n := 5) (kd := 12) (m := 13) (nx := 599) (r := 1) (tl := [(0, v1), (0, v2), (0, v3), (0, v4), (0, v5)]) (st' := []) (by decide +kernel) rfl (by decide +kernel) rfl (x23 h C v1 v2 v3 v4 v5 (by omega) (by omega) (by omega) (by omega) (by omega)) ?_
  rintro v7 h8 ⟨Ch8, Qh8, f6⟩
  have Xh8 : zXR msxL (0) (0) h h8 := X.tr (c2 := 0) (s2 := 0) Qh8 (by decide +kernel) (by decide) (by decide)
  have th8_2_2 : fld h8 2 2 = fld h 2 2 := Qh8.f (a1 := 2) (a2 := 2) (j1 := 2) (j2 := 3) (by decide +kernel) (by first | decide | exact ⟨by decide, by decide⟩) (by first | decide | exact ⟨by decide, by decide⟩) (by first | decide | exact ⟨by decide, by decide⟩)
  have th8_37_1 : fld h8 37 1 = fld h 37 1 := Qh8.f (a1 := 37) (a2 := 37) (j1 := 1) (j2 := 2) (by decide +kernel) (by first | decide | exact ⟨by decide, by decide⟩) (by first | decide | exact ⟨by decide, by decide⟩) (by first | decide | exact ⟨by decide, by decide⟩)
  have th8_3_2 : fld h8 3 2 = fld h 3 2 := Qh8.f (a1 := 3) (a2 := 3) (j1 := 2) (j2 := 3) (by decide +kernel) (by first | decide | exact ⟨by decide, by decide⟩) (by first | decide | exact ⟨by decide, by decide⟩) (by first | decide | exact ⟨by decide, by decide⟩)
  have th8_37_2 : fld h8 37 2 = fld h 37 2 := Qh8.f (a1 := 37) (a2 := 37) (j1 := 2) (j2 := 3) (by decide +kernel) (by first | decide | exact ⟨by decide, by decide⟩) (by first | decide | exact ⟨by decide, by decide⟩) (by first | decide | exact ⟨by decide, by decide⟩)
  have th8_1_0 : fld h8 1 0 = fld h 1 0 := Qh8.f (a1 := 1) (a2 := 1) (j1 := 0) (j2 := 1) (by decide +kernel) (by first | decide | exact ⟨by decide, by decide⟩) (by first | decide | exact ⟨by decide, by decide⟩) (by first | decide | exact ⟨by decide, by decide⟩)
  have th8_37_0 : fld h8 37 0 = fld h 37 0 := Qh8.f (a1 := 37) (a2 := 37) (j1 := 0) (j2 := 1) (by decide +kernel) (by first | decide | exact ⟨by decide, by decide⟩) (by first | decide | exact ⟨by decide, by decide⟩) (by first | decide | exact ⟨by decide, by decide⟩)
  have th8_27_0 : fld h8 27 0 = fld h 27 0 := Qh8.f (a1 := 27) (a2 := 27) (j1 := 0) (j2 := 1) (by decide +kernel) (by first | decide | exact ⟨by decide, by decide⟩) (by first | decide | exact ⟨by decide, by decide⟩) (by first | decide | exact ⟨by decide, by decide⟩)
  have th8_37_96 : fld h8 37 96 = fld h 37 96 := Qh8.f (a1 := 37) (a2 := 37) (j1 := 96) (j2 := 97) (by decide +kernel) (by first | decide | exact ⟨by decide, by decide⟩) (by first | decide | exact ⟨by decide, by decide⟩) (by first | decide | exact ⟨by decide, by decide⟩)
  have Ah8 : zAM h8 := A.sm (fun r hr => Qh8.same (by decide +kernel) hr)
  have Wh8 : zCW h8 := W.sm C.1 (fun r hr => Qh8.same (by decide +kernel) hr)
  refine zwW_p [(15, 0, 0), (1, 2, 2), (1, 0, 2), (1, 3, 0), (0, 1, 0)] (q := 604) (ls' := [(2, -1), (2, 1), (2, 37), (0, i)]) (st' := [(0, 1), (0, i), (2, -1), (2, 37)]) (by decide +kernel) rfl ?_
  refine zwW_add (nx := 605) (by decide +kernel) (by first | omega | exact ⟨by omega, by omega⟩) ?_
  refine zwW_sld (nx := 606) (by decide +kernel) (by omega) (by omega) ?_
  rw [← ev1]
  refine zwW_p [(1, 0, 2), (1, 3, 0), (0, 2, 0)] (q := 609) (ls' := [(2, -1), (2, 1), (2, 37), (0, i)]) (st' := [(0, 2), (0, i), (2, -1), (0, v1), (2, 37)]) (by decide +kernel) rfl ?_
  refine zwW_add (nx := 610) (by decide +kernel) (by first | omega | exact ⟨by omega, by omega⟩) ?_
  refine zwW_sld (nx := 611) (by decide +kernel) (by omega) (by omega) ?_
  rw [← ev2]
  refine zwW_p [(1, 0, 2), (1, 3, 0), (0, 3, 0)] (q := 614) (ls' := [(2, -1), (2, 1), (2, 37), (0, i)]) (st' := [(0, 3), (0, i), (2, -1), (0, v2), (0, v1), (2, 37)]) (by decide +kernel) rfl ?_
  refine zwW_add (nx := 615) (by decide +kernel) (by first | omega | exact ⟨by omega, by omega⟩) ?_
  refine zwW_sld (nx := 616) (by decide +kernel) (by omega) (by omega) ?_
  rw [← ev3]
  refine zwW_p [(1, 0, 2), (1, 3, 0), (0, 4, 0)] (q := 619) (ls' := [(2, -1), (2, 1), (2, 37), (0, i)]) (st' := [(0, 4), (0, i), (2, -1), (0, v3), (0, v2), (0, v1), (2, 37)]) (by decide +kernel) rfl ?_
  refine zwW_add (nx := 620) (by decide +kernel) (by first | omega | exact ⟨by omega, by omega⟩) ?_
  refine zwW_sld (nx := 621) (by decide +kernel) (by omega) (by omega) ?_
  rw [← ev4]
  refine zwW_p [(1, 0, 2), (1, 3, 0), (0, 5, 0)] (q := 624) (ls' := [(2, -1), (2, 1), (2, 37), (0, i)]) (st' := [(0, 5), (0, i), (2, -1), (0, v4), (0, v3), (0, v2), (0, v1), (2, 37)]) (by decide +kernel) rfl ?_
  refine zwW_add (nx := 625) (by decide +kernel) (by first | omega | exact ⟨by omega, by omega⟩) ?_
  refine zwW_sld (nx := 626) (by decide +kernel) (by omega) (by omega) ?_
  rw [← ev5]
  refine zwW_cm Ch8.1 (op := 60) (k' := 24) (n := 5) (kd := 13) (m := 97) (nx := 629) (r := 37) (tl := [(0, v1), (0, v2), (0, v3), (0, v4), (0, v5)]) (st' := []) (by decide +kernel) rfl (by decide +kernel) rfl (m24 h8 Ch8.1 v1 v2 v3 v4 v5 (by omega) (by omega) (by omega) (by omega) (by omega)) ?_
  rintro v10 h9 ⟨Ih9, Qh9, f11, f12⟩
  obtain ⟨Ch9, Zh9⟩ := Ch8.m Ih9 Qh9 (by decide +kernel)
  have Xh9 : zXR msxL (0) (0) h h9 := Xh8.tr (c2 := 0) (s2 := 0) Zh9 (by decide +kernel) (by decide) (by decide)
  have th9_2_2 : fld h9 2 2 = fld h8 2 2 := Zh9.f (a1 := 2) (a2 := 2) (j1 := 2) (j2 := 3) (by decide +kernel) (by first | decide | exact ⟨by decide, by decide⟩) (by first | decide | exact ⟨by decide, by decide⟩) (by first | decide | exact ⟨by decide, by decide⟩)
  have th9_37_1 : fld h9 37 1 = fld h8 37 1 := Zh9.f (a1 := 37) (a2 := 37) (j1 := 1) (j2 := 2) (by decide +kernel) (by first | decide | exact ⟨by decide, by decide⟩) (by first | decide | exact ⟨by decide, by decide⟩) (by first | decide | exact ⟨by decide, by decide⟩)
  have th9_3_2 : fld h9 3 2 = fld h8 3 2 := Zh9.f (a1 := 3) (a2 := 3) (j1 := 2) (j2 := 3) (by decide +kernel) (by first | decide | exact ⟨by decide, by decide⟩) (by first | decide | exact ⟨by decide, by decide⟩) (by first | decide | exact ⟨by decide, by decide⟩)
  have th9_37_2 : fld h9 37 2 = fld h8 37 2 := Zh9.f (a1 := 37) (a2 := 37) (j1 := 2) (j2 := 3) (by decide +kernel) (by first | decide | exact ⟨by decide, by decide⟩) (by first | decide | exact ⟨by decide, by decide⟩) (by first | decide | exact ⟨by decide, by decide⟩)
  have th9_1_0 : fld h9 1 0 = fld h8 1 0 := Zh9.f (a1 := 1) (a2 := 1) (j1 := 0) (j2 := 1) (by decide +kernel) (by first | decide | exact ⟨by decide, by decide⟩) (by first | decide | exact ⟨by decide, by decide⟩) (by first | decide | exact ⟨by decide, by decide⟩)
  have th9_37_0 : fld h9 37 0 = fld h8 37 0 := Zh9.f (a1 := 37) (a2 := 37) (j1 := 0) (j2 := 1) (by decide +kernel) (by first | decide | exact ⟨by decide, by decide⟩) (by first | decide | exact ⟨by decide, by decide⟩) (by first | decide | exact ⟨by decide, by decide⟩)
  have th9_27_0 : fld h9 27 0 = fld h8 27 0 := Zh9.f (a1 := 27) (a2 := 27) (j1 := 0) (j2 := 1) (by decide +kernel) (by first | decide | exact ⟨by decide, by decide⟩) (by first | decide | exact ⟨by decide, by decide⟩) (by first | decide | exact ⟨by decide, by decide⟩)
  have th9_37_96 : fld h9 37 96 = fld h8 37 96 := Zh9.f (a1 := 37) (a2 := 37) (j1 := 96) (j2 := 97) (by decide +kernel) (by first | decide | exact ⟨by decide, by decide⟩) (by first | decide | exact ⟨by decide, by decide⟩) (by first | decide | exact ⟨by decide, by decide⟩)
  have Ah9 : zAM h9 := Ah8.mr Qh9 (by decide +kernel) (Ch8.1.b (a1 := 37) (a2 := 37) (j1 := 2) (j2 := 3) (lo := 0) (hi := 20) (by decide +kernel) (by decide) (by decide) (by decide) (by decide)).2
  have Wh9 : zCW h9 := Wh8.mr Ch8.1 Qh9 (by decide +kernel)
  have TT : zXR [(9, 9, 0, 1), (10, 10, 0, 400), (37, 37, 41, 42), (98, 98, 0, 400)] (0) (0) h h9 := (Qh8.mono (ms' := [(9, 9, 0, 1), (10, 10, 0, 400), (37, 37, 41, 42), (98, 98, 0, 400)]) (by decide +kernel)).tr (c2 := 0) (s2 := 0) Zh9 (by decide +kernel) (by decide) (by decide)
  have Eh9 : zE h9 := ⟨zQS.st (T := []) TT E.1 (by decide +kernel) zQS.nil, zNM.st (T := []) TT C E.2.1 (by decide +kernel) zNM.nil, zFL.st (T := []) TT C E.2.2.1 (by decide +kernel) zFL.nil, zZL.st (T := []) TT E.2.2.2.1 (by decide +kernel) zZL.nil, zRL.st (T := []) TT C E.2.2.2.2.1 (by decide +kernel) zRL.nil, E.2.2.2.2.2.kp TT (by decide +kernel) (by omega)⟩
  refine zwW_p [(15, 0, 0), (24, 1605, 0)] (q := 1605) (ls' := [(2, -1), (2, 1), (2, 37), (0, i)]) (st' := []) (by decide +kernel) rfl ?_
  exact k _ ⟨Ch9, Ah9, Wh9, Eh9, _, Xh9.le (by decide) (by decide)⟩
theorem zl_633 {sc : List Int} {Q : Option Vl → Hp → Prop} (h : Hp) (C : CI h) (A : zAM h) (W : zCW h) (E : zE h) (hl : h.length ≤ 800000) (hin : ∀ x ∈ sc, in32 x) (i : Int) (hi : 0 ≤ i ∧ i + 6 ≤ sc.length) (hs : sc.length ≤ 3072) (k : ∀ g, zLJ h g → zwW sc 400 0 1605 [(2, -1), (2, 1), (2, 37), (0, i)] [] g Q) : zwW sc 400 0 633 [(2, -1), (2, 1), (2, 37), (0, i)] [] h Q := by
  have X : zXR msxL 0 0 h h := zXR.rf _ _
  have E2_2 := zE_s2_2 E
  have E3_2 := zE_s3_2 E
  have E1_0 := zE_s1_0 E
  have E27_0 := zE_s27_0 E
  refine zwW_p [(1, 1, 2), (1, 0, 2), (1, 3, 0), (0, 1, 0)] (q := 637) (ls' := [(2, -1), (2, 1), (2, 37), (0, i)]) (st' := [(0, 1), (0, i), (2, -1), (2, 1)]) (by decide +kernel) rfl ?_
  refine zwW_add (nx := 638) (by decide +kernel) (by first | omega | exact ⟨by omega, by omega⟩) ?_
  refine zwW_sld (nx := 639) (by decide +kernel) (by omega) (by omega) ?_
  obtain ⟨v1, ev1⟩ : ∃ z, z = sc.getD (i + 1).toNat 0 := ⟨_, rfl⟩
  rw [← ev1]
  have qv1 : -2147483648 ≤ v1 ∧ v1 ≤ 2147483647 := by rw [ev1]; exact zgetD hin _
  refine zwW_cm C.1 (op := 60) (k' := 25) (n := 1) (kd := 12) (m := 13) (nx := 642) (r := 1) (tl := [(0, v1)]) (st' := []) (by decide +kernel) rfl (by decide +kernel) rfl (x25 h C v1 (by omega)) ?_
  rintro v3 h4 ⟨Ch4, Qh4, f2⟩
  have Xh4 : zXR msxL (0) (0) h h4 := X.tr (c2 := 0) (s2 := 0) Qh4 (by decide +kernel) (by decide) (by decide)
  have th4_2_2 : fld h4 2 2 = fld h 2 2 := Qh4.f (a1 := 2) (a2 := 2) (j1 := 2) (j2 := 3) (by decide +kernel) (by first | decide | exact ⟨by decide, by decide⟩) (by first | decide | exact ⟨by decide, by decide⟩) (by first | decide | exact ⟨by decide, by decide⟩)
  have th4_37_1 : fld h4 37 1 = fld h 37 1 := Qh4.f (a1 := 37) (a2 := 37) (j1 := 1) (j2 := 2) (by decide +kernel) (by first | decide | exact ⟨by decide, by decide⟩) (by first | decide | exact ⟨by decide, by decide⟩) (by first | decide | exact ⟨by decide, by decide⟩)
  have th4_3_2 : fld h4 3 2 = fld h 3 2 := Qh4.f (a1 := 3) (a2 := 3) (j1 := 2) (j2 := 3) (by decide +kernel) (by first | decide | exact ⟨by decide, by decide⟩) (by first | decide | exact ⟨by decide, by decide⟩) (by first | decide | exact ⟨by decide, by decide⟩)
  have th4_37_2 : fld h4 37 2 = fld h 37 2 := Qh4.f (a1 := 37) (a2 := 37) (j1 := 2) (j2 := 3) (by decide +kernel) (by first | decide | exact ⟨by decide, by decide⟩) (by first | decide | exact ⟨by decide, by decide⟩) (by first | decide | exact ⟨by decide, by decide⟩)
  have th4_1_0 : fld h4 1 0 = fld h 1 0 := Qh4.f (a1 := 1) (a2 := 1) (j1 := 0) (j2 := 1) (by decide +kernel) (by first | decide | exact ⟨by decide, by decide⟩) (by first | decide | exact ⟨by decide, by decide⟩) (by first | decide | exact ⟨by decide, by decide⟩)
  have th4_37_0 : fld h4 37 0 = fld h 37 0 := Qh4.f (a1 := 37) (a2 := 37) (j1 := 0) (j2 := 1) (by decide +kernel) (by first | decide | exact ⟨by decide, by decide⟩) (by first | decide | exact ⟨by decide, by decide⟩) (by first | decide | exact ⟨by decide, by decide⟩)
  have th4_27_0 : fld h4 27 0 = fld h 27 0 := Qh4.f (a1 := 27) (a2 := 27) (j1 := 0) (j2 := 1) (by decide +kernel) (by first | decide | exact ⟨by decide, by decide⟩) (by first | decide | exact ⟨by decide, by decide⟩) (by first | decide | exact ⟨by decide, by decide⟩)
  have th4_37_96 : fld h4 37 96 = fld h 37 96 := Qh4.f (a1 := 37) (a2 := 37) (j1 := 96) (j2 := 97) (by decide +kernel) (by first | decide | exact ⟨by decide, by decide⟩) (by first | decide | exact ⟨by decide, by decide⟩) (by first | decide | exact ⟨by decide, by decide⟩)
  have Ah4 : zAM h4 := A.sm (fun r hr => Qh4.same (by decide +kernel) hr)
  have Wh4 : zCW h4 := W.sm C.1 (fun r hr => Qh4.same (by decide +kernel) hr)
  refine zwW_p [(15, 0, 0), (1, 2, 2), (1, 0, 2), (1, 3, 0), (0, 1, 0)] (q := 647) (ls' := [(2, -1), (2, 1), (2, 37), (0, i)]) (st' := [(0, 1), (0, i), (2, -1), (2, 37)]) (by decide +kernel) rfl ?_
  refine zwW_add (nx := 648) (by decide +kernel) (by first | omega | exact ⟨by omega, by omega⟩) ?_
  refine zwW_sld (nx := 649) (by decide +kernel) (by omega) (by omega) ?_
  rw [← ev1]
  refine zwW_cm Ch4.1 (op := 60) (k' := 26) (n := 1) (kd := 13) (m := 97) (nx := 652) (r := 37) (tl := [(0, v1)]) (st' := []) (by decide +kernel) rfl (by decide +kernel) rfl (m26 h4 Ch4.1 v1) ?_
  rintro v6 h5 ⟨Ih5, Qh5, f7, f8⟩
  obtain ⟨Ch5, Zh5⟩ := Ch4.m Ih5 Qh5 (by decide +kernel)
  have Xh5 : zXR msxL (0) (0) h h5 := Xh4.tr (c2 := 0) (s2 := 0) Zh5 (by decide +kernel) (by decide) (by decide)
  have th5_2_2 : fld h5 2 2 = fld h4 2 2 := Zh5.f (a1 := 2) (a2 := 2) (j1 := 2) (j2 := 3) (by decide +kernel) (by first | decide | exact ⟨by decide, by decide⟩) (by first | decide | exact ⟨by decide, by decide⟩) (by first | decide | exact ⟨by decide, by decide⟩)
  have th5_37_1 : fld h5 37 1 = fld h4 37 1 := Zh5.f (a1 := 37) (a2 := 37) (j1 := 1) (j2 := 2) (by decide +kernel) (by first | decide | exact ⟨by decide, by decide⟩) (by first | decide | exact ⟨by decide, by decide⟩) (by first | decide | exact ⟨by decide, by decide⟩)
  have th5_3_2 : fld h5 3 2 = fld h4 3 2 := Zh5.f (a1 := 3) (a2 := 3) (j1 := 2) (j2 := 3) (by decide +kernel) (by first | decide | exact ⟨by decide, by decide⟩) (by first | decide | exact ⟨by decide, by decide⟩) (by first | decide | exact ⟨by decide, by decide⟩)
  have th5_37_2 : fld h5 37 2 = fld h4 37 2 := Zh5.f (a1 := 37) (a2 := 37) (j1 := 2) (j2 := 3) (by decide +kernel) (by first | decide | exact ⟨by decide, by decide⟩) (by first | decide | exact ⟨by decide, by decide⟩) (by first | decide | exact ⟨by decide, by decide⟩)
  have th5_1_0 : fld h5 1 0 = fld h4 1 0 := Zh5.f (a1 := 1) (a2 := 1) (j1 := 0) (j2 := 1) (by decide +kernel) (by first | decide | exact ⟨by decide, by decide⟩) (by first | decide | exact ⟨by decide, by decide⟩) (by first | decide | exact ⟨by decide, by decide⟩)
  have th5_37_0 : fld h5 37 0 = fld h4 37 0 := Zh5.f (a1 := 37) (a2 := 37) (j1 := 0) (j2 := 1) (by decide +kernel) (by first | decide | exact ⟨by decide, by decide⟩) (by first | decide | exact ⟨by decide, by decide⟩) (by first | decide | exact ⟨by decide, by decide⟩)
  have th5_27_0 : fld h5 27 0 = fld h4 27 0 := Zh5.f (a1 := 27) (a2 := 27) (j1 := 0) (j2 := 1) (by decide +kernel) (by first | decide | exact ⟨by decide, by decide⟩) (by first | decide | exact ⟨by decide, by decide⟩) (by first | decide | exact ⟨by decide, by decide⟩)
  have th5_37_96 : fld h5 37 96 = fld h4 37 96 := Zh5.f (a1 := 37) (a2 := 37) (j1 := 96) (j2 := 97) (by decide +kernel) (by first | decide | exact ⟨by decide, by decide⟩) (by first | decide | exact ⟨by decide, by decide⟩) (by first | decide | exact ⟨by decide, by decide⟩)
  have Ah5 : zAM h5 := Ah4.mr Qh5 (by decide +kernel) (Ch4.1.b (a1 := 37) (a2 := 37) (j1 := 2) (j2 := 3) (lo := 0) (hi := 20) (by decide +kernel) (by decide) (by decide) (by decide) (by decide)).2
  have Wh5 : zCW h5 := Wh4.mr Ch4.1 Qh5 (by decide +kernel)
  have TT : zXR [(9, 9, 0, 1), (37, 37, 41, 42)] (0) (0) h h5 := (Qh4.mono (ms' := [(9, 9, 0, 1), (37, 37, 41, 42)]) (by decide +kernel)).tr (c2 := 0) (s2 := 0) Zh5 (by decide +kernel) (by decide) (by decide)
  have Eh5 : zE h5 := ⟨zQS.st (T := []) TT E.1 (by decide +kernel) zQS.nil, zNM.st (T := []) TT C E.2.1 (by decide +kernel) zNM.nil, zFL.st (T := []) TT C E.2.2.1 (by decide +kernel) zFL.nil, zZL.st (T := []) TT E.2.2.2.1 (by decide +kernel) zZL.nil, zRL.st (T := []) TT C E.2.2.2.2.1 (by decide +kernel) zRL.nil, E.2.2.2.2.2.kp TT (by decide +kernel) (by omega)⟩
  refine zwW_p [(15, 0, 0), (24, 1605, 0)] (q := 1605) (ls' := [(2, -1), (2, 1), (2, 37), (0, i)]) (st' := []) (by decide +kernel) rfl ?_
  exact k _ ⟨Ch5, Ah5, Wh5, Eh5, _, Xh5.le (by decide) (by decide)⟩
theorem zl_656 {sc : List Int} {Q : Option Vl → Hp → Prop} (h : Hp) (C : CI h) (A : zAM h) (W : zCW h) (E : zE h) (hl : h.length ≤ 800000) (hin : ∀ x ∈ sc, in32 x) (i : Int) (hi : 0 ≤ i ∧ i + 6 ≤ sc.length) (hs : sc.length ≤ 3072) (k : ∀ g, zLJ h g → zwW sc 400 0 1605 [(2, -1), (2, 1), (2, 37), (0, i)] [] g Q) : zwW sc 400 0 656 [(2, -1), (2, 1), (2, 37), (0, i)] [] h Q := by
  have X : zXR msxL 0 0 h h := zXR.rf _ _
  have E2_2 := zE_s2_2 E
  have E3_2 := zE_s3_2 E
  have E1_0 := zE_s1_0 E
  have E27_0 := zE_s27_0 E
  refine zwW_p [(1, 1, 2)] (q := 657) (ls' := [(2, -1), (2, 1), (2, 37), (0, i)]) (st' := [(2, 1)]) (by decide +kernel) rfl ?_
  refine zwW_cm C.1 (op := 60) (k' := 27) (n := 0) (kd := 12) (m := 13) (nx := 660) (r := 1) (tl := []) (st' := []) (by decide +kernel) rfl (by decide +kernel) rfl (x27 h C) ?_
  rintro v2 h3 ⟨Ch3, Qh3, f1⟩
  have Xh3 : zXR msxL (0) (0) h h3 := X.tr (c2 := 0) (s2 := 0) Qh3 (by decide +kernel) (by decide) (by decide)
  have th3_2_2 : fld h3 2 2 = fld h 2 2 := Qh3.f (a1 := 2) (a2 := 2) (j1 := 2) (j2 := 3) (by decide +kernel) (by first | decide | exact ⟨by decide, by decide⟩) (by first | decide | exact ⟨by decide, by decide⟩) (by first | decide | exact ⟨by decide, by decide⟩)
  have th3_37_1 : fld h3 37 1 = fld h 37 1 := Qh3.f (a1 := 37) (a2 := 37) (j1 := 1) (j2 := 2) (by decide +kernel) (by first | decide | exact ⟨by decide, by decide⟩) (by first | decide | exact ⟨by decide, by decide⟩) (by first | decide | exact ⟨by decide, by decide⟩)
  have th3_3_2 : fld h3 3 2 = fld h 3 2 := Qh3.f (a1 := 3) (a2 := 3) (j1 := 2) (j2 := 3) (by decide +kernel) (by first | decide | exact ⟨by decide, by decide⟩) (by first | decide | exact ⟨by decide, by decide⟩) (by first | decide | exact ⟨by decide, by decide⟩)
  have th3_37_2 : fld h3 37 2 = fld h 37 2 := Qh3.f (a1 := 37) (a2 := 37) (j1 := 2) (j2 := 3) (by decide +kernel) (by first | decide | exact ⟨by decide, by decide⟩) (by first | decide | exact ⟨by decide, by decide⟩) (by first | decide | exact ⟨by decide, by decide⟩)
  have th3_1_0 : fld h3 1 0 = fld h 1 0 := Qh3.f (a1 := 1) (a2 := 1) (j1 := 0) (j2 := 1) (by decide +kernel) (by first | decide | exact ⟨by decide, by decide⟩) (by first | decide | exact ⟨by decide, by decide⟩) (by first | decide | exact ⟨by decide, by decide⟩)
  have th3_37_0 : fld h3 37 0 = fld h 37 0 := Qh3.f (a1 := 37) (a2 := 37) (j1 := 0) (j2 := 1) (by decide +kernel) (by first | decide | exact ⟨by decide, by decide⟩) (by first | decide | exact ⟨by decide, by decide⟩) (by first | decide | exact ⟨by decide, by decide⟩)
  have th3_27_0 : fld h3 27 0 = fld h 27 0 := Qh3.f (a1 := 27) (a2 := 27) (j1 := 0) (j2 := 1) (by decide +kernel) (by first | decide | exact ⟨by decide, by decide⟩) (by first | decide | exact ⟨by decide, by decide⟩) (by first | decide | exact ⟨by decide, by decide⟩)
  have th3_37_96 : fld h3 37 96 = fld h 37 96 := Qh3.f (a1 := 37) (a2 := 37) (j1 := 96) (j2 := 97) (by decide +kernel) (by first | decide | exact ⟨by decide, by decide⟩) (by first | decide | exact ⟨by decide, by decide⟩) (by first | decide | exact ⟨by decide, by decide⟩)
  have Ah3 : zAM h3 := A.sm (fun r hr => Qh3.same (by decide +kernel) hr)
  have Wh3 : zCW h3 := W.sm C.1 (fun r hr => Qh3.same (by decide +kernel) hr)
  refine zwW_p [(15, 0, 0), (1, 2, 2)] (q := 662) (ls' := [(2, -1), (2, 1), (2, 37), (0, i)]) (st' := [(2, 37)]) (by decide +kernel) rfl ?_
  refine zwW_cm Ch3.1 (op := 60) (k' := 28) (n := 0) (kd := 13) (m := 97) (nx := 665) (r := 37) (tl := []) (st' := []) (by decide +kernel) rfl (by decide +kernel) rfl (m28 h3 Ch3.1) ?_
  rintro v5 h4 ⟨Ih4, Qh4, f6⟩
  obtain ⟨Ch4, Zh4⟩ := Ch3.m Ih4 Qh4 (by decide +kernel)
  have Xh4 : zXR msxL (0) (0) h h4 := Xh3.tr (c2 := 0) (s2 := 0) Zh4 (by decide +kernel) (by decide) (by decide)
  have th4_2_2 : fld h4 2 2 = fld h3 2 2 := Zh4.f (a1 := 2) (a2 := 2) (j1 := 2) (j2 := 3) (by decide +kernel) (by first | decide | exact ⟨by decide, by decide⟩) (by first | decide | exact ⟨by decide, by decide⟩) (by first | decide | exact ⟨by decide, by decide⟩)
  have th4_37_1 : fld h4 37 1 = fld h3 37 1 := Zh4.f (a1 := 37) (a2 := 37) (j1 := 1) (j2 := 2) (by decide +kernel) (by first | decide | exact ⟨by decide, by decide⟩) (by first | decide | exact ⟨by decide, by decide⟩) (by first | decide | exact ⟨by decide, by decide⟩)
  have th4_3_2 : fld h4 3 2 = fld h3 3 2 := Zh4.f (a1 := 3) (a2 := 3) (j1 := 2) (j2 := 3) (by decide +kernel) (by first | decide | exact ⟨by decide, by decide⟩) (by first | decide | exact ⟨by decide, by decide⟩) (by first | decide | exact ⟨by decide, by decide⟩)
  have th4_37_2 : fld h4 37 2 = fld h3 37 2 := Zh4.f (a1 := 37) (a2 := 37) (j1 := 2) (j2 := 3) (by decide +kernel) (by first | decide | exact ⟨by decide, by decide⟩) (by first | decide | exact ⟨by decide, by decide⟩) (by first | decide | exact ⟨by decide, by decide⟩)
  have th4_1_0 : fld h4 1 0 = fld h3 1 0 := Zh4.f (a1 := 1) (a2 := 1) (j1 := 0) (j2 := 1) (by decide +kernel) (by first | decide | exact ⟨by decide, by decide⟩) (by first | decide | exact ⟨by decide, by decide⟩) (by first | decide | exact ⟨by decide, by decide⟩)
  have th4_37_0 : fld h4 37 0 = fld h3 37 0 := Zh4.f (a1 := 37) (a2 := 37) (j1 := 0) (j2 := 1) (by decide +kernel) (by first | decide | exact ⟨by decide, by decide⟩) (by first | decide | exact ⟨by decide, by decide⟩) (by first | decide | exact ⟨by decide, by decide⟩)
  have th4_27_0 : fld h4 27 0 = fld h3 27 0 := Zh4.f (a1 := 27) (a2 := 27) (j1 := 0) (j2 := 1) (by decide +kernel) (by first | decide | exact ⟨by decide, by decide⟩) (by first | decide | exact ⟨by decide, by decide⟩) (by first | decide | exact ⟨by decide, by decide⟩)
  have th4_37_96 : fld h4 37 96 = fld h3 37 96 := Zh4.f (a1 := 37) (a2 := 37) (j1 := 96) (j2 := 97) (by decide +kernel) (by first | decide | exact ⟨by decide, by decide⟩) (by first | decide | exact ⟨by decide, by decide⟩) (by first | decide | exact ⟨by decide, by decide⟩)
  have Ah4 : zAM h4 := Ah3.mr Qh4 (by decide +kernel) (Ch3.1.b (a1 := 37) (a2 := 37) (j1 := 2) (j2 := 3) (lo := 0) (hi := 20) (by decide +kernel) (by decide) (by decide) (by decide) (by decide)).2
  have Wh4 : zCW h4 := Wh3.mr Ch3.1 Qh4 (by decide +kernel)
  have TT : zXR [(9, 9, 2, 7), (11, 11, 0, 400), (12, 12, 0, 5), (37, 37, 42, 47), (37, 37, 47, 48), (149, 153, 0, 840), (163, 163, 0, 5)] (0) (0) h h4 := (Qh3.mono (ms' := [(9, 9, 2, 7), (11, 11, 0, 400), (12, 12, 0, 5), (37, 37, 42, 47), (37, 37, 47, 48), (149, 153, 0, 840), (163, 163, 0, 5)]) (by decide +kernel)).tr (c2 := 0) (s2 := 0) Zh4 (by decide +kernel) (by decide) (by decide)
  have Eh4 : zE h4 := ⟨zQS.st (T := []) TT E.1 (by decide +kernel) zQS.nil, zNM.st (T := []) TT C E.2.1 (by decide +kernel) zNM.nil, zFL.st (T := []) TT C E.2.2.1 (by decide +kernel) zFL.nil, zZL.st (T := []) TT E.2.2.2.1 (by decide +kernel) zZL.nil, zRL.st (T := []) TT C E.2.2.2.2.1 (by decide +kernel) zRL.nil, E.2.2.2.2.2.kp TT (by decide +kernel) (by omega)⟩
  refine zwW_p [(15, 0, 0), (24, 1605, 0)] (q := 1605) (ls' := [(2, -1), (2, 1), (2, 37), (0, i)]) (st' := []) (by decide +kernel) rfl ?_
  exact k _ ⟨Ch4, Ah4, Wh4, Eh4, _, Xh4.le (by decide) (by decide)⟩
theorem zl_669 {sc : List Int} {Q : Option Vl → Hp → Prop} (h : Hp) (C : CI h) (A : zAM h) (W : zCW h) (E : zE h) (hl : h.length ≤ 800000) (hin : ∀ x ∈ sc, in32 x) (i : Int) (hi : 0 ≤ i ∧ i + 6 ≤ sc.length) (hs : sc.length ≤ 3072) (k : ∀ g, zLJ h g → zwW sc 400 0 1605 [(2, -1), (2, 1), (2, 37), (0, i)] [] g Q) : zwW sc 400 0 669 [(2, -1), (2, 1), (2, 37), (0, i)] [] h Q := by
  have X : zXR msxL 0 0 h h := zXR.rf _ _
  have E2_2 := zE_s2_2 E
  have E3_2 := zE_s3_2 E
  have E1_0 := zE_s1_0 E
  have E27_0 := zE_s27_0 E
  refine zwW_p [(1, 1, 2)] (q := 670) (ls' := [(2, -1), (2, 1), (2, 37), (0, i)]) (st' := [(2, 1)]) (by decide +kernel) rfl ?_
  refine zwW_cm C.1 (op := 60) (k' := 29) (n := 0) (kd := 12) (m := 13) (nx := 673) (r := 1) (tl := []) (st' := []) (by decide +kernel) rfl (by decide +kernel) rfl (x29 h C (by omega)) ?_
  rintro v2 h3 ⟨Ch3, Qh3, f1⟩
  have Xh3 : zXR msxL (4) (1408) h h3 := X.tr (c2 := 4) (s2 := 1408) Qh3 (by decide +kernel) (by decide) (by decide)
  have th3_2_2 : fld h3 2 2 = fld h 2 2 := Qh3.f (a1 := 2) (a2 := 2) (j1 := 2) (j2 := 3) (by decide +kernel) (by first | decide | exact ⟨by decide, by decide⟩) (by first | decide | exact ⟨by decide, by decide⟩) (by first | decide | exact ⟨by decide, by decide⟩)
  have th3_37_1 : fld h3 37 1 = fld h 37 1 := Qh3.f (a1 := 37) (a2 := 37) (j1 := 1) (j2 := 2) (by decide +kernel) (by first | decide | exact ⟨by decide, by decide⟩) (by first | decide | exact ⟨by decide, by decide⟩) (by first | decide | exact ⟨by decide, by decide⟩)
  have th3_3_2 : fld h3 3 2 = fld h 3 2 := Qh3.f (a1 := 3) (a2 := 3) (j1 := 2) (j2 := 3) (by decide +kernel) (by first | decide | exact ⟨by decide, by decide⟩) (by first | decide | exact ⟨by decide, by decide⟩) (by first | decide | exact ⟨by decide, by decide⟩)
  have th3_37_2 : fld h3 37 2 = fld h 37 2 := Qh3.f (a1 := 37) (a2 := 37) (j1 := 2) (j2 := 3) (by decide +kernel) (by first | decide | exact ⟨by decide, by decide⟩) (by first | decide | exact ⟨by decide, by decide⟩) (by first | decide | exact ⟨by decide, by decide⟩)
  have th3_1_0 : fld h3 1 0 = fld h 1 0 := Qh3.f (a1 := 1) (a2 := 1) (j1 := 0) (j2 := 1) (by decide +kernel) (by first | decide | exact ⟨by decide, by decide⟩) (by first | decide | exact ⟨by decide, by decide⟩) (by first | decide | exact ⟨by decide, by decide⟩)
  have th3_37_0 : fld h3 37 0 = fld h 37 0 := Qh3.f (a1 := 37) (a2 := 37) (j1 := 0) (j2 := 1) (by decide +kernel) (by first | decide | exact ⟨by decide, by decide⟩) (by first | decide | exact ⟨by decide, by decide⟩) (by first | decide | exact ⟨by decide, by decide⟩)
  have th3_27_0 : fld h3 27 0 = fld h 27 0 := Qh3.f (a1 := 27) (a2 := 27) (j1 := 0) (j2 := 1) (by decide +kernel) (by first | decide | exact ⟨by decide, by decide⟩) (by first | decide | exact ⟨by decide, by decide⟩) (by first | decide | exact ⟨by decide, by decide⟩)
  have th3_37_96 : fld h3 37 96 = fld h 37 96 := Qh3.f (a1 := 37) (a2 := 37) (j1 := 96) (j2 := 97) (by decide +kernel) (by first | decide | exact ⟨by decide, by decide⟩) (by first | decide | exact ⟨by decide, by decide⟩) (by first | decide | exact ⟨by decide, by decide⟩)
  have Ah3 : zAM h3 := A.sm (fun r hr => Qh3.same (by decide +kernel) hr)
  have Wh3 : zCW h3 := W.sm C.1 (fun r hr => Qh3.same (by decide +kernel) hr)
  refine zwW_p [(15, 0, 0), (1, 2, 2)] (q := 675) (ls' := [(2, -1), (2, 1), (2, 37), (0, i)]) (st' := [(2, 37)]) (by decide +kernel) rfl ?_
  refine zwW_cm Ch3.1 (op := 60) (k' := 30) (n := 0) (kd := 13) (m := 97) (nx := 678) (r := 37) (tl := []) (st' := []) (by decide +kernel) rfl (by decide +kernel) rfl (m30 h3 Ch3.1 Wh3) ?_
  rintro v5 h4 ⟨Ih4, Qh4, f6, f7⟩
  obtain ⟨Ch4, Zh4⟩ := Ch3.m Ih4 Qh4 (by decide +kernel)
  have Xh4 : zXR msxL (4) (1408) h h4 := Xh3.tr (c2 := 4) (s2 := 1408) Zh4 (by decide +kernel) (by decide) (by decide)
  have th4_2_2 : fld h4 2 2 = fld h3 2 2 := Zh4.f (a1 := 2) (a2 := 2) (j1 := 2) (j2 := 3) (by decide +kernel) (by first | decide | exact ⟨by decide, by decide⟩) (by first | decide | exact ⟨by decide, by decide⟩) (by first | decide | exact ⟨by decide, by decide⟩)
  have th4_37_1 : fld h4 37 1 = fld h3 37 1 := Zh4.f (a1 := 37) (a2 := 37) (j1 := 1) (j2 := 2) (by decide +kernel) (by first | decide | exact ⟨by decide, by decide⟩) (by first | decide | exact ⟨by decide, by decide⟩) (by first | decide | exact ⟨by decide, by decide⟩)
  have th4_3_2 : fld h4 3 2 = fld h3 3 2 := Zh4.f (a1 := 3) (a2 := 3) (j1 := 2) (j2 := 3) (by decide +kernel) (by first | decide | exact ⟨by decide, by decide⟩) (by first | decide | exact ⟨by decide, by decide⟩) (by first | decide | exact ⟨by decide, by decide⟩)
  have th4_37_2 : fld h4 37 2 = fld h3 37 2 := Zh4.f (a1 := 37) (a2 := 37) (j1 := 2) (j2 := 3) (by decide +kernel) (by first | decide | exact ⟨by decide, by decide⟩) (by first | decide | exact ⟨by decide, by decide⟩) (by first | decide | exact ⟨by decide, by decide⟩)
  have th4_1_0 : fld h4 1 0 = fld h3 1 0 := Zh4.f (a1 := 1) (a2 := 1) (j1 := 0) (j2 := 1) (by decide +kernel) (by first | decide | exact ⟨by decide, by decide⟩) (by first | decide | exact ⟨by decide, by decide⟩) (by first | decide | exact ⟨by decide, by decide⟩)
  have th4_37_0 : fld h4 37 0 = fld h3 37 0 := Zh4.f (a1 := 37) (a2 := 37) (j1 := 0) (j2 := 1) (by decide +kernel) (by first | decide | exact ⟨by decide, by decide⟩) (by first | decide | exact ⟨by decide, by decide⟩) (by first | decide | exact ⟨by decide, by decide⟩)
  have th4_27_0 : fld h4 27 0 = fld h3 27 0 := Zh4.f (a1 := 27) (a2 := 27) (j1 := 0) (j2 := 1) (by decide +kernel) (by first | decide | exact ⟨by decide, by decide⟩) (by first | decide | exact ⟨by decide, by decide⟩) (by first | decide | exact ⟨by decide, by decide⟩)
  have th4_37_96 : fld h4 37 96 = fld h3 37 96 := Zh4.f (a1 := 37) (a2 := 37) (j1 := 96) (j2 := 97) (by decide +kernel) (by first | decide | exact ⟨by decide, by decide⟩) (by first | decide | exact ⟨by decide, by decide⟩) (by first | decide | exact ⟨by decide, by decide⟩)
  have Ah4 : zAM h4 := Ah3.mr Qh4 (by decide +kernel) (Ch3.1.b (a1 := 37) (a2 := 37) (j1 := 2) (j2 := 3) (lo := 0) (hi := 20) (by decide +kernel) (by decide) (by decide) (by decide) (by decide)).2
  have TT : zXR [(9, 9, 0, 1), (9, 9, 2, 7), (11, 11, 0, 400), (12, 12, 0, 5), (14, 14, 0, 3), (37, 37, 41, 42), (37, 37, 42, 47), (37, 37, 47, 48), (37, 37, 52, 53), (101, 153, 0, 840), (155, 163, 0, 5)] (4) (1408) h h4 := (Qh3.mono (ms' := [(9, 9, 0, 1), (9, 9, 2, 7), (11, 11, 0, 400), (12, 12, 0, 5), (14, 14, 0, 3), (37, 37, 41, 42), (37, 37, 42, 47), (37, 37, 47, 48), (37, 37, 52, 53), (101, 153, 0, 840), (155, 163, 0, 5)]) (by decide +kernel)).tr (c2 := 4) (s2 := 1408) Zh4 (by decide +kernel) (by decide) (by decide)
  have Eh4 : zE h4 := ⟨zQS.st (T := []) TT E.1 (by decide +kernel) zQS.nil, zNM.st (T := []) TT C E.2.1 (by decide +kernel) zNM.nil, zFL.st (T := []) TT C E.2.2.1 (by decide +kernel) zFL.nil, zZL.st (T := []) TT E.2.2.2.1 (by decide +kernel) zZL.nil, zRL.st (T := []) TT C E.2.2.2.2.1 (by decide +kernel) zRL.nil, E.2.2.2.2.2.kp TT (by decide +kernel) (by omega)⟩
  refine zwW_p [(15, 0, 0), (24, 1605, 0)] (q := 1605) (ls' := [(2, -1), (2, 1), (2, 37), (0, i)]) (st' := []) (by decide +kernel) rfl ?_
  exact k _ ⟨Ch4, Ah4, f7, Eh4, _, Xh4.le (by decide) (by decide)⟩
theorem zl_682 {sc : List Int} {Q : Option Vl → Hp → Prop} (h : Hp) (C : CI h) (A : zAM h) (W : zCW h) (E : zE h) (hl : h.length ≤ 800000) (hin : ∀ x ∈ sc, in32 x) (i : Int) (hi : 0 ≤ i ∧ i + 6 ≤ sc.length) (hs : sc.length ≤ 3072) (k : ∀ g, zLJ h g → zwW sc 400 0 1605 [(2, -1), (2, 1), (2, 37), (0, i)] [] g Q) : zwW sc 400 0 682 [(2, -1), (2, 1), (2, 37), (0, i)] [] h Q := by
  have X : zXR msxL 0 0 h h := zXR.rf _ _
  have E2_2 := zE_s2_2 E
  have E3_2 := zE_s3_2 E
  have E1_0 := zE_s1_0 E
  have E27_0 := zE_s27_0 E
  refine zwW_p [(1, 1, 2), (1, 0, 2), (1, 3, 0), (0, 1, 0)] (q := 686) (ls' := [(2, -1), (2, 1), (2, 37), (0, i)]) (st' := [(0, 1), (0, i), (2, -1), (2, 1)]) (by decide +kernel) rfl ?_
  refine zwW_add (nx := 687) (by decide +kernel) (by first | omega | exact ⟨by omega, by omega⟩) ?_
  refine zwW_sld (nx := 688) (by decide +kernel) (by omega) (by omega) ?_
  obtain ⟨v1, ev1⟩ : ∃ z, z = sc.getD (i + 1).toNat 0 := ⟨_, rfl⟩
  rw [← ev1]
  have qv1 : -2147483648 ≤ v1 ∧ v1 ≤ 2147483647 := by rw [ev1]; exact zgetD hin _
  refine zwW_p [(1, 0, 2), (1, 3, 0), (0, 2, 0)] (q := 691) (ls' := [(2, -1), (2, 1), (2, 37), (0, i)]) (st' := [(0, 2), (0, i), (2, -1), (0, v1), (2, 1)]) (by decide +kernel) rfl ?_
  refine zwW_add (nx := 692) (by decide +kernel) (by first | omega | exact ⟨by omega, by omega⟩) ?_
  refine zwW_sld (nx := 693) (by decide +kernel) (by omega) (by omega) ?_
  obtain ⟨v2, ev2⟩ : ∃ z, z = sc.getD (i + 2).toNat 0 := ⟨_, rfl⟩
  rw [← ev2]
  have qv2 : -2147483648 ≤ v2 ∧ v2 ≤ 2147483647 := by rw [ev2]; exact zgetD hin _
  refine zwW_cm C.1 (op := 60) (k' := 31) (n := 2) (kd := 12) (m := 13) (nx := 696) (r := 1) (tl := [(0, v1), (0, v2)]) (st' := []) (by decide +kernel) rfl (by decide +kernel) rfl (x31 h C v1 v2 (by omega) (by omega) (by omega)) ?_
  rintro v4 h5 ⟨Ch5, Qh5, f3⟩
  have Xh5 : zXR msxL (0) (0) h h5 := X.tr (c2 := 0) (s2 := 0) Qh5 (by decide +kernel) (by decide) (by decide)
  have th5_2_2 : fld h5 2 2 = fld h 2 2 := Qh5.f (a1 := 2) (a2 := 2) (j1 := 2) (j2 := 3) (by decide +kernel) (by first | decide | exact ⟨by decide, by decide⟩) (by first | decide | exact ⟨by decide, by decide⟩) (by first | decide | exact ⟨by decide, by decide⟩)
  have th5_37_1 : fld h5 37 1 = fld h 37 1 := Qh5.f (a1 := 37) (a2 := 37) (j1 := 1) (j2 := 2) (by decide +kernel) (by first | decide | exact ⟨by decide, by decide⟩) (by first | decide | exact ⟨by decide, by decide⟩) (by first | decide | exact ⟨by decide, by decide⟩)
  have th5_3_2 : fld h5 3 2 = fld h 3 2 := Qh5.f (a1 := 3) (a2 := 3) (j1 := 2) (j2 := 3) (by decide +kernel) (by first | decide | exact ⟨by decide, by decide⟩) (by first | decide | exact ⟨by decide, by decide⟩) (by first | decide | exact ⟨by decide, by decide⟩)
  have th5_37_2 : fld h5 37 2 = fld h 37 2 := Qh5.f (a1 := 37) (a2 := 37) (j1 := 2) (j2 := 3) (by decide +kernel) (by first | decide | exact ⟨by decide, by decide⟩) (by first | decide | exact ⟨by decide, by decide⟩) (by first | decide | exact ⟨by decide, by decide⟩)
  have th5_1_0 : fld h5 1 0 = fld h 1 0 := Qh5.f (a1 := 1) (a2 := 1) (j1 := 0) (j2 := 1) (by decide +kernel) (by first | decide | exact ⟨by decide, by decide⟩) (by first | decide | exact ⟨by decide, by decide⟩) (by first | decide | exact ⟨by decide, by decide⟩)
  have th5_37_0 : fld h5 37 0 = fld h 37 0 := Qh5.f (a1 := 37) (a2 := 37) (j1 := 0) (j2 := 1) (by decide +kernel) (by first | decide | exact ⟨by decide, by decide⟩) (by first | decide | exact ⟨by decide, by decide⟩) (by first | decide | exact ⟨by decide, by decide⟩)
  have th5_27_0 : fld h5 27 0 = fld h 27 0 := Qh5.f (a1 := 27) (a2 := 27) (j1 := 0) (j2 := 1) (by decide +kernel) (by first | decide | exact ⟨by decide, by decide⟩) (by first | decide | exact ⟨by decide, by decide⟩) (by first | decide | exact ⟨by decide, by decide⟩)
  have th5_37_96 : fld h5 37 96 = fld h 37 96 := Qh5.f (a1 := 37) (a2 := 37) (j1 := 96) (j2 := 97) (by decide +kernel) (by first | decide | exact ⟨by decide, by decide⟩) (by first | decide | exact ⟨by decide, by decide⟩) (by first | decide | exact ⟨by decide, by decide⟩)
  have Ah5 : zAM h5 := A.sm (fun r hr => Qh5.same (by decide +kernel) hr)
  have Wh5 : zCW h5 := W.sm C.1 (fun r hr => Qh5.same (by decide +kernel) hr)
  refine zwW_p [(15, 0, 0), (1, 2, 2), (1, 0, 2), (1, 3, 0), (0, 1, 0)] (q := 701) (ls' := [(2, -1), (2, 1), (2, 37), (0, i)]) (st' := [(0, 1), (0, i), (2, -1), (2, 37)]) (by decide +kernel) rfl ?_
  refine zwW_add (nx := 702) (by decide +kernel) (by first | omega | exact ⟨by omega, by omega⟩) ?_
  refine zwW_sld (nx := 703) (by decide +kernel) (by omega) (by omega) ?_
  rw [← ev1]
  refine zwW_p [(1, 0, 2), (1, 3, 0), (0, 2, 0)] (q := 706) (ls' := [(2, -1), (2, 1), (2, 37), (0, i)]) (st' := [(0, 2), (0, i), (2, -1), (0, v1), (2, 37)]) (by decide +kernel) rfl ?_
  refine zwW_add (nx := 707) (by decide +kernel) (by first | omega | exact ⟨by omega, by omega⟩) ?_
  refine zwW_sld (nx := 708) (by decide +kernel) (by omega) (by omega) ?_
  rw [← ev2]
  refine zwW_cm Ch5.1 (op := 60) (k' := 32) (n := 2) (kd := 13) (m := 97) (nx := 711) (r := 37) (tl := [(0, v1), (0, v2)]) (st' := []) (by decide +kernel) rfl (by decide +kernel) rfl (m32 h5 Ch5.1 v1 v2 Wh5) ?_
  rintro v7 h6 ⟨Ih6, Qh6, f8, f9⟩
  obtain ⟨Ch6, Zh6⟩ := Ch5.m Ih6 Qh6 (by decide +kernel)
  have Xh6 : zXR msxL (0) (0) h h6 := Xh5.tr (c2 := 0) (s2 := 0) Zh6 (by decide +kernel) (by decide) (by decide)
  have th6_2_2 : fld h6 2 2 = fld h5 2 2 := Zh6.f (a1 := 2) (a2 := 2) (j1 := 2) (j2 := 3) (by decide +kernel) (by first | decide | exact ⟨by decide, by decide⟩) (by first | decide | exact ⟨by decide, by decide⟩) (by first | decide | exact ⟨by decide, by decide⟩)
  have th6_37_1 : fld h6 37 1 = fld h5 37 1 := Zh6.f (a1 := 37) (a2 := 37) (j1 := 1) (j2 := 2) (by decide +kernel) (by first | decide | exact ⟨by decide, by decide⟩) (by first | decide | exact ⟨by decide, by decide⟩) (by first | decide | exact ⟨by decide, by decide⟩)
  have th6_3_2 : fld h6 3 2 = fld h5 3 2 := Zh6.f (a1 := 3) (a2 := 3) (j1 := 2) (j2 := 3) (by decide +kernel) (by first | decide | exact ⟨by decide, by decide⟩) (by first | decide | exact ⟨by decide, by decide⟩) (by first | decide | exact ⟨by decide, by decide⟩)
  have th6_37_2 : fld h6 37 2 = fld h5 37 2 := Zh6.f (a1 := 37) (a2 := 37) (j1 := 2) (j2 := 3) (by decide +kernel) (by first | decide | exact ⟨by decide, by decide⟩) (by first | decide | exact ⟨by decide, by decide⟩) (by first | decide | exact ⟨by decide, by decide⟩)
  have th6_1_0 : fld h6 1 0 = fld h5 1 0 := Zh6.f (a1 := 1) (a2 := 1) (j1 := 0) (j2 := 1) (by decide +kernel) (by first | decide | exact ⟨by decide, by decide⟩) (by first | decide | exact ⟨by decide, by decide⟩) (by first | decide | exact ⟨by decide, by decide⟩)
  have th6_37_0 : fld h6 37 0 = fld h5 37 0 := Zh6.f (a1 := 37) (a2 := 37) (j1 := 0) (j2 := 1) (by decide +kernel) (by first | decide | exact ⟨by decide, by decide⟩) (by first | decide | exact ⟨by decide, by decide⟩) (by first | decide | exact ⟨by decide, by decide⟩)
  have th6_27_0 : fld h6 27 0 = fld h5 27 0 := Zh6.f (a1 := 27) (a2 := 27) (j1 := 0) (j2 := 1) (by decide +kernel) (by first | decide | exact ⟨by decide, by decide⟩) (by first | decide | exact ⟨by decide, by decide⟩) (by first | decide | exact ⟨by decide, by decide⟩)
  have th6_37_96 : fld h6 37 96 = fld h5 37 96 := Zh6.f (a1 := 37) (a2 := 37) (j1 := 96) (j2 := 97) (by decide +kernel) (by first | decide | exact ⟨by decide, by decide⟩) (by first | decide | exact ⟨by decide, by decide⟩) (by first | decide | exact ⟨by decide, by decide⟩)
  have Ah6 : zAM h6 := Ah5.mr Qh6 (by decide +kernel) (Ch5.1.b (a1 := 37) (a2 := 37) (j1 := 2) (j2 := 3) (lo := 0) (hi := 20) (by decide +kernel) (by decide) (by decide) (by decide) (by decide)).2
  have TT : zXR [(13, 13, 1, 2), (15, 15, 0, 12), (16, 16, 0, 12), (37, 37, 53, 54), (164, 164, 0, 12), (165, 165, 0, 12)] (0) (0) h h6 := (Qh5.mono (ms' := [(13, 13, 1, 2), (15, 15, 0, 12), (16, 16, 0, 12), (37, 37, 53, 54), (164, 164, 0, 12), (165, 165, 0, 12)]) (by decide +kernel)).tr (c2 := 0) (s2 := 0) Zh6 (by decide +kernel) (by decide) (by decide)
  have Eh6 : zE h6 := ⟨zQS.st (T := []) TT E.1 (by decide +kernel) zQS.nil, zNM.st (T := []) TT C E.2.1 (by decide +kernel) zNM.nil, zFL.st (T := []) TT C E.2.2.1 (by decide +kernel) zFL.nil, zZL.st (T := []) TT E.2.2.2.1 (by decide +kernel) zZL.nil, zRL.st (T := []) TT C E.2.2.2.2.1 (by decide +kernel) zRL.nil, E.2.2.2.2.2.kp TT (by decide +kernel) (by omega)⟩
  refine zwW_p [(15, 0, 0), (24, 1605, 0)] (q := 1605) (ls' := [(2, -1), (2, 1), (2, 37), (0, i)]) (st' := []) (by decide +kernel) rfl ?_
  exact k _ ⟨Ch6, Ah6, f9, Eh6, _, Xh6.le (by decide) (by decide)⟩
theorem zl_715 {sc : List Int} {Q : Option Vl → Hp → Prop} (h : Hp) (C : CI h) (A : zAM h) (W : zCW h) (E : zE h) (hl : h.length ≤ 800000) (hin : ∀ x ∈ sc, in32 x) (i : Int) (hi : 0 ≤ i ∧ i + 6 ≤ sc.length) (hs : sc.length ≤ 3072) (k : ∀ g, zLJ h g → zwW sc 400 0 1605 [(2, -1), (2, 1), (2, 37), (0, i)] [] g Q) : zwW sc 400 0 715 [(2, -1), (2, 1), (2, 37), (0, i)] [] h Q := by
  have X : zXR msxL 0 0 h h := zXR.rf _ _
  have E2_2 := zE_s2_2 E
  have E3_2 := zE_s3_2 E
  have E1_0 := zE_s1_0 E
  have E27_0 := zE_s27_0 E
  refine zwW_p [(1, 1, 2), (1, 0, 2), (1, 3, 0), (0, 1, 0)] (q := 719) (ls' := [(2, -1), (2, 1), (2, 37), (0, i)]) (st' := [(0, 1), (0, i), (2, -1), (2, 1)]) (by decide +kernel) rfl ?_
  refine zwW_add (nx := 720) (by decide +kernel) (by first | omega | exact ⟨by omega, by omega⟩) ?_
  refine zwW_sld (nx := 721) (by decide +kernel) (by omega) (by omega) ?_
  obtain ⟨v1, ev1⟩ : ∃ z, z = sc.getD (i + 1).toNat 0 := ⟨_, rfl⟩
  rw [← ev1]
  have qv1 : -2147483648 ≤ v1 ∧ v1 ≤ 2147483647 := by rw [ev1]; exact zgetD hin _
  refine zwW_p [(1, 0, 2), (1, 3, 0), (0, 2, 0)] (q := 724) (ls' := [(2, -1), (2, 1), (2, 37), (0, i)]) (st' := [(0, 2), (0, i), (2, -1), (0, v1), (2, 1)]) (by decide +kernel) rfl ?_
  refine zwW_add (nx := 725) (by decide +kernel) (by first | omega | exact ⟨by omega, by omega⟩) ?_
  refine zwW_sld (nx := 726) (by decide +kernel) (by omega) (by omega) ?_
  obtain ⟨v2, ev2⟩ : ∃ z, z = sc.getD (i + 2).toNat 0 := ⟨_, rfl⟩
  rw [← ev2]
  have qv2 : -2147483648 ≤ v2 ∧ v2 ≤ 2147483647 := by rw [ev2]; exact zgetD hin _
  refine zwW_cm C.1 (op := 60) (k' := 33) (n := 2) (kd := 12) (m := 13) (nx := 729) (r := 1) (tl := [(0, v1), (0, v2)]) (st' := []) (by decide +kernel) rfl (by decide +kernel) rfl (x33 h C v1 v2 (by omega) (by omega)) ?_
  rintro v3 _ ⟨rfl, f4⟩
  refine zwW_p [(15, 0, 0), (1, 2, 2), (1, 0, 2), (1, 3, 0), (0, 1, 0)] (q := 734) (ls' := [(2, -1), (2, 1), (2, 37), (0, i)]) (st' := [(0, 1), (0, i), (2, -1), (2, 37)]) (by decide +kernel) rfl ?_
  refine zwW_add (nx := 735) (by decide +kernel) (by first | omega | exact ⟨by omega, by omega⟩) ?_
  refine zwW_sld (nx := 736) (by decide +kernel) (by omega) (by omega) ?_
  rw [← ev1]
  refine zwW_p [(1, 0, 2), (1, 3, 0), (0, 2, 0)] (q := 739) (ls' := [(2, -1), (2, 1), (2, 37), (0, i)]) (st' := [(0, 2), (0, i), (2, -1), (0, v1), (2, 37)]) (by decide +kernel) rfl ?_
  refine zwW_add (nx := 740) (by decide +kernel) (by first | omega | exact ⟨by omega, by omega⟩) ?_
  refine zwW_sld (nx := 741) (by decide +kernel) (by omega) (by omega) ?_
  rw [← ev2]
  refine zwW_cm C.1 (op := 60) (k' := 34) (n := 2) (kd := 13) (m := 97) (nx := 744) (r := 37) (tl := [(0, v1), (0, v2)]) (st' := []) (by decide +kernel) rfl (by decide +kernel) rfl (m34 h C.1 v1 v2 W) ?_
  rintro v5 _ ⟨rfl, f6⟩
  refine zwW_p [(15, 0, 0), (24, 1605, 0)] (q := 1605) (ls' := [(2, -1), (2, 1), (2, 37), (0, i)]) (st' := []) (by decide +kernel) rfl ?_
  exact k _ ⟨C, A, W, E, _, X.le (by decide) (by decide)⟩
theorem zl_748 {sc : List Int} {Q : Option Vl → Hp → Prop} (h : Hp) (C : CI h) (A : zAM h) (W : zCW h) (E : zE h) (hl : h.length ≤ 800000) (hin : ∀ x ∈ sc, in32 x) (i : Int) (hi : 0 ≤ i ∧ i + 6 ≤ sc.length) (hs : sc.length ≤ 3072) (k : ∀ g, zLJ h g → zwW sc 400 0 1605 [(2, -1), (2, 1), (2, 37), (0, i)] [] g Q) : zwW sc 400 0 748 [(2, -1), (2, 1), (2, 37), (0, i)] [] h Q := by
  have X : zXR msxL 0 0 h h := zXR.rf _ _
  have E2_2 := zE_s2_2 E
  have E3_2 := zE_s3_2 E
  have E1_0 := zE_s1_0 E
  have E27_0 := zE_s27_0 E
  refine zwW_p [(1, 1, 2), (1, 0, 2), (1, 3, 0), (0, 1, 0)] (q := 752) (ls' := [(2, -1), (2, 1), (2, 37), (0, i)]) (st' := [(0, 1), (0, i), (2, -1), (2, 1)]) (by decide +kernel) rfl ?_
  refine zwW_add (nx := 753) (by decide +kernel) (by first | omega | exact ⟨by omega, by omega⟩) ?_
  refine zwW_sld (nx := 754) (by decide +kernel) (by omega) (by omega) ?_
  obtain ⟨v1, ev1⟩ : ∃ z, z = sc.getD (i + 1).toNat 0 := ⟨_, rfl⟩
  rw [← ev1]
  have qv1 : -2147483648 ≤ v1 ∧ v1 ≤ 2147483647 := by rw [ev1]; exact zgetD hin _
  refine zwW_p [(1, 0, 2), (1, 3, 0), (0, 2, 0)] (q := 757) (ls' := [(2, -1), (2, 1), (2, 37), (0, i)]) (st' := [(0, 2), (0, i), (2, -1), (0, v1), (2, 1)]) (by decide +kernel) rfl ?_
  refine zwW_add (nx := 758) (by decide +kernel) (by first | omega | exact ⟨by omega, by omega⟩) ?_
  refine zwW_sld (nx := 759) (by decide +kernel) (by omega) (by omega) ?_
  obtain ⟨v2, ev2⟩ : ∃ z, z = sc.getD (i + 2).toNat 0 := ⟨_, rfl⟩
  rw [← ev2]
  have qv2 : -2147483648 ≤ v2 ∧ v2 ≤ 2147483647 := by rw [ev2]; exact zgetD hin _
  refine zwW_p [(1, 0, 2), (1, 3, 0), (0, 3, 0)] (q := 762) (ls' := [(2, -1), (2, 1), (2, 37), (0, i)]) (st' := [(0, 3), (0, i), (2, -1), (0, v2), (0, v1), (2, 1)]) (by decide +kernel) rfl ?_
  refine zwW_add (nx := 763) (by decide +kernel) (by first | omega | exact ⟨by omega, by omega⟩) ?_
  refine zwW_sld (nx := 764) (by decide +kernel) (by omega) (by omega) ?_
  obtain ⟨v3, ev3⟩ : ∃ z, z = sc.getD (i + 3).toNat 0 := ⟨_, rfl⟩
  rw [← ev3]
  have qv3 : -2147483648 ≤ v3 ∧ v3 ≤ 2147483647 := by rw [ev3]; exact zgetD hin _
  refine zwW_cm C.1 (op := 60) (k' := 35) (n := 3) (kd := 12) (m := 13) (nx := 767) (r := 1) (tl := [(0, v1), (0, v2), (0, v3)]) (st' := []) (by decide +kernel) rfl (by decide +kernel) rfl (x35 h C v1 v2 v3 (by omega) (by omega) (by omega)) ?_
  rintro v5 h6 ⟨Ch6, Qh6, f4⟩
  have Xh6 : zXR msxL (0) (0) h h6 := X.tr (c2 := 0) (s2 := 0) Qh6 (by decide +kernel) (by decide) (by decide)
  have th6_2_2 : fld h6 2 2 = fld h 2 2 := Qh6.f (a1 := 2) (a2 := 2) (j1 := 2) (j2 := 3) (by decide +kernel) (by first | decide | exact ⟨by decide, by decide⟩) (by first | decide | exact ⟨by decide, by decide⟩) (by first | decide | exact ⟨by decide, by decide⟩)
  have th6_37_1 : fld h6 37 1 = fld h 37 1 := Qh6.f (a1 := 37) (a2 := 37) (j1 := 1) (j2 := 2) (by decide +kernel) (by first | decide | exact ⟨by decide, by decide⟩) (by first | decide | exact ⟨by decide, by decide⟩) (by first | decide | exact ⟨by decide, by decide⟩)
  have th6_3_2 : fld h6 3 2 = fld h 3 2 := Qh6.f (a1 := 3) (a2 := 3) (j1 := 2) (j2 := 3) (by decide +kernel) (by first | decide | exact ⟨by decide, by decide⟩) (by first | decide | exact ⟨by decide, by decide⟩) (by first | decide | exact ⟨by decide, by decide⟩)
  have th6_37_2 : fld h6 37 2 = fld h 37 2 := Qh6.f (a1 := 37) (a2 := 37) (j1 := 2) (j2 := 3) (by decide +kernel) (by first | decide | exact ⟨by decide, by decide⟩) (by first | decide | exact ⟨by decide, by decide⟩) (by first | decide | exact ⟨by decide, by decide⟩)
  have th6_1_0 : fld h6 1 0 = fld h 1 0 := Qh6.f (a1 := 1) (a2 := 1) (j1 := 0) (j2 := 1) (by decide +kernel) (by first | decide | exact ⟨by decide, by decide⟩) (by first | decide | exact ⟨by decide, by decide⟩) (by first | decide | exact ⟨by decide, by decide⟩)
  have th6_37_0 : fld h6 37 0 = fld h 37 0 := Qh6.f (a1 := 37) (a2 := 37) (j1 := 0) (j2 := 1) (by decide +kernel) (by first | decide | exact ⟨by decide, by decide⟩) (by first | decide | exact ⟨by decide, by decide⟩) (by first | decide | exact ⟨by decide, by decide⟩)
  have th6_27_0 : fld h6 27 0 = fld h 27 0 := Qh6.f (a1 := 27) (a2 := 27) (j1 := 0) (j2 := 1) (by decide +kernel) (by first | decide | exact ⟨by decide, by decide⟩) (by first | decide | exact ⟨by decide, by decide⟩) (by first | decide | exact ⟨by decide, by decide⟩)
  have th6_37_96 : fld h6 37 96 = fld h 37 96 := Qh6.f (a1 := 37) (a2 := 37) (j1 := 96) (j2 := 97) (by decide +kernel) (by first | decide | exact ⟨by decide, by decide⟩) (by first | decide | exact ⟨by decide, by decide⟩) (by first | decide | exact ⟨by decide, by decide⟩)
  have Ah6 : zAM h6 := A.sm (fun r hr => Qh6.same (by decide +kernel) hr)
  have Wh6 : zCW h6 := W.sm C.1 (fun r hr => Qh6.same (by decide +kernel) hr)
  refine zwW_p [(15, 0, 0), (1, 2, 2), (1, 0, 2), (1, 3, 0), (0, 1, 0)] (q := 772) (ls' := [(2, -1), (2, 1), (2, 37), (0, i)]) (st' := [(0, 1), (0, i), (2, -1), (2, 37)]) (by decide +kernel) rfl ?_
  refine zwW_add (nx := 773) (by decide +kernel) (by first | omega | exact ⟨by omega, by omega⟩) ?_
  refine zwW_sld (nx := 774) (by decide +kernel) (by omega) (by omega) ?_
  rw [← ev1]
  refine zwW_p [(1, 0, 2), (1, 3, 0), (0, 2, 0)] (q := 777) (ls' := [(2, -1), (2, 1), (2, 37), (0, i)]) (st' := [(0, 2), (0, i), (2, -1), (0, v1), (2, 37)]) (by decide +kernel) rfl ?_
  refine zwW_add (nx := 778) (by decide +kernel) (by first | omega | exact ⟨by omega, by omega⟩) ?_
  refine zwW_sld (nx := 779) (by decide +kernel) (by omega) (by omega) ?_
  rw [← ev2]
  refine zwW_p [(1, 0, 2), (1, 3, 0), (0, 3, 0)] (q := 782) (ls' := [(2, -1), (2, 1), (2, 37), (0, i)]) (st' := [(0, 3), (0, i), (2, -1), (0, v2), (0, v1), (2, 37)]) (by decide +kernel) rfl ?_
  refine zwW_add (nx := 783) (by decide +kernel) (by first | omega | exact ⟨by omega, by omega⟩) ?_
  refine zwW_sld (nx := 784) (by decide +kernel) (by omega) (by omega) ?_
  rw [← ev3]
  refine zwW_cm Ch6.1 (op := 60) (k' := 36) (n := 3) (kd := 13) (m := 97) (nx := 787) (r := 37) (tl := [(0, v1), (0, v2), (0, v3)]) (st' := []) (by decide +kernel) rfl (by decide +kernel) rfl (m36 h6 Ch6.1 v1 v2 v3) ?_
  rintro v8 h7 ⟨Ih7, Qh7, f9⟩
  obtain ⟨Ch7, Zh7⟩ := Ch6.m Ih7 Qh7 (by decide +kernel)
  have Xh7 : zXR msxL (0) (0) h h7 := Xh6.tr (c2 := 0) (s2 := 0) Zh7 (by decide +kernel) (by decide) (by decide)
  have th7_2_2 : fld h7 2 2 = fld h6 2 2 := Zh7.f (a1 := 2) (a2 := 2) (j1 := 2) (j2 := 3) (by decide +kernel) (by first | decide | exact ⟨by decide, by decide⟩) (by first | decide | exact ⟨by decide, by decide⟩) (by first | decide | exact ⟨by decide, by decide⟩)
  have th7_37_1 : fld h7 37 1 = fld h6 37 1 := Zh7.f (a1 := 37) (a2 := 37) (j1 := 1) (j2 := 2) (by decide +kernel) (by first | decide | exact ⟨by decide, by decide⟩) (by first | decide | exact ⟨by decide, by decide⟩) (by first | decide | exact ⟨by decide, by decide⟩)
  have th7_3_2 : fld h7 3 2 = fld h6 3 2 := Zh7.f (a1 := 3) (a2 := 3) (j1 := 2) (j2 := 3) (by decide +kernel) (by first | decide | exact ⟨by decide, by decide⟩) (by first | decide | exact ⟨by decide, by decide⟩) (by first | decide | exact ⟨by decide, by decide⟩)
  have th7_37_2 : fld h7 37 2 = fld h6 37 2 := Zh7.f (a1 := 37) (a2 := 37) (j1 := 2) (j2 := 3) (by decide +kernel) (by first | decide | exact ⟨by decide, by decide⟩) (by first | decide | exact ⟨by decide, by decide⟩) (by first | decide | exact ⟨by decide, by decide⟩)
  have th7_1_0 : fld h7 1 0 = fld h6 1 0 := Zh7.f (a1 := 1) (a2 := 1) (j1 := 0) (j2 := 1) (by decide +kernel) (by first | decide | exact ⟨by decide, by decide⟩) (by first | decide | exact ⟨by decide, by decide⟩) (by first | decide | exact ⟨by decide, by decide⟩)
  have th7_37_0 : fld h7 37 0 = fld h6 37 0 := Zh7.f (a1 := 37) (a2 := 37) (j1 := 0) (j2 := 1) (by decide +kernel) (by first | decide | exact ⟨by decide, by decide⟩) (by first | decide | exact ⟨by decide, by decide⟩) (by first | decide | exact ⟨by decide, by decide⟩)
  have th7_27_0 : fld h7 27 0 = fld h6 27 0 := Zh7.f (a1 := 27) (a2 := 27) (j1 := 0) (j2 := 1) (by decide +kernel) (by first | decide | exact ⟨by decide, by decide⟩) (by first | decide | exact ⟨by decide, by decide⟩) (by first | decide | exact ⟨by decide, by decide⟩)
  have th7_37_96 : fld h7 37 96 = fld h6 37 96 := Zh7.f (a1 := 37) (a2 := 37) (j1 := 96) (j2 := 97) (by decide +kernel) (by first | decide | exact ⟨by decide, by decide⟩) (by first | decide | exact ⟨by decide, by decide⟩) (by first | decide | exact ⟨by decide, by decide⟩)
  have Ah7 : zAM h7 := Ah6.mr Qh7 (by decide +kernel) (Ch6.1.b (a1 := 37) (a2 := 37) (j1 := 2) (j2 := 3) (lo := 0) (hi := 20) (by decide +kernel) (by decide) (by decide) (by decide) (by decide)).2
  have Wh7 : zCW h7 := Wh6.mr Ch6.1 Qh7 (by decide +kernel)
  have TT : zXR [(34, 34, 0, 1), (37, 37, 69, 70), (94, 94, 0, 20), (96, 96, 0, 20), (175, 175, 0, 300), (1004, 1004, 16, 17), (1004, 1004, 17, 18), (1006, 1006, 6, 7)] (0) (0) h h7 := (Qh6.mono (ms' := [(34, 34, 0, 1), (37, 37, 69, 70), (94, 94, 0, 20), (96, 96, 0, 20), (175, 175, 0, 300), (1004, 1004, 16, 17), (1004, 1004, 17, 18), (1006, 1006, 6, 7)]) (by decide +kernel)).tr (c2 := 0) (s2 := 0) Zh7 (by decide +kernel) (by decide) (by decide)
  have Eh7 : zE h7 := ⟨zQS.st (T := []) TT E.1 (by decide +kernel) zQS.nil, zNM.st (T := []) TT C E.2.1 (by decide +kernel) zNM.nil, zFL.st (T := []) TT C E.2.2.1 (by decide +kernel) zFL.nil, zZL.st (T := []) TT E.2.2.2.1 (by decide +kernel) zZL.nil, zRL.st (T := []) TT C E.2.2.2.2.1 (by decide +kernel) zRL.nil, E.2.2.2.2.2.kp TT (by decide +kernel) (by omega)⟩
  refine zwW_p [(15, 0, 0), (24, 1605, 0)] (q := 1605) (ls' := [(2, -1), (2, 1), (2, 37), (0, i)]) (st' := []) (by decide +kernel) rfl ?_
  exact k _ ⟨Ch7, Ah7, Wh7, Eh7, _, Xh7.le (by decide) (by decide)⟩
theorem zl_791 {sc : List Int} {Q : Option Vl → Hp → Prop} (h : Hp) (C : CI h) (A : zAM h) (W : zCW h) (E : zE h) (hl : h.length ≤ 800000) (hin : ∀ x ∈ sc, in32 x) (i : Int) (hi : 0 ≤ i ∧ i + 6 ≤ sc.length) (hs : sc.length ≤ 3072) (k : ∀ g, zLJ h g → zwW sc 400 0 1605 [(2, -1), (2, 1), (2, 37), (0, i)] [] g Q) : zwW sc 400 0 791 [(2, -1), (2, 1), (2, 37), (0, i)] [] h Q := by
  have X : zXR msxL 0 0 h h := zXR.rf _ _
  have E2_2 := zE_s2_2 E
  have E3_2 := zE_s3_2 E
  have E1_0 := zE_s1_0 E
  have E27_0 := zE_s27_0 E
  refine zwW_p [(1, 1, 2), (1, 0, 2), (1, 3, 0), (0, 1, 0)] (q := 795) (ls' := [(2, -1), (2, 1), (2, 37), (0, i)]) (st' := [(0, 1), (0, i), (2, -1), (2, 1)]) (by decide +kernel) rfl ?_
  refine zwW_add (nx := 796) (by decide +kernel) (by first | omega | exact ⟨by omega, by omega⟩) ?_
  refine zwW_sld (nx := 797) (by decide +kernel) (by omega) (by omega) ?_
  obtain ⟨v1, ev1⟩ : ∃ z, z = sc.getD (i + 1).toNat 0 := ⟨_, rfl⟩
  rw [← ev1]
  have qv1 : -2147483648 ≤ v1 ∧ v1 ≤ 2147483647 := by rw [ev1]; exact zgetD hin _
  refine zwW_p [(1, 0, 2), (1, 3, 0), (0, 2, 0)] (q := 800) (ls' := [(2, -1), (2, 1), (2, 37), (0, i)]) (st' := [(0, 2), (0, i), (2, -1), (0, v1), (2, 1)]) (by decide +kernel) rfl ?_
  refine zwW_add (nx := 801) (by decide +kernel) (by first | omega | exact ⟨by omega, by omega⟩) ?_
  refine zwW_sld (nx := 802) (by decide +kernel) (by omega) (by omega) ?_
  obtain ⟨v2, ev2⟩ : ∃ z, z = sc.getD (i + 2).toNat 0 := ⟨_, rfl⟩
  rw [← ev2]
  have qv2 : -2147483648 ≤ v2 ∧ v2 ≤ 2147483647 := by rw [ev2]; exact zgetD hin _
  refine zwW_cm C.1 (op := 60) (k' := 37) (n := 2) (kd := 12) (m := 13) (nx := 805) (r := 1) (tl := [(0, v1), (0, v2)]) (st' := []) (by decide +kernel) rfl (by decide +kernel) rfl (x37 h C v1 v2 (by omega) (by omega)) ?_
  rintro v3 _ ⟨rfl, f4⟩
  refine zwW_p [(15, 0, 0), (1, 2, 2), (1, 0, 2), (1, 3, 0), (0, 1, 0)] (q := 810) (ls' := [(2, -1), (2, 1), (2, 37), (0, i)]) (st' := [(0, 1), (0, i), (2, -1), (2, 37)]) (by decide +kernel) rfl ?_
  refine zwW_add (nx := 811) (by decide +kernel) (by first | omega | exact ⟨by omega, by omega⟩) ?_
  refine zwW_sld (nx := 812) (by decide +kernel) (by omega) (by omega) ?_
  rw [← ev1]
  refine zwW_p [(1, 0, 2), (1, 3, 0), (0, 2, 0)] (q := 815) (ls' := [(2, -1), (2, 1), (2, 37), (0, i)]) (st' := [(0, 2), (0, i), (2, -1), (0, v1), (2, 37)]) (by decide +kernel) rfl ?_
  refine zwW_add (nx := 816) (by decide +kernel) (by first | omega | exact ⟨by omega, by omega⟩) ?_
  refine zwW_sld (nx := 817) (by decide +kernel) (by omega) (by omega) ?_
  rw [← ev2]
  refine zwW_cm C.1 (op := 60) (k' := 38) (n := 2) (kd := 13) (m := 97) (nx := 820) (r := 37) (tl := [(0, v1), (0, v2)]) (st' := []) (by decide +kernel) rfl (by decide +kernel) rfl (m38 h C.1 v1 v2) ?_
  rintro v5 _ ⟨rfl, f6⟩
  refine zwW_p [(15, 0, 0), (24, 1605, 0)] (q := 1605) (ls' := [(2, -1), (2, 1), (2, 37), (0, i)]) (st' := []) (by decide +kernel) rfl ?_
  exact k _ ⟨C, A, W, E, _, X.le (by decide) (by decide)⟩
theorem zl_824 {sc : List Int} {Q : Option Vl → Hp → Prop} (h : Hp) (C : CI h) (A : zAM h) (W : zCW h) (E : zE h) (hl : h.length ≤ 800000) (hin : ∀ x ∈ sc, in32 x) (i : Int) (hi : 0 ≤ i ∧ i + 6 ≤ sc.length) (hs : sc.length ≤ 3072) (k : ∀ g, zLJ h g → zwW sc 400 0 1605 [(2, -1), (2, 1), (2, 37), (0, i)] [] g Q) : zwW sc 400 0 824 [(2, -1), (2, 1), (2, 37), (0, i)] [] h Q := by
  have X : zXR msxL 0 0 h h := zXR.rf _ _
  have E2_2 := zE_s2_2 E
  have E3_2 := zE_s3_2 E
  have E1_0 := zE_s1_0 E
  have E27_0 := zE_s27_0 E
  refine zwW_p [(1, 1, 2), (1, 0, 2), (1, 3, 0), (0, 1, 0)] (q := 828) (ls' := [(2, -1), (2, 1), (2, 37), (0, i)]) (st' := [(0, 1), (0, i), (2, -1), (2, 1)]) (by decide +kernel) rfl ?_
  refine zwW_add (nx := 829) (by decide +kernel) (by first | omega | exact ⟨by omega, by omega⟩) ?_
  refine zwW_sld (nx := 830) (by decide +kernel) (by omega) (by omega) ?_
  obtain ⟨v1, ev1⟩ : ∃ z, z = sc.getD (i + 1).toNat 0 := ⟨_, rfl⟩
  rw [← ev1]
  have qv1 : -2147483648 ≤ v1 ∧ v1 ≤ 2147483647 := by rw [ev1]; exact zgetD hin _
  refine zwW_p [(1, 0, 2), (1, 3, 0), (0, 2, 0)] (q := 833) (ls' := [(2, -1), (2, 1), (2, 37), (0, i)]) (st' := [(0, 2), (0, i), (2, -1), (0, v1), (2, 1)]) (by decide +kernel) rfl ?_
  refine zwW_add (nx := 834) (by decide +kernel) (by first | omega | exact ⟨by omega, by omega⟩) ?_
  refine zwW_sld (nx := 835) (by decide +kernel) (by omega) (by omega) ?_
  obtain ⟨v2, ev2⟩ : ∃ z, z = sc.getD (i + 2).toNat 0 := ⟨_, rfl⟩
  rw [← ev2]
  have qv2 : -2147483648 ≤ v2 ∧ v2 ≤ 2147483647 := by rw [ev2]; exact zgetD hin _
  refine zwW_p [(1, 0, 2), (1, 3, 0), (0, 3, 0)] (q := 838) (ls' := [(2, -1), (2, 1), (2, 37), (0, i)]) (st' := [(0, 3), (0, i), (2, -1), (0, v2), (0, v1), (2, 1)]) (by decide +kernel) rfl ?_
  refine zwW_add (nx := 839) (by decide +kernel) (by first | omega | exact ⟨by omega, by omega⟩) ?_
  refine zwW_sld (nx := 840) (by decide +kernel) (by omega) (by omega) ?_
  obtain ⟨v3, ev3⟩ : ∃ z, z = sc.getD (i + 3).toNat 0 := ⟨_, rfl⟩
  rw [← ev3]
  have qv3 : -2147483648 ≤ v3 ∧ v3 ≤ 2147483647 := by rw [ev3]; exact zgetD hin _
  refine zwW_cm C.1 (op := 60) (k' := 39) (n := 3) (kd := 12) (m := 13) (nx := 843) (r := 1) (tl := [(0, v1), (0, v2), (0, v3)]) (st' := []) (by decide +kernel) rfl (by decide +kernel) rfl (x39 h C v1 v2 v3 (by omega) (by omega) (by omega)) ?_
  rintro v5 h6 ⟨Ch6, Qh6, f4⟩
  have Xh6 : zXR msxL (0) (0) h h6 := X.tr (c2 := 0) (s2 := 0) Qh6 (by decide +kernel) (by decide) (by decide)
  have th6_2_2 : fld h6 2 2 = fld h 2 2 := Qh6.f (a1 := 2) (a2 := 2) (j1 := 2) (j2 := 3) (by decide +kernel) (by first | decide | exact ⟨by decide, by decide⟩) (by first | decide | exact ⟨by decide, by decide⟩) (by first | decide | exact ⟨by decide, by decide⟩)
  have th6_37_1 : fld h6 37 1 = fld h 37 1 := Qh6.f (a1 := 37) (a2 := 37) (j1 := 1) (j2 := 2) (by decide +kernel) (by first | decide | exact ⟨by decide, by decide⟩) (by first | decide | exact ⟨by decide, by decide⟩) (by first | decide | exact ⟨by decide, by decide⟩)
  have th6_3_2 : fld h6 3 2 = fld h 3 2 := Qh6.f (a1 := 3) (a2 := 3) (j1 := 2) (j2 := 3) (by decide +kernel) (by first | decide | exact ⟨by decide, by decide⟩) (by first | decide | exact ⟨by decide, by decide⟩) (by first | decide | exact ⟨by decide, by decide⟩)
  have th6_37_2 : fld h6 37 2 = fld h 37 2 := Qh6.f (a1 := 37) (a2 := 37) (j1 := 2) (j2 := 3) (by decide +kernel) (by first | decide | exact ⟨by decide, by decide⟩) (by first | decide | exact ⟨by decide, by decide⟩) (by first | decide | exact ⟨by decide, by decide⟩)
  have th6_1_0 : fld h6 1 0 = fld h 1 0 := Qh6.f (a1 := 1) (a2 := 1) (j1 := 0) (j2 := 1) (by decide +kernel) (by first | decide | exact ⟨by decide, by decide⟩) (by first | decide | exact ⟨by decide, by decide⟩) (by first | decide | exact ⟨by decide, by decide⟩)
  have th6_37_0 : fld h6 37 0 = fld h 37 0 := Qh6.f (a1 := 37) (a2 := 37) (j1 := 0) (j2 := 1) (by decide +kernel) (by first | decide | exact ⟨by decide, by decide⟩) (by first | decide | exact ⟨by decide, by decide⟩) (by first | decide | exact ⟨by decide, by decide⟩)
  have th6_27_0 : fld h6 27 0 = fld h 27 0 := Qh6.f (a1 := 27) (a2 := 27) (j1 := 0) (j2 := 1) (by decide +kernel) (by first | decide | exact ⟨by decide, by decide⟩) (by first | decide | exact ⟨by decide, by decide⟩) (by first | decide | exact ⟨by decide, by decide⟩)
  have th6_37_96 : fld h6 37 96 = fld h 37 96 := Qh6.f (a1 := 37) (a2 := 37) (j1 := 96) (j2 := 97) (by decide +kernel) (by first | decide | exact ⟨by decide, by decide⟩) (by first | decide | exact ⟨by decide, by decide⟩) (by first | decide | exact ⟨by decide, by decide⟩)
  have Ah6 : zAM h6 := A.sm (fun r hr => Qh6.same (by decide +kernel) hr)
  have Wh6 : zCW h6 := W.sm C.1 (fun r hr => Qh6.same (by decide +kernel) hr)
  refine zwW_p [(15, 0, 0), (1, 2, 2), (1, 0, 2), (1, 3, 0), (0, 1, 0)] (q := 848) (ls' := [(2, -1), (2, 1), (2, 37), (0, i)]) (st' := [(0, 1), (0, i), (2, -1), (2, 37)]) (by decide +kernel) rfl ?_
  refine zwW_add (nx := 849) (by decide +kernel) (by first | omega | exact ⟨by omega, by omega⟩) ?_
  refine zwW_sld (nx := 850) (by decide +kernel) (by omega) (by omega) ?_
  rw [← ev1]
  refine zwW_p [(1, 0, 2), (1, 3, 0), (0, 2, 0)] (q := 853) (ls' := [(2, -1), (2, 1), (2, 37), (0, i)]) (st' := [(0, 2), (0, i), (2, -1), (0, v1), (2, 37)]) (by decide +kernel) rfl ?_
  refine zwW_add (nx := 854) (by decide +kernel) (by first | omega | exact ⟨by omega, by omega⟩) ?_
  refine zwW_sld (nx := 855) (by decide +kernel) (by omega) (by omega) ?_
  rw [← ev2]
  refine zwW_p [(1, 0, 2), (1, 3, 0), (0, 3, 0)] (q := 858) (ls' := [(2, -1), (2, 1), (2, 37), (0, i)]) (st' := [(0, 3), (0, i), (2, -1), (0, v2), (0, v1), (2, 37)]) (by decide +kernel) rfl ?_
  refine zwW_add (nx := 859) (by decide +kernel) (by first | omega | exact ⟨by omega, by omega⟩) ?_
  refine zwW_sld (nx := 860) (by decide +kernel) (by omega) (by omega) ?_
  rw [← ev3]
  refine zwW_cm Ch6.1 (op := 60) (k' := 40) (n := 3) (kd := 13) (m := 97) (nx := 863) (r := 37) (tl := [(0, v1), (0, v2), (0, v3)]) (st' := []) (by decide +kernel) rfl (by decide +kernel) rfl (m40 h6 Ch6.1 v1 v2 v3 (by omega) Wh6) ?_
  rintro v8 h7 ⟨Ih7, Qh7, f9⟩
  obtain ⟨Ch7, Zh7⟩ := Ch6.m Ih7 Qh7 (by decide +kernel)
  have Xh7 : zXR msxL (0) (0) h h7 := Xh6.tr (c2 := 0) (s2 := 0) Zh7 (by decide +kernel) (by decide) (by decide)
  have th7_2_2 : fld h7 2 2 = fld h6 2 2 := Zh7.f (a1 := 2) (a2 := 2) (j1 := 2) (j2 := 3) (by decide +kernel) (by first | decide | exact ⟨by decide, by decide⟩) (by first | decide | exact ⟨by decide, by decide⟩) (by first | decide | exact ⟨by decide, by decide⟩)
  have th7_37_1 : fld h7 37 1 = fld h6 37 1 := Zh7.f (a1 := 37) (a2 := 37) (j1 := 1) (j2 := 2) (by decide +kernel) (by first | decide | exact ⟨by decide, by decide⟩) (by first | decide | exact ⟨by decide, by decide⟩) (by first | decide | exact ⟨by decide, by decide⟩)
  have th7_3_2 : fld h7 3 2 = fld h6 3 2 := Zh7.f (a1 := 3) (a2 := 3) (j1 := 2) (j2 := 3) (by decide +kernel) (by first | decide | exact ⟨by decide, by decide⟩) (by first | decide | exact ⟨by decide, by decide⟩) (by first | decide | exact ⟨by decide, by decide⟩)
  have th7_37_2 : fld h7 37 2 = fld h6 37 2 := Zh7.f (a1 := 37) (a2 := 37) (j1 := 2) (j2 := 3) (by decide +kernel) (by first | decide | exact ⟨by decide, by decide⟩) (by first | decide | exact ⟨by decide, by decide⟩) (by first | decide | exact ⟨by decide, by decide⟩)
  have th7_1_0 : fld h7 1 0 = fld h6 1 0 := Zh7.f (a1 := 1) (a2 := 1) (j1 := 0) (j2 := 1) (by decide +kernel) (by first | decide | exact ⟨by decide, by decide⟩) (by first | decide | exact ⟨by decide, by decide⟩) (by first | decide | exact ⟨by decide, by decide⟩)
  have th7_37_0 : fld h7 37 0 = fld h6 37 0 := Zh7.f (a1 := 37) (a2 := 37) (j1 := 0) (j2 := 1) (by decide +kernel) (by first | decide | exact ⟨by decide, by decide⟩) (by first | decide | exact ⟨by decide, by decide⟩) (by first | decide | exact ⟨by decide, by decide⟩)
  have th7_27_0 : fld h7 27 0 = fld h6 27 0 := Zh7.f (a1 := 27) (a2 := 27) (j1 := 0) (j2 := 1) (by decide +kernel) (by first | decide | exact ⟨by decide, by decide⟩) (by first | decide | exact ⟨by decide, by decide⟩) (by first | decide | exact ⟨by decide, by decide⟩)
  have th7_37_96 : fld h7 37 96 = fld h6 37 96 := Zh7.f (a1 := 37) (a2 := 37) (j1 := 96) (j2 := 97) (by decide +kernel) (by first | decide | exact ⟨by decide, by decide⟩) (by first | decide | exact ⟨by decide, by decide⟩) (by first | decide | exact ⟨by decide, by decide⟩)
  have Ah7 : zAM h7 := Ah6.mr Qh7 (by decide +kernel) (Ch6.1.b (a1 := 37) (a2 := 37) (j1 := 2) (j2 := 3) (lo := 0) (hi := 20) (by decide +kernel) (by decide) (by decide) (by decide) (by decide)).2
  have Wh7 : zCW h7 := Wh6.mr Ch6.1 Qh7 (by decide +kernel)
  have TT : zXR [(17, 17, 0, 13), (18, 18, 0, 400), (97, 97, 0, 8), (168, 168, 0, 13), (169, 169, 0, 420)] (0) (0) h h7 := (Qh6.mono (ms' := [(17, 17, 0, 13), (18, 18, 0, 400), (97, 97, 0, 8), (168, 168, 0, 13), (169, 169, 0, 420)]) (by decide +kernel)).tr (c2 := 0) (s2 := 0) Zh7 (by decide +kernel) (by decide) (by decide)
  have Eh7 : zE h7 := ⟨zQS.st (T := []) TT E.1 (by decide +kernel) zQS.nil, zNM.st (T := []) TT C E.2.1 (by decide +kernel) zNM.nil, zFL.st (T := []) TT C E.2.2.1 (by decide +kernel) zFL.nil, zZL.st (T := []) TT E.2.2.2.1 (by decide +kernel) zZL.nil, zRL.st (T := []) TT C E.2.2.2.2.1 (by decide +kernel) zRL.nil, E.2.2.2.2.2.kp TT (by decide +kernel) (by omega)⟩
  refine zwW_p [(15, 0, 0), (24, 1605, 0)] (q := 1605) (ls' := [(2, -1), (2, 1), (2, 37), (0, i)]) (st' := []) (by decide +kernel) rfl ?_
  exact k _ ⟨Ch7, Ah7, Wh7, Eh7, _, Xh7.le (by decide) (by decide)⟩
theorem zl_867 {sc : List Int} {Q : Option Vl → Hp → Prop} (h : Hp) (C : CI h) (A : zAM h) (W : zCW h) (E : zE h) (hl : h.length ≤ 800000) (hin : ∀ x ∈ sc, in32 x) (i : Int) (hi : 0 ≤ i ∧ i + 6 ≤ sc.length) (hs : sc.length ≤ 3072) (k : ∀ g, zLJ h g → zwW sc 400 0 1605 [(2, -1), (2, 1), (2, 37), (0, i)] [] g Q) : zwW sc 400 0 867 [(2, -1), (2, 1), (2, 37), (0, i)] [] h Q := by
  have X : zXR msxL 0 0 h h := zXR.rf _ _
  have E2_2 := zE_s2_2 E
  have E3_2 := zE_s3_2 E
  have E1_0 := zE_s1_0 E
  have E27_0 := zE_s27_0 E
  refine zwW_p [(1, 1, 2), (1, 0, 2), (1, 3, 0), (0, 1, 0)] (q := 871) (ls' := [(2, -1), (2, 1), (2, 37), (0, i)]) (st' := [(0, 1), (0, i), (2, -1), (2, 1)]) (by decide +kernel) rfl ?_
  refine zwW_add (nx := 872) (by decide +kernel) (by first | omega | exact ⟨by omega, by omega⟩) ?_
  refine zwW_sld (nx := 873) (by decide +kernel) (by omega) (by omega) ?_
  obtain ⟨v1, ev1⟩ : ∃ z, z = sc.getD (i + 1).toNat 0 := ⟨_, rfl⟩
  rw [← ev1]
  have qv1 : -2147483648 ≤ v1 ∧ v1 ≤ 2147483647 := by rw [ev1]; exact zgetD hin _
  refine zwW_p [(1, 0, 2), (1, 3, 0), (0, 2, 0)] (q := 876) (ls' := [(2, -1), (2, 1), (2, 37), (0, i)]) (st' := [(0, 2), (0, i), (2, -1), (0, v1), (2, 1)]) (by decide +kernel) rfl ?_
  refine zwW_add (nx := 877) (by decide +kernel) (by first | omega | exact ⟨by omega, by omega⟩) ?_
  refine zwW_sld (nx := 878) (by decide +kernel) (by omega) (by omega) ?_
  obtain ⟨v2, ev2⟩ : ∃ z, z = sc.getD (i + 2).toNat 0 := ⟨_, rfl⟩
  rw [← ev2]
  have qv2 : -2147483648 ≤ v2 ∧ v2 ≤ 2147483647 := by rw [ev2]; exact zgetD hin _
  refine zwW_p [(1, 0, 2), (1, 3, 0), (0, 3, 0)] (q := 881) (ls' := [(2, -1), (2, 1), (2, 37), (0, i)]) (st' := [(0, 3), (0, i), (2, -1), (0, v2), (0, v1), (2, 1)]) (by decide +kernel) rfl ?_
  refine zwW_add (nx := 882) (by decide +kernel) (by first | omega | exact ⟨by omega, by omega⟩) ?_
  refine zwW_sld (nx := 883) (by decide +kernel) (by omega) (by omega) ?_
  obtain ⟨v3, ev3⟩ : ∃ z, z = sc.getD (i + 3).toNat 0 := ⟨_, rfl⟩
  rw [← ev3]
  have qv3 : -2147483648 ≤ v3 ∧ v3 ≤ 2147483647 := by rw [ev3]; exact zgetD hin _
  refine zwW_cm C.1 (op := 60) (k' := 41) (n := 3) (kd := 12) (m := 13) (nx := 886) (r := 1) (tl := [(0, v1), (0, v2), (0, v3)]) (st' := []) (by decide +kernel) rfl (by decide +kernel) rfl (x41 h C v1 v2 v3 (by omega) (by omega) (by omega) (by omega)) ?_
  rintro v5 h6 ⟨Ch6, Qh6, f4⟩
  have Xh6 : zXR msxL (2) (1006) h h6 := X.tr (c2 := 2) (s2 := 1006) Qh6 (by decide +kernel) (by decide) (by decide)
  have th6_2_2 : fld h6 2 2 = fld h 2 2 := Qh6.f (a1 := 2) (a2 := 2) (j1 := 2) (j2 := 3) (by decide +kernel) (by first | decide | exact ⟨by decide, by decide⟩) (by first | decide | exact ⟨by decide, by decide⟩) (by first | decide | exact ⟨by decide, by decide⟩)
  have th6_37_1 : fld h6 37 1 = fld h 37 1 := Qh6.f (a1 := 37) (a2 := 37) (j1 := 1) (j2 := 2) (by decide +kernel) (by first | decide | exact ⟨by decide, by decide⟩) (by first | decide | exact ⟨by decide, by decide⟩) (by first | decide | exact ⟨by decide, by decide⟩)
  have th6_3_2 : fld h6 3 2 = fld h 3 2 := Qh6.f (a1 := 3) (a2 := 3) (j1 := 2) (j2 := 3) (by decide +kernel) (by first | decide | exact ⟨by decide, by decide⟩) (by first | decide | exact ⟨by decide, by decide⟩) (by first | decide | exact ⟨by decide, by decide⟩)
  have th6_37_2 : fld h6 37 2 = fld h 37 2 := Qh6.f (a1 := 37) (a2 := 37) (j1 := 2) (j2 := 3) (by decide +kernel) (by first | decide | exact ⟨by decide, by decide⟩) (by first | decide | exact ⟨by decide, by decide⟩) (by first | decide | exact ⟨by decide, by decide⟩)
  have th6_1_0 : fld h6 1 0 = fld h 1 0 := Qh6.f (a1 := 1) (a2 := 1) (j1 := 0) (j2 := 1) (by decide +kernel) (by first | decide | exact ⟨by decide, by decide⟩) (by first | decide | exact ⟨by decide, by decide⟩) (by first | decide | exact ⟨by decide, by decide⟩)
  have th6_37_0 : fld h6 37 0 = fld h 37 0 := Qh6.f (a1 := 37) (a2 := 37) (j1 := 0) (j2 := 1) (by decide +kernel) (by first | decide | exact ⟨by decide, by decide⟩) (by first | decide | exact ⟨by decide, by decide⟩) (by first | decide | exact ⟨by decide, by decide⟩)
  have th6_27_0 : fld h6 27 0 = fld h 27 0 := Qh6.f (a1 := 27) (a2 := 27) (j1 := 0) (j2 := 1) (by decide +kernel) (by first | decide | exact ⟨by decide, by decide⟩) (by first | decide | exact ⟨by decide, by decide⟩) (by first | decide | exact ⟨by decide, by decide⟩)
  have th6_37_96 : fld h6 37 96 = fld h 37 96 := Qh6.f (a1 := 37) (a2 := 37) (j1 := 96) (j2 := 97) (by decide +kernel) (by first | decide | exact ⟨by decide, by decide⟩) (by first | decide | exact ⟨by decide, by decide⟩) (by first | decide | exact ⟨by decide, by decide⟩)
  have Ah6 : zAM h6 := A.sm (fun r hr => Qh6.same (by decide +kernel) hr)
  have Wh6 : zCW h6 := W.sm C.1 (fun r hr => Qh6.same (by decide +kernel) hr)
  refine zwW_p [(15, 0, 0), (1, 2, 2), (1, 0, 2), (1, 3, 0), (0, 1, 0)] (q := 891) (ls' := [(2, -1), (2, 1), (2, 37), (0, i)]) (st' := [(0, 1), (0, i), (2, -1), (2, 37)]) (by decide +kernel) rfl ?_
  refine zwW_add (nx := 892) (by decide +kernel) (by first | omega | exact ⟨by omega, by omega⟩) ?_
  refine zwW_sld (nx := 893) (by decide +kernel) (by omega) (by omega) ?_
  rw [← ev1]
  refine zwW_p [(1, 0, 2), (1, 3, 0), (0, 2, 0)] (q := 896) (ls' := [(2, -1), (2, 1), (2, 37), (0, i)]) (st' := [(0, 2), (0, i), (2, -1), (0, v1), (2, 37)]) (by decide +kernel) rfl ?_
  refine zwW_add (nx := 897) (by decide +kernel) (by first | omega | exact ⟨by omega, by omega⟩) ?_
  refine zwW_sld (nx := 898) (by decide +kernel) (by omega) (by omega) ?_
  rw [← ev2]
  refine zwW_p [(1, 0, 2), (1, 3, 0), (0, 3, 0)] (q := 901) (ls' := [(2, -1), (2, 1), (2, 37), (0, i)]) (st' := [(0, 3), (0, i), (2, -1), (0, v2), (0, v1), (2, 37)]) (by decide +kernel) rfl ?_
  refine zwW_add (nx := 902) (by decide +kernel) (by first | omega | exact ⟨by omega, by omega⟩) ?_
  refine zwW_sld (nx := 903) (by decide +kernel) (by omega) (by omega) ?_
  rw [← ev3]
  refine zwW_cm Ch6.1 (op := 60) (k' := 42) (n := 3) (kd := 13) (m := 97) (nx := 906) (r := 37) (tl := [(0, v1), (0, v2), (0, v3)]) (st' := []) (by decide +kernel) rfl (by decide +kernel) rfl (m42 h6 Ch6.1 v1 v2 v3 (by omega) Wh6) ?_
  rintro v8 h7 ⟨Ih7, Qh7, f9⟩
  obtain ⟨Ch7, Zh7⟩ := Ch6.m Ih7 Qh7 (by decide +kernel)
  have Xh7 : zXR msxL (2) (1006) h h7 := Xh6.tr (c2 := 2) (s2 := 1006) Zh7 (by decide +kernel) (by decide) (by decide)
  have th7_2_2 : fld h7 2 2 = fld h6 2 2 := Zh7.f (a1 := 2) (a2 := 2) (j1 := 2) (j2 := 3) (by decide +kernel) (by first | decide | exact ⟨by decide, by decide⟩) (by first | decide | exact ⟨by decide, by decide⟩) (by first | decide | exact ⟨by decide, by decide⟩)
  have th7_37_1 : fld h7 37 1 = fld h6 37 1 := Zh7.f (a1 := 37) (a2 := 37) (j1 := 1) (j2 := 2) (by decide +kernel) (by first | decide | exact ⟨by decide, by decide⟩) (by first | decide | exact ⟨by decide, by decide⟩) (by first | decide | exact ⟨by decide, by decide⟩)
  have th7_3_2 : fld h7 3 2 = fld h6 3 2 := Zh7.f (a1 := 3) (a2 := 3) (j1 := 2) (j2 := 3) (by decide +kernel) (by first | decide | exact ⟨by decide, by decide⟩) (by first | decide | exact ⟨by decide, by decide⟩) (by first | decide | exact ⟨by decide, by decide⟩)
  have th7_37_2 : fld h7 37 2 = fld h6 37 2 := Zh7.f (a1 := 37) (a2 := 37) (j1 := 2) (j2 := 3) (by decide +kernel) (by first | decide | exact ⟨by decide, by decide⟩) (by first | decide | exact ⟨by decide, by decide⟩) (by first | decide | exact ⟨by decide, by decide⟩)
  have th7_1_0 : fld h7 1 0 = fld h6 1 0 := Zh7.f (a1 := 1) (a2 := 1) (j1 := 0) (j2 := 1) (by decide +kernel) (by first | decide | exact ⟨by decide, by decide⟩) (by first | decide | exact ⟨by decide, by decide⟩) (by first | decide | exact ⟨by decide, by decide⟩)
  have th7_37_0 : fld h7 37 0 = fld h6 37 0 := Zh7.f (a1 := 37) (a2 := 37) (j1 := 0) (j2 := 1) (by decide +kernel) (by first | decide | exact ⟨by decide, by decide⟩) (by first | decide | exact ⟨by decide, by decide⟩) (by first | decide | exact ⟨by decide, by decide⟩)
  have th7_27_0 : fld h7 27 0 = fld h6 27 0 := Zh7.f (a1 := 27) (a2 := 27) (j1 := 0) (j2 := 1) (by decide +kernel) (by first | decide | exact ⟨by decide, by decide⟩) (by first | decide | exact ⟨by decide, by decide⟩) (by first | decide | exact ⟨by decide, by decide⟩)
  have th7_37_96 : fld h7 37 96 = fld h6 37 96 := Zh7.f (a1 := 37) (a2 := 37) (j1 := 96) (j2 := 97) (by decide +kernel) (by first | decide | exact ⟨by decide, by decide⟩) (by first | decide | exact ⟨by decide, by decide⟩) (by first | decide | exact ⟨by decide, by decide⟩)
  have Ah7 : zAM h7 := Ah6.mr Qh7 (by decide +kernel) (Ch6.1.b (a1 := 37) (a2 := 37) (j1 := 2) (j2 := 3) (lo := 0) (hi := 20) (by decide +kernel) (by decide) (by decide) (by decide) (by decide)).2
  have Wh7 : zCW h7 := Wh6.mr Ch6.1 Qh7 (by decide +kernel)
  have TT : zXR [(5, 5, 0, 3), (17, 17, 0, 13), (18, 18, 0, 400), (34, 34, 1, 2), (37, 37, 70, 71), (37, 37, 78, 79), (84, 84, 0, 20), (92, 92, 0, 20), (97, 97, 0, 8), (168, 168, 0, 13), (169, 169, 0, 420), (175, 175, 0, 300), (180, 180, 0, 200), (181, 181, 0, 200), (182, 182, 0, 200), (183, 183, 0, 200), (184, 184, 0, 200), (185, 185, 0, 200), (1004, 1004, 6, 7), (1004, 1004, 14, 15), (1006, 1006, 6, 7)] (2) (1006) h h7 := (Qh6.mono (ms' := [(5, 5, 0, 3), (17, 17, 0, 13), (18, 18, 0, 400), (34, 34, 1, 2), (37, 37, 70, 71), (37, 37, 78, 79), (84, 84, 0, 20), (92, 92, 0, 20), (97, 97, 0, 8), (168, 168, 0, 13), (169, 169, 0, 420), (175, 175, 0, 300), (180, 180, 0, 200), (181, 181, 0, 200), (182, 182, 0, 200), (183, 183, 0, 200), (184, 184, 0, 200), (185, 185, 0, 200), (1004, 1004, 6, 7), (1004, 1004, 14, 15), (1006, 1006, 6, 7)]) (by decide +kernel)).tr (c2 := 2) (s2 := 1006) Zh7 (by decide +kernel) (by decide) (by decide)
  have Eh7 : zE h7 := ⟨zQS.st (T := []) TT E.1 (by decide +kernel) zQS.nil, zNM.st (T := []) TT C E.2.1 (by decide +kernel) zNM.nil, zFL.st (T := []) TT C E.2.2.1 (by decide +kernel) zFL.nil, zZL.st (T := []) TT E.2.2.2.1 (by decide +kernel) zZL.nil, zRL.st (T := []) TT C E.2.2.2.2.1 (by decide +kernel) zRL.nil, E.2.2.2.2.2.kp TT (by decide +kernel) (by omega)⟩
  refine zwW_p [(15, 0, 0), (24, 1605, 0)] (q := 1605) (ls' := [(2, -1), (2, 1), (2, 37), (0, i)]) (st' := []) (by decide +kernel) rfl ?_
  exact k _ ⟨Ch7, Ah7, Wh7, Eh7, _, Xh7.le (by decide) (by decide)⟩
theorem zl_910 {sc : List Int} {Q : Option Vl → Hp → Prop} (h : Hp) (C : CI h) (A : zAM h) (W : zCW h) (E : zE h) (hl : h.length ≤ 800000) (hin : ∀ x ∈ sc, in32 x) (i : Int) (hi : 0 ≤ i ∧ i + 6 ≤ sc.length) (hs : sc.length ≤ 3072) (k : ∀ g, zLJ h g → zwW sc 400 0 1605 [(2, -1), (2, 1), (2, 37), (0, i)] [] g Q) : zwW sc 400 0 910 [(2, -1), (2, 1), (2, 37), (0, i)] [] h Q := by
  have X : zXR msxL 0 0 h h := zXR.rf _ _
  have E2_2 := zE_s2_2 E
  have E3_2 := zE_s3_2 E
  have E1_0 := zE_s1_0 E
  have E27_0 := zE_s27_0 E
  refine zwW_p [(1, 1, 2), (1, 0, 2), (1, 3, 0), (0, 1, 0)] (q := 914) (ls' := [(2, -1), (2, 1), (2, 37), (0, i)]) (st' := [(0, 1), (0, i), (2, -1), (2, 1)]) (by decide +kernel) rfl ?_
  refine zwW_add (nx := 915) (by decide +kernel) (by first | omega | exact ⟨by omega, by omega⟩) ?_
  refine zwW_sld (nx := 916) (by decide +kernel) (by omega) (by omega) ?_
  obtain ⟨v1, ev1⟩ : ∃ z, z = sc.getD (i + 1).toNat 0 := ⟨_, rfl⟩
  rw [← ev1]
  have qv1 : -2147483648 ≤ v1 ∧ v1 ≤ 2147483647 := by rw [ev1]; exact zgetD hin _
  refine zwW_p [(1, 0, 2), (1, 3, 0), (0, 2, 0)] (q := 919) (ls' := [(2, -1), (2, 1), (2, 37), (0, i)]) (st' := [(0, 2), (0, i), (2, -1), (0, v1), (2, 1)]) (by decide +kernel) rfl ?_
  refine zwW_add (nx := 920) (by decide +kernel) (by first | omega | exact ⟨by omega, by omega⟩) ?_
  refine zwW_sld (nx := 921) (by decide +kernel) (by omega) (by omega) ?_
  obtain ⟨v2, ev2⟩ : ∃ z, z = sc.getD (i + 2).toNat 0 := ⟨_, rfl⟩
  rw [← ev2]
  have qv2 : -2147483648 ≤ v2 ∧ v2 ≤ 2147483647 := by rw [ev2]; exact zgetD hin _
  refine zwW_cm C.1 (op := 60) (k' := 43) (n := 2) (kd := 12) (m := 13) (nx := 924) (r := 1) (tl := [(0, v1), (0, v2)]) (st' := []) (by decide +kernel) rfl (by decide +kernel) rfl (x43 h C v1 v2 (by omega) (by omega)) ?_
  rintro v3 _ ⟨rfl, f4⟩
  refine zwW_p [(15, 0, 0), (1, 2, 2), (1, 0, 2), (1, 3, 0), (0, 1, 0)] (q := 929) (ls' := [(2, -1), (2, 1), (2, 37), (0, i)]) (st' := [(0, 1), (0, i), (2, -1), (2, 37)]) (by decide +kernel) rfl ?_
  refine zwW_add (nx := 930) (by decide +kernel) (by first | omega | exact ⟨by omega, by omega⟩) ?_
  refine zwW_sld (nx := 931) (by decide +kernel) (by omega) (by omega) ?_
  rw [← ev1]
  refine zwW_p [(1, 0, 2), (1, 3, 0), (0, 2, 0)] (q := 934) (ls' := [(2, -1), (2, 1), (2, 37), (0, i)]) (st' := [(0, 2), (0, i), (2, -1), (0, v1), (2, 37)]) (by decide +kernel) rfl ?_
  refine zwW_add (nx := 935) (by decide +kernel) (by first | omega | exact ⟨by omega, by omega⟩) ?_
  refine zwW_sld (nx := 936) (by decide +kernel) (by omega) (by omega) ?_
  rw [← ev2]
  refine zwW_cm C.1 (op := 60) (k' := 44) (n := 2) (kd := 13) (m := 97) (nx := 939) (r := 37) (tl := [(0, v1), (0, v2)]) (st' := []) (by decide +kernel) rfl (by decide +kernel) rfl (m44 h C.1 v1 v2) ?_
  rintro v5 _ ⟨rfl, f6⟩
  refine zwW_p [(15, 0, 0), (24, 1605, 0)] (q := 1605) (ls' := [(2, -1), (2, 1), (2, 37), (0, i)]) (st' := []) (by decide +kernel) rfl ?_
  exact k _ ⟨C, A, W, E, _, X.le (by decide) (by decide)⟩
theorem zl_943 {sc : List Int} {Q : Option Vl → Hp → Prop} (h : Hp) (C : CI h) (A : zAM h) (W : zCW h) (E : zE h) (hl : h.length ≤ 800000) (hin : ∀ x ∈ sc, in32 x) (i : Int) (hi : 0 ≤ i ∧ i + 6 ≤ sc.length) (hs : sc.length ≤ 3072) (k : ∀ g, zLJ h g → zwW sc 400 0 1605 [(2, -1), (2, 1), (2, 37), (0, i)] [] g Q) : zwW sc 400 0 943 [(2, -1), (2, 1), (2, 37), (0, i)] [] h Q := by
  have X : zXR msxL 0 0 h h := zXR.rf _ _
  have E2_2 := zE_s2_2 E
  have E3_2 := zE_s3_2 E
  have E1_0 := zE_s1_0 E
  have E27_0 := zE_s27_0 E
  refine zwW_p [(1, 1, 2), (1, 0, 2), (1, 3, 0), (0, 1, 0)] (q := 947) (ls' := [(2, -1), (2, 1), (2, 37), (0, i)]) (st' := [(0, 1), (0, i), (2, -1), (2, 1)]) (by decide +kernel) rfl ?_
  refine zwW_add (nx := 948) (by decide +kernel) (by first | omega | exact ⟨by omega, by omega⟩) ?_
  refine zwW_sld (nx := 949) (by decide +kernel) (by omega) (by omega) ?_
  obtain ⟨v1, ev1⟩ : ∃ z, z = sc.getD (i + 1).toNat 0 := ⟨_, rfl⟩
  rw [← ev1]
  have qv1 : -2147483648 ≤ v1 ∧ v1 ≤ 2147483647 := by rw [ev1]; exact zgetD hin _
  refine zwW_cm C.1 (op := 60) (k' := 45) (n := 1) (kd := 12) (m := 13) (nx := 952) (r := 1) (tl := [(0, v1)]) (st' := []) (by decide +kernel) rfl (by decide +kernel) rfl (x45 h C v1 (by omega) (by omega)) ?_
  rintro v3 h4 ⟨Ch4, Qh4, f2⟩
  have Xh4 : zXR msxL (1) (1000) h h4 := X.tr (c2 := 1) (s2 := 1000) Qh4 (by decide +kernel) (by decide) (by decide)
  have th4_2_2 : fld h4 2 2 = fld h 2 2 := Qh4.f (a1 := 2) (a2 := 2) (j1 := 2) (j2 := 3) (by decide +kernel) (by first | decide | exact ⟨by decide, by decide⟩) (by first | decide | exact ⟨by decide, by decide⟩) (by first | decide | exact ⟨by decide, by decide⟩)
  have th4_37_1 : fld h4 37 1 = fld h 37 1 := Qh4.f (a1 := 37) (a2 := 37) (j1 := 1) (j2 := 2) (by decide +kernel) (by first | decide | exact ⟨by decide, by decide⟩) (by first | decide | exact ⟨by decide, by decide⟩) (by first | decide | exact ⟨by decide, by decide⟩)
  have th4_3_2 : fld h4 3 2 = fld h 3 2 := Qh4.f (a1 := 3) (a2 := 3) (j1 := 2) (j2 := 3) (by decide +kernel) (by first | decide | exact ⟨by decide, by decide⟩) (by first | decide | exact ⟨by decide, by decide⟩) (by first | decide | exact ⟨by decide, by decide⟩)
  have th4_37_2 : fld h4 37 2 = fld h 37 2 := Qh4.f (a1 := 37) (a2 := 37) (j1 := 2) (j2 := 3) (by decide +kernel) (by first | decide | exact ⟨by decide, by decide⟩) (by first | decide | exact ⟨by decide, by decide⟩) (by first | decide | exact ⟨by decide, by decide⟩)
  have th4_1_0 : fld h4 1 0 = fld h 1 0 := Qh4.f (a1 := 1) (a2 := 1) (j1 := 0) (j2 := 1) (by decide +kernel) (by first | decide | exact ⟨by decide, by decide⟩) (by first | decide | exact ⟨by decide, by decide⟩) (by first | decide | exact ⟨by decide, by decide⟩)
  have th4_37_0 : fld h4 37 0 = fld h 37 0 := Qh4.f (a1 := 37) (a2 := 37) (j1 := 0) (j2 := 1) (by decide +kernel) (by first | decide | exact ⟨by decide, by decide⟩) (by first | decide | exact ⟨by decide, by decide⟩) (by first | decide | exact ⟨by decide, by decide⟩)
  have th4_27_0 : fld h4 27 0 = fld h 27 0 := Qh4.f (a1 := 27) (a2 := 27) (j1 := 0) (j2 := 1) (by decide +kernel) (by first | decide | exact ⟨by decide, by decide⟩) (by first | decide | exact ⟨by decide, by decide⟩) (by first | decide | exact ⟨by decide, by decide⟩)
  have th4_37_96 : fld h4 37 96 = fld h 37 96 := Qh4.f (a1 := 37) (a2 := 37) (j1 := 96) (j2 := 97) (by decide +kernel) (by first | decide | exact ⟨by decide, by decide⟩) (by first | decide | exact ⟨by decide, by decide⟩) (by first | decide | exact ⟨by decide, by decide⟩)
  have Ah4 : zAM h4 := A.sm (fun r hr => Qh4.same (by decide +kernel) hr)
  have Wh4 : zCW h4 := W.sm C.1 (fun r hr => Qh4.same (by decide +kernel) hr)
  refine zwW_p [(15, 0, 0), (1, 2, 2), (1, 0, 2), (1, 3, 0), (0, 1, 0)] (q := 957) (ls' := [(2, -1), (2, 1), (2, 37), (0, i)]) (st' := [(0, 1), (0, i), (2, -1), (2, 37)]) (by decide +kernel) rfl ?_
  refine zwW_add (nx := 958) (by decide +kernel) (by first | omega | exact ⟨by omega, by omega⟩) ?_
  refine zwW_sld (nx := 959) (by decide +kernel) (by omega) (by omega) ?_
  rw [← ev1]
  refine zwW_cm Ch4.1 (op := 60) (k' := 46) (n := 1) (kd := 13) (m := 97) (nx := 962) (r := 37) (tl := [(0, v1)]) (st' := []) (by decide +kernel) rfl (by decide +kernel) rfl (m46 h4 Ch4.1 v1) ?_
  rintro v6 h5 ⟨Ih5, Qh5, f7⟩
  obtain ⟨Ch5, Zh5⟩ := Ch4.m Ih5 Qh5 (by decide +kernel)
  have Xh5 : zXR msxL (1) (1000) h h5 := Xh4.tr (c2 := 1) (s2 := 1000) Zh5 (by decide +kernel) (by decide) (by decide)
  have th5_2_2 : fld h5 2 2 = fld h4 2 2 := Zh5.f (a1 := 2) (a2 := 2) (j1 := 2) (j2 := 3) (by decide +kernel) (by first | decide | exact ⟨by decide, by decide⟩) (by first | decide | exact ⟨by decide, by decide⟩) (by first | decide | exact ⟨by decide, by decide⟩)
  have th5_37_1 : fld h5 37 1 = fld h4 37 1 := Zh5.f (a1 := 37) (a2 := 37) (j1 := 1) (j2 := 2) (by decide +kernel) (by first | decide | exact ⟨by decide, by decide⟩) (by first | decide | exact ⟨by decide, by decide⟩) (by first | decide | exact ⟨by decide, by decide⟩)
  have th5_3_2 : fld h5 3 2 = fld h4 3 2 := Zh5.f (a1 := 3) (a2 := 3) (j1 := 2) (j2 := 3) (by decide +kernel) (by first | decide | exact ⟨by decide, by decide⟩) (by first | decide | exact ⟨by decide, by decide⟩) (by first | decide | exact ⟨by decide, by decide⟩)
  have th5_37_2 : fld h5 37 2 = fld h4 37 2 := Zh5.f (a1 := 37) (a2 := 37) (j1 := 2) (j2 := 3) (by decide +kernel) (by first | decide | exact ⟨by decide, by decide⟩) (by first | decide | exact ⟨by decide, by decide⟩) (by first | decide | exact ⟨by decide, by decide⟩)
  have th5_1_0 : fld h5 1 0 = fld h4 1 0 := Zh5.f (a1 := 1) (a2 := 1) (j1 := 0) (j2 := 1) (by decide +kernel) (by first | decide | exact ⟨by decide, by decide⟩) (by first | decide | exact ⟨by decide, by decide⟩) (by first | decide | exact ⟨by decide, by decide⟩)
  have th5_37_0 : fld h5 37 0 = fld h4 37 0 := Zh5.f (a1 := 37) (a2 := 37) (j1 := 0) (j2 := 1) (by decide +kernel) (by first | decide | exact ⟨by decide, by decide⟩) (by first | decide | exact ⟨by decide, by decide⟩) (by first | decide | exact ⟨by decide, by decide⟩)
  have th5_27_0 : fld h5 27 0 = fld h4 27 0 := Zh5.f (a1 := 27) (a2 := 27) (j1 := 0) (j2 := 1) (by decide +kernel) (by first | decide | exact ⟨by decide, by decide⟩) (by first | decide | exact ⟨by decide, by decide⟩) (by first | decide | exact ⟨by decide, by decide⟩)
  have th5_37_96 : fld h5 37 96 = fld h4 37 96 := Zh5.f (a1 := 37) (a2 := 37) (j1 := 96) (j2 := 97) (by decide +kernel) (by first | decide | exact ⟨by decide, by decide⟩) (by first | decide | exact ⟨by decide, by decide⟩) (by first | decide | exact ⟨by decide, by decide⟩)
  have Ah5 : zAM h5 := Ah4.mr Qh5 (by decide +kernel) (Ch4.1.b (a1 := 37) (a2 := 37) (j1 := 2) (j2 := 3) (lo := 0) (hi := 20) (by decide +kernel) (by decide) (by decide) (by decide) (by decide)).2
  have Wh5 : zCW h5 := Wh4.mr Ch4.1 Qh5 (by decide +kernel)
  have TT : zXR [(20, 20, 0, 3), (37, 37, 86, 87), (186, 186, 0, 6)] (1) (1000) h h5 := (Qh4.mono (ms' := [(20, 20, 0, 3), (37, 37, 86, 87), (186, 186, 0, 6)]) (by decide +kernel)).tr (c2 := 1) (s2 := 1000) Zh5 (by decide +kernel) (by decide) (by decide)
  have Eh5 : zE h5 := ⟨zQS.st (T := []) TT E.1 (by decide +kernel) zQS.nil, zNM.st (T := []) TT C E.2.1 (by decide +kernel) zNM.nil, zFL.st (T := []) TT C E.2.2.1 (by decide +kernel) zFL.nil, zZL.st (T := []) TT E.2.2.2.1 (by decide +kernel) zZL.nil, zRL.st (T := []) TT C E.2.2.2.2.1 (by decide +kernel) zRL.nil, E.2.2.2.2.2.kp TT (by decide +kernel) (by omega)⟩
  refine zwW_p [(15, 0, 0), (24, 1605, 0)] (q := 1605) (ls' := [(2, -1), (2, 1), (2, 37), (0, i)]) (st' := []) (by decide +kernel) rfl ?_
  exact k _ ⟨Ch5, Ah5, Wh5, Eh5, _, Xh5.le (by decide) (by decide)⟩
theorem zl_966 {sc : List Int} {Q : Option Vl → Hp → Prop} (h : Hp) (C : CI h) (A : zAM h) (W : zCW h) (E : zE h) (hl : h.length ≤ 800000) (hin : ∀ x ∈ sc, in32 x) (i : Int) (hi : 0 ≤ i ∧ i + 6 ≤ sc.length) (hs : sc.length ≤ 3072) (k : ∀ g, zLJ h g → zwW sc 400 0 1605 [(2, -1), (2, 1), (2, 37), (0, i)] [] g Q) : zwW sc 400 0 966 [(2, -1), (2, 1), (2, 37), (0, i)] [] h Q := by
  have X : zXR msxL 0 0 h h := zXR.rf _ _
  have E2_2 := zE_s2_2 E
  have E3_2 := zE_s3_2 E
  have E1_0 := zE_s1_0 E
  have E27_0 := zE_s27_0 E
  refine zwW_p [(1, 1, 2)] (q := 967) (ls' := [(2, -1), (2, 1), (2, 37), (0, i)]) (st' := [(2, 1)]) (by decide +kernel) rfl ?_
  refine zwW_cm C.1 (op := 60) (k' := 47) (n := 0) (kd := 12) (m := 13) (nx := 970) (r := 1) (tl := []) (st' := []) (by decide +kernel) rfl (by decide +kernel) rfl (x47 h C) ?_
  rintro v2 h3 ⟨Ch3, Qh3, f1⟩
  have Xh3 : zXR msxL (6) (6000) h h3 := X.tr (c2 := 6) (s2 := 6000) Qh3 (by decide +kernel) (by decide) (by decide)
  have th3_2_2 : fld h3 2 2 = fld h 2 2 := Qh3.f (a1 := 2) (a2 := 2) (j1 := 2) (j2 := 3) (by decide +kernel) (by first | decide | exact ⟨by decide, by decide⟩) (by first | decide | exact ⟨by decide, by decide⟩) (by first | decide | exact ⟨by decide, by decide⟩)
  have th3_37_1 : fld h3 37 1 = fld h 37 1 := Qh3.f (a1 := 37) (a2 := 37) (j1 := 1) (j2 := 2) (by decide +kernel) (by first | decide | exact ⟨by decide, by decide⟩) (by first | decide | exact ⟨by decide, by decide⟩) (by first | decide | exact ⟨by decide, by decide⟩)
  have th3_3_2 : fld h3 3 2 = fld h 3 2 := Qh3.f (a1 := 3) (a2 := 3) (j1 := 2) (j2 := 3) (by decide +kernel) (by first | decide | exact ⟨by decide, by decide⟩) (by first | decide | exact ⟨by decide, by decide⟩) (by first | decide | exact ⟨by decide, by decide⟩)
  have th3_37_2 : fld h3 37 2 = fld h 37 2 := Qh3.f (a1 := 37) (a2 := 37) (j1 := 2) (j2 := 3) (by decide +kernel) (by first | decide | exact ⟨by decide, by decide⟩) (by first | decide | exact ⟨by decide, by decide⟩) (by first | decide | exact ⟨by decide, by decide⟩)
  have th3_1_0 : fld h3 1 0 = fld h 1 0 := Qh3.f (a1 := 1) (a2 := 1) (j1 := 0) (j2 := 1) (by decide +kernel) (by first | decide | exact ⟨by decide, by decide⟩) (by first | decide | exact ⟨by decide, by decide⟩) (by first | decide | exact ⟨by decide, by decide⟩)
  have th3_37_0 : fld h3 37 0 = fld h 37 0 := Qh3.f (a1 := 37) (a2 := 37) (j1 := 0) (j2 := 1) (by decide +kernel) (by first | decide | exact ⟨by decide, by decide⟩) (by first | decide | exact ⟨by decide, by decide⟩) (by first | decide | exact ⟨by decide, by decide⟩)
  have th3_27_0 : fld h3 27 0 = fld h 27 0 := Qh3.f (a1 := 27) (a2 := 27) (j1 := 0) (j2 := 1) (by decide +kernel) (by first | decide | exact ⟨by decide, by decide⟩) (by first | decide | exact ⟨by decide, by decide⟩) (by first | decide | exact ⟨by decide, by decide⟩)
  have th3_37_96 : fld h3 37 96 = fld h 37 96 := Qh3.f (a1 := 37) (a2 := 37) (j1 := 96) (j2 := 97) (by decide +kernel) (by first | decide | exact ⟨by decide, by decide⟩) (by first | decide | exact ⟨by decide, by decide⟩) (by first | decide | exact ⟨by decide, by decide⟩)
  have Ah3 : zAM h3 := A.sm (fun r hr => Qh3.same (by decide +kernel) hr)
  have Wh3 : zCW h3 := W.sm C.1 (fun r hr => Qh3.same (by decide +kernel) hr)
  refine zwW_p [(15, 0, 0), (1, 2, 2)] (q := 972) (ls' := [(2, -1), (2, 1), (2, 37), (0, i)]) (st' := [(2, 37)]) (by decide +kernel) rfl ?_
  refine zwW_cm Ch3.1 (op := 60) (k' := 48) (n := 0) (kd := 13) (m := 97) (nx := 975) (r := 37) (tl := []) (st' := []) (by decide +kernel) rfl (by decide +kernel) rfl (m48 h3 Ch3.1) ?_
  rintro v5 h4 ⟨Ih4, Qh4, f6⟩
  obtain ⟨Ch4, Zh4⟩ := Ch3.m Ih4 Qh4 (by decide +kernel)
  have Xh4 : zXR msxL (6) (6000) h h4 := Xh3.tr (c2 := 6) (s2 := 6000) Zh4 (by decide +kernel) (by decide) (by decide)
  have th4_2_2 : fld h4 2 2 = fld h3 2 2 := Zh4.f (a1 := 2) (a2 := 2) (j1 := 2) (j2 := 3) (by decide +kernel) (by first | decide | exact ⟨by decide, by decide⟩) (by first | decide | exact ⟨by decide, by decide⟩) (by first | decide | exact ⟨by decide, by decide⟩)
  have th4_37_1 : fld h4 37 1 = fld h3 37 1 := Zh4.f (a1 := 37) (a2 := 37) (j1 := 1) (j2 := 2) (by decide +kernel) (by first | decide | exact ⟨by decide, by decide⟩) (by first | decide | exact ⟨by decide, by decide⟩) (by first | decide | exact ⟨by decide, by decide⟩)
  have th4_3_2 : fld h4 3 2 = fld h3 3 2 := Zh4.f (a1 := 3) (a2 := 3) (j1 := 2) (j2 := 3) (by decide +kernel) (by first | decide | exact ⟨by decide, by decide⟩) (by first | decide | exact ⟨by decide, by decide⟩) (by first | decide | exact ⟨by decide, by decide⟩)
  have th4_37_2 : fld h4 37 2 = fld h3 37 2 := Zh4.f (a1 := 37) (a2 := 37) (j1 := 2) (j2 := 3) (by decide +kernel) (by first | decide | exact ⟨by decide, by decide⟩) (by first | decide | exact ⟨by decide, by decide⟩) (by first | decide | exact ⟨by decide, by decide⟩)
  have th4_1_0 : fld h4 1 0 = fld h3 1 0 := Zh4.f (a1 := 1) (a2 := 1) (j1 := 0) (j2 := 1) (by decide +kernel) (by first | decide | exact ⟨by decide, by decide⟩) (by first | decide | exact ⟨by decide, by decide⟩) (by first | decide | exact ⟨by decide, by decide⟩)
  have th4_37_0 : fld h4 37 0 = fld h3 37 0 := Zh4.f (a1 := 37) (a2 := 37) (j1 := 0) (j2 := 1) (by decide +kernel) (by first | decide | exact ⟨by decide, by decide⟩) (by first | decide | exact ⟨by decide, by decide⟩) (by first | decide | exact ⟨by decide, by decide⟩)
  have th4_27_0 : fld h4 27 0 = fld h3 27 0 := Zh4.f (a1 := 27) (a2 := 27) (j1 := 0) (j2 := 1) (by decide +kernel) (by first | decide | exact ⟨by decide, by decide⟩) (by first | decide | exact ⟨by decide, by decide⟩) (by first | decide | exact ⟨by decide, by decide⟩)
  have th4_37_96 : fld h4 37 96 = fld h3 37 96 := Zh4.f (a1 := 37) (a2 := 37) (j1 := 96) (j2 := 97) (by decide +kernel) (by first | decide | exact ⟨by decide, by decide⟩) (by first | decide | exact ⟨by decide, by decide⟩) (by first | decide | exact ⟨by decide, by decide⟩)
  have Ah4 : zAM h4 := Ah3.mr Qh4 (by decide +kernel) (Ch3.1.b (a1 := 37) (a2 := 37) (j1 := 2) (j2 := 3) (lo := 0) (hi := 20) (by decide +kernel) (by decide) (by decide) (by decide) (by decide)).2
  have Wh4 : zCW h4 := Wh3.mr Ch3.1 Qh4 (by decide +kernel)
  have TT : zXR [(20, 20, 0, 3), (37, 37, 86, 87)] (6) (6000) h h4 := (Qh3.mono (ms' := [(20, 20, 0, 3), (37, 37, 86, 87)]) (by decide +kernel)).tr (c2 := 6) (s2 := 6000) Zh4 (by decide +kernel) (by decide) (by decide)
  have Eh4 : zE h4 := ⟨zQS.st (T := []) TT E.1 (by decide +kernel) zQS.nil, zNM.st (T := []) TT C E.2.1 (by decide +kernel) zNM.nil, zFL.st (T := []) TT C E.2.2.1 (by decide +kernel) zFL.nil, zZL.st (T := []) TT E.2.2.2.1 (by decide +kernel) zZL.nil, zRL.st (T := []) TT C E.2.2.2.2.1 (by decide +kernel) zRL.nil, E.2.2.2.2.2.kp TT (by decide +kernel) (by omega)⟩
  refine zwW_p [(15, 0, 0), (24, 1605, 0)] (q := 1605) (ls' := [(2, -1), (2, 1), (2, 37), (0, i)]) (st' := []) (by decide +kernel) rfl ?_
  exact k _ ⟨Ch4, Ah4, Wh4, Eh4, _, Xh4.le (by decide) (by decide)⟩
theorem zl_979 {sc : List Int} {Q : Option Vl → Hp → Prop} (h : Hp) (C : CI h) (A : zAM h) (W : zCW h) (E : zE h) (hl : h.length ≤ 800000) (hin : ∀ x ∈ sc, in32 x) (i : Int) (hi : 0 ≤ i ∧ i + 6 ≤ sc.length) (hs : sc.length ≤ 3072) (k : ∀ g, zLJ h g → zwW sc 400 0 1605 [(2, -1), (2, 1), (2, 37), (0, i)] [] g Q) : zwW sc 400 0 979 [(2, -1), (2, 1), (2, 37), (0, i)] [] h Q := by
  have X : zXR msxL 0 0 h h := zXR.rf _ _
  have E2_2 := zE_s2_2 E
  have E3_2 := zE_s3_2 E
  have E1_0 := zE_s1_0 E
  have E27_0 := zE_s27_0 E
  refine zwW_p [(1, 1, 2), (1, 0, 2), (1, 3, 0), (0, 1, 0)] (q := 983) (ls' := [(2, -1), (2, 1), (2, 37), (0, i)]) (st' := [(0, 1), (0, i), (2, -1), (2, 1)]) (by decide +kernel) rfl ?_
  refine zwW_add (nx := 984) (by decide +kernel) (by first | omega | exact ⟨by omega, by omega⟩) ?_
  refine zwW_sld (nx := 985) (by decide +kernel) (by omega) (by omega) ?_
  obtain ⟨v1, ev1⟩ : ∃ z, z = sc.getD (i + 1).toNat 0 := ⟨_, rfl⟩
  rw [← ev1]
  have qv1 : -2147483648 ≤ v1 ∧ v1 ≤ 2147483647 := by rw [ev1]; exact zgetD hin _
  refine zwW_p [(1, 0, 2), (1, 3, 0), (0, 2, 0)] (q := 988) (ls' := [(2, -1), (2, 1), (2, 37), (0, i)]) (st' := [(0, 2), (0, i), (2, -1), (0, v1), (2, 1)]) (by decide +kernel) rfl ?_
  refine zwW_add (nx := 989) (by decide +kernel) (by first | omega | exact ⟨by omega, by omega⟩) ?_
  refine zwW_sld (nx := 990) (by decide +kernel) (by omega) (by omega) ?_
  obtain ⟨v2, ev2⟩ : ∃ z, z = sc.getD (i + 2).toNat 0 := ⟨_, rfl⟩
  rw [← ev2]
  have qv2 : -2147483648 ≤ v2 ∧ v2 ≤ 2147483647 := by rw [ev2]; exact zgetD hin _
  refine zwW_cm C.1 (op := 60) (k' := 49) (n := 2) (kd := 12) (m := 13) (nx := 993) (r := 1) (tl := [(0, v1), (0, v2)]) (st' := []) (by decide +kernel) rfl (by decide +kernel) rfl (x49 h C v1 v2 (by omega) (by omega) (by omega)) ?_
  rintro v4 h5 ⟨Ch5, Qh5, f3⟩
  have Xh5 : zXR msxL (6) (6000) h h5 := X.tr (c2 := 6) (s2 := 6000) Qh5 (by decide +kernel) (by decide) (by decide)
  have th5_2_2 : fld h5 2 2 = fld h 2 2 := Qh5.f (a1 := 2) (a2 := 2) (j1 := 2) (j2 := 3) (by decide +kernel) (by first | decide | exact ⟨by decide, by decide⟩) (by first | decide | exact ⟨by decide, by decide⟩) (by first | decide | exact ⟨by decide, by decide⟩)
  have th5_37_1 : fld h5 37 1 = fld h 37 1 := Qh5.f (a1 := 37) (a2 := 37) (j1 := 1) (j2 := 2) (by decide +kernel) (by first | decide | exact ⟨by decide, by decide⟩) (by first | decide | exact ⟨by decide, by decide⟩) (by first | decide | exact ⟨by decide, by decide⟩)
  have th5_3_2 : fld h5 3 2 = fld h 3 2 := Qh5.f (a1 := 3) (a2 := 3) (j1 := 2) (j2 := 3) (by decide +kernel) (by first | decide | exact ⟨by decide, by decide⟩) (by first | decide | exact ⟨by decide, by decide⟩) (by first | decide | exact ⟨by decide, by decide⟩)
  have th5_37_2 : fld h5 37 2 = fld h 37 2 := Qh5.f (a1 := 37) (a2 := 37) (j1 := 2) (j2 := 3) (by decide +kernel) (by first | decide | exact ⟨by decide, by decide⟩) (by first | decide | exact ⟨by decide, by decide⟩) (by first | decide | exact ⟨by decide, by decide⟩)
  have th5_1_0 : fld h5 1 0 = fld h 1 0 := Qh5.f (a1 := 1) (a2 := 1) (j1 := 0) (j2 := 1) (by decide +kernel) (by first | decide | exact ⟨by decide, by decide⟩) (by first | decide | exact ⟨by decide, by decide⟩) (by first | decide | exact ⟨by decide, by decide⟩)
  have th5_37_0 : fld h5 37 0 = fld h 37 0 := Qh5.f (a1 := 37) (a2 := 37) (j1 := 0) (j2 := 1) (by decide +kernel) (by first | decide | exact ⟨by decide, by decide⟩) (by first | decide | exact ⟨by decide, by decide⟩) (by first | decide | exact ⟨by decide, by decide⟩)
  have th5_27_0 : fld h5 27 0 = fld h 27 0 := Qh5.f (a1 := 27) (a2 := 27) (j1 := 0) (j2 := 1) (by decide +kernel) (by first | decide | exact ⟨by decide, by decide⟩) (by first | decide | exact ⟨by decide, by decide⟩) (by first | decide | exact ⟨by decide, by decide⟩)
  have th5_37_96 : fld h5 37 96 = fld h 37 96 := Qh5.f (a1 := 37) (a2 := 37) (j1 := 96) (j2 := 97) (by decide +kernel) (by first | decide | exact ⟨by decide, by decide⟩) (by first | decide | exact ⟨by decide, by decide⟩) (by first | decide | exact ⟨by decide, by decide⟩)
  have Ah5 : zAM h5 := A.sm (fun r hr => Qh5.same (by decide +kernel) hr)
  have Wh5 : zCW h5 := W.sm C.1 (fun r hr => Qh5.same (by decide +kernel) hr)
  refine zwW_p [(15, 0, 0), (1, 2, 2), (1, 0, 2), (1, 3, 0), (0, 1, 0)] (q := 998) (ls' := [(2, -1), (2, 1), (2, 37), (0, i)]) (st' := [(0, 1), (0, i), (2, -1), (2, 37)]) (by decide +kernel) rfl ?_
  refine zwW_add (nx := 999) (by decide +kernel) (by first | omega | exact ⟨by omega, by omega⟩) ?_
  refine zwW_sld (nx := 1000) (by decide +kernel) (by omega) (by omega) ?_
  rw [← ev1]
  refine zwW_p [(1, 0, 2), (1, 3, 0), (0, 2, 0)] (q := 1003) (ls' := [(2, -1), (2, 1), (2, 37), (0, i)]) (st' := [(0, 2), (0, i), (2, -1), (0, v1), (2, 37)]) (by decide +kernel) rfl ?_
  refine zwW_add (nx := 1004) (by decide +kernel) (by first | omega | exact ⟨by omega, by omega⟩) ?_
  refine zwW_sld (nx := 1005) (by decide +kernel) (by omega) (by omega) ?_
  rw [← ev2]
  refine zwW_cm Ch5.1 (op := 60) (k' := 50) (n := 2) (kd := 13) (m := 97) (nx := 1008) (r := 37) (tl := [(0, v1), (0, v2)]) (st' := []) (by decide +kernel) rfl (by decide +kernel) rfl (m50 h5 Ch5.1 v1 v2 (by omega) Wh5) ?_
  rintro v7 h6 ⟨Ih6, Qh6, f8⟩
  obtain ⟨Ch6, Zh6⟩ := Ch5.m Ih6 Qh6 (by decide +kernel)
  have Xh6 : zXR msxL (6) (6000) h h6 := Xh5.tr (c2 := 6) (s2 := 6000) Zh6 (by decide +kernel) (by decide) (by decide)
  have th6_2_2 : fld h6 2 2 = fld h5 2 2 := Zh6.f (a1 := 2) (a2 := 2) (j1 := 2) (j2 := 3) (by decide +kernel) (by first | decide | exact ⟨by decide, by decide⟩) (by first | decide | exact ⟨by decide, by decide⟩) (by first | decide | exact ⟨by decide, by decide⟩)
  have th6_37_1 : fld h6 37 1 = fld h5 37 1 := Zh6.f (a1 := 37) (a2 := 37) (j1 := 1) (j2 := 2) (by decide +kernel) (by first | decide | exact ⟨by decide, by decide⟩) (by first | decide | exact ⟨by decide, by decide⟩) (by first | decide | exact ⟨by decide, by decide⟩)
  have th6_3_2 : fld h6 3 2 = fld h5 3 2 := Zh6.f (a1 := 3) (a2 := 3) (j1 := 2) (j2 := 3) (by decide +kernel) (by first | decide | exact ⟨by decide, by decide⟩) (by first | decide | exact ⟨by decide, by decide⟩) (by first | decide | exact ⟨by decide, by decide⟩)
  have th6_37_2 : fld h6 37 2 = fld h5 37 2 := Zh6.f (a1 := 37) (a2 := 37) (j1 := 2) (j2 := 3) (by decide +kernel) (by first | decide | exact ⟨by decide, by decide⟩) (by first | decide | exact ⟨by decide, by decide⟩) (by first | decide | exact ⟨by decide, by decide⟩)
  have th6_1_0 : fld h6 1 0 = fld h5 1 0 := Zh6.f (a1 := 1) (a2 := 1) (j1 := 0) (j2 := 1) (by decide +kernel) (by first | decide | exact ⟨by decide, by decide⟩) (by first | decide | exact ⟨by decide, by decide⟩) (by first | decide | exact ⟨by decide, by decide⟩)
  have th6_37_0 : fld h6 37 0 = fld h5 37 0 := Zh6.f (a1 := 37) (a2 := 37) (j1 := 0) (j2 := 1) (by decide +kernel) (by first | decide | exact ⟨by decide, by decide⟩) (by first | decide | exact ⟨by decide, by decide⟩) (by first | decide | exact ⟨by decide, by decide⟩)
  have th6_27_0 : fld h6 27 0 = fld h5 27 0 := Zh6.f (a1 := 27) (a2 := 27) (j1 := 0) (j2 := 1) (by decide +kernel) (by first | decide | exact ⟨by decide, by decide⟩) (by first | decide | exact ⟨by decide, by decide⟩) (by first | decide | exact ⟨by decide, by decide⟩)
  have th6_37_96 : fld h6 37 96 = fld h5 37 96 := Zh6.f (a1 := 37) (a2 := 37) (j1 := 96) (j2 := 97) (by decide +kernel) (by first | decide | exact ⟨by decide, by decide⟩) (by first | decide | exact ⟨by decide, by decide⟩) (by first | decide | exact ⟨by decide, by decide⟩)
  have Ah6 : zAM h6 := Ah5.mr Qh6 (by decide +kernel) (Ch5.1.b (a1 := 37) (a2 := 37) (j1 := 2) (j2 := 3) (lo := 0) (hi := 20) (by decide +kernel) (by decide) (by decide) (by decide) (by decide)).2
  have Wh6 : zCW h6 := Wh5.mr Ch5.1 Qh6 (by decide +kernel)
  have TT : zXR [(17, 17, 0, 13), (18, 18, 0, 400), (19, 19, 2, 3), (19, 19, 3, 4), (19, 19, 4, 5), (21, 21, 0, 3), (22, 22, 0, 6), (23, 23, 0, 6), (24, 24, 0, 6), (25, 25, 0, 6), (26, 26, 0, 6), (37, 37, 87, 88), (37, 37, 88, 91), (97, 97, 0, 8), (168, 168, 0, 13), (169, 169, 0, 420), (187, 187, 0, 6), (188, 188, 0, 6), (189, 189, 0, 6), (190, 190, 0, 6), (192, 197, 0, 6), (199, 204, 0, 6)] (6) (6000) h h6 := (Qh5.mono (ms' := [(17, 17, 0, 13), (18, 18, 0, 400), (19, 19, 2, 3), (19, 19, 3, 4), (19, 19, 4, 5), (21, 21, 0, 3), (22, 22, 0, 6), (23, 23, 0, 6), (24, 24, 0, 6), (25, 25, 0, 6), (26, 26, 0, 6), (37, 37, 87, 88), (37, 37, 88, 91), (97, 97, 0, 8), (168, 168, 0, 13), (169, 169, 0, 420), (187, 187, 0, 6), (188, 188, 0, 6), (189, 189, 0, 6), (190, 190, 0, 6), (192, 197, 0, 6), (199, 204, 0, 6)]) (by decide +kernel)).tr (c2 := 6) (s2 := 6000) Zh6 (by decide +kernel) (by decide) (by decide)
  have Eh6 : zE h6 := ⟨zQS.st (T := []) TT E.1 (by decide +kernel) zQS.nil, zNM.st (T := []) TT C E.2.1 (by decide +kernel) zNM.nil, zFL.st (T := []) TT C E.2.2.1 (by decide +kernel) zFL.nil, zZL.st (T := []) TT E.2.2.2.1 (by decide +kernel) zZL.nil, zRL.st (T := []) TT C E.2.2.2.2.1 (by decide +kernel) zRL.nil, E.2.2.2.2.2.kp TT (by decide +kernel) (by omega)⟩
  refine zwW_p [(15, 0, 0), (24, 1605, 0)] (q := 1605) (ls' := [(2, -1), (2, 1), (2, 37), (0, i)]) (st' := []) (by decide +kernel) rfl ?_
  exact k _ ⟨Ch6, Ah6, Wh6, Eh6, _, Xh6.le (by decide) (by decide)⟩
theorem zl_1012 {sc : List Int} {Q : Option Vl → Hp → Prop} (h : Hp) (C : CI h) (A : zAM h) (W : zCW h) (E : zE h) (hl : h.length ≤ 800000) (hin : ∀ x ∈ sc, in32 x) (i : Int) (hi : 0 ≤ i ∧ i + 6 ≤ sc.length) (hs : sc.length ≤ 3072) (k : ∀ g, zLJ h g → zwW sc 400 0 1605 [(2, -1), (2, 1), (2, 37), (0, i)] [] g Q) : zwW sc 400 0 1012 [(2, -1), (2, 1), (2, 37), (0, i)] [] h Q := by
  have X : zXR msxL 0 0 h h := zXR.rf _ _
  have E2_2 := zE_s2_2 E
  have E3_2 := zE_s3_2 E
  have E1_0 := zE_s1_0 E
  have E27_0 := zE_s27_0 E
  refine zwW_p [(1, 1, 2), (1, 0, 2), (1, 3, 0), (0, 1, 0)] (q := 1016) (ls' := [(2, -1), (2, 1), (2, 37), (0, i)]) (st' := [(0, 1), (0, i), (2, -1), (2, 1)]) (by decide +kernel) rfl ?_
  refine zwW_add (nx := 1017) (by decide +kernel) (by first | omega | exact ⟨by omega, by omega⟩) ?_
  refine zwW_sld (nx := 1018) (by decide +kernel) (by omega) (by omega) ?_
  obtain ⟨v1, ev1⟩ : ∃ z, z = sc.getD (i + 1).toNat 0 := ⟨_, rfl⟩
  rw [← ev1]
  have qv1 : -2147483648 ≤ v1 ∧ v1 ≤ 2147483647 := by rw [ev1]; exact zgetD hin _
  refine zwW_p [(1, 0, 2), (1, 3, 0), (0, 2, 0)] (q := 1021) (ls' := [(2, -1), (2, 1), (2, 37), (0, i)]) (st' := [(0, 2), (0, i), (2, -1), (0, v1), (2, 1)]) (by decide +kernel) rfl ?_
  refine zwW_add (nx := 1022) (by decide +kernel) (by first | omega | exact ⟨by omega, by omega⟩) ?_
  refine zwW_sld (nx := 1023) (by decide +kernel) (by omega) (by omega) ?_
  obtain ⟨v2, ev2⟩ : ∃ z, z = sc.getD (i + 2).toNat 0 := ⟨_, rfl⟩
  rw [← ev2]
  have qv2 : -2147483648 ≤ v2 ∧ v2 ≤ 2147483647 := by rw [ev2]; exact zgetD hin _
  refine zwW_cm C.1 (op := 60) (k' := 51) (n := 2) (kd := 12) (m := 13) (nx := 1026) (r := 1) (tl := [(0, v1), (0, v2)]) (st' := []) (by decide +kernel) rfl (by decide +kernel) rfl (x51 h C v1 v2 (by omega) (by omega)) ?_
  rintro v4 h5 ⟨Ch5, Qh5, f3⟩
  have Xh5 : zXR msxL (0) (0) h h5 := X.tr (c2 := 0) (s2 := 0) Qh5 (by decide +kernel) (by decide) (by decide)
  have th5_2_2 : fld h5 2 2 = fld h 2 2 := Qh5.f (a1 := 2) (a2 := 2) (j1 := 2) (j2 := 3) (by decide +kernel) (by first | decide | exact ⟨by decide, by decide⟩) (by first | decide | exact ⟨by decide, by decide⟩) (by first | decide | exact ⟨by decide, by decide⟩)
  have th5_37_1 : fld h5 37 1 = fld h 37 1 := Qh5.f (a1 := 37) (a2 := 37) (j1 := 1) (j2 := 2) (by decide +kernel) (by first | decide | exact ⟨by decide, by decide⟩) (by first | decide | exact ⟨by decide, by decide⟩) (by first | decide | exact ⟨by decide, by decide⟩)
  have th5_3_2 : fld h5 3 2 = fld h 3 2 := Qh5.f (a1 := 3) (a2 := 3) (j1 := 2) (j2 := 3) (by decide +kernel) (by first | decide | exact ⟨by decide, by decide⟩) (by first | decide | exact ⟨by decide, by decide⟩) (by first | decide | exact ⟨by decide, by decide⟩)
  have th5_37_2 : fld h5 37 2 = fld h 37 2 := Qh5.f (a1 := 37) (a2 := 37) (j1 := 2) (j2 := 3) (by decide +kernel) (by first | decide | exact ⟨by decide, by decide⟩) (by first | decide | exact ⟨by decide, by decide⟩) (by first | decide | exact ⟨by decide, by decide⟩)
  have th5_1_0 : fld h5 1 0 = fld h 1 0 := Qh5.f (a1 := 1) (a2 := 1) (j1 := 0) (j2 := 1) (by decide +kernel) (by first | decide | exact ⟨by decide, by decide⟩) (by first | decide | exact ⟨by decide, by decide⟩) (by first | decide | exact ⟨by decide, by decide⟩)
  have th5_37_0 : fld h5 37 0 = fld h 37 0 := Qh5.f (a1 := 37) (a2 := 37) (j1 := 0) (j2 := 1) (by decide +kernel) (by first | decide | exact ⟨by decide, by decide⟩) (by first | decide | exact ⟨by decide, by decide⟩) (by first | decide | exact ⟨by decide, by decide⟩)
  have th5_27_0 : fld h5 27 0 = fld h 27 0 := Qh5.f (a1 := 27) (a2 := 27) (j1 := 0) (j2 := 1) (by decide +kernel) (by first | decide | exact ⟨by decide, by decide⟩) (by first | decide | exact ⟨by decide, by decide⟩) (by first | decide | exact ⟨by decide, by decide⟩)
  have th5_37_96 : fld h5 37 96 = fld h 37 96 := Qh5.f (a1 := 37) (a2 := 37) (j1 := 96) (j2 := 97) (by decide +kernel) (by first | decide | exact ⟨by decide, by decide⟩) (by first | decide | exact ⟨by decide, by decide⟩) (by first | decide | exact ⟨by decide, by decide⟩)
  have Ah5 : zAM h5 := A.sm (fun r hr => Qh5.same (by decide +kernel) hr)
  have Wh5 : zCW h5 := W.sm C.1 (fun r hr => Qh5.same (by decide +kernel) hr)
  refine zwW_p [(15, 0, 0), (1, 2, 2), (1, 0, 2), (1, 3, 0), (0, 1, 0)] (q := 1031) (ls' := [(2, -1), (2, 1), (2, 37), (0, i)]) (st' := [(0, 1), (0, i), (2, -1), (2, 37)]) (by decide +kernel) rfl ?_
  refine zwW_add (nx := 1032) (by decide +kernel) (by first | omega | exact ⟨by omega, by omega⟩) ?_
  refine zwW_sld (nx := 1033) (by decide +kernel) (by omega) (by omega) ?_
  rw [← ev1]
  refine zwW_p [(1, 0, 2), (1, 3, 0), (0, 2, 0)] (q := 1036) (ls' := [(2, -1), (2, 1), (2, 37), (0, i)]) (st' := [(0, 2), (0, i), (2, -1), (0, v1), (2, 37)]) (by decide +kernel) rfl ?_
  refine zwW_add (nx := 1037) (by decide +kernel) (by first | omega | exact ⟨by omega, by omega⟩) ?_
  refine zwW_sld (nx := 1038) (by decide +kernel) (by omega) (by omega) ?_
  rw [← ev2]
  refine zwW_cm Ch5.1 (op := 60) (k' := 52) (n := 2) (kd := 13) (m := 97) (nx := 1041) (r := 37) (tl := [(0, v1), (0, v2)]) (st' := []) (by decide +kernel) rfl (by decide +kernel) rfl (m52 h5 Ch5.1 v1 v2) ?_
  rintro v7 h6 ⟨Ih6, Qh6, f8⟩
  obtain ⟨Ch6, Zh6⟩ := Ch5.m Ih6 Qh6 (by decide +kernel)
  have Xh6 : zXR msxL (0) (0) h h6 := Xh5.tr (c2 := 0) (s2 := 0) Zh6 (by decide +kernel) (by decide) (by decide)
  have th6_2_2 : fld h6 2 2 = fld h5 2 2 := Zh6.f (a1 := 2) (a2 := 2) (j1 := 2) (j2 := 3) (by decide +kernel) (by first | decide | exact ⟨by decide, by decide⟩) (by first | decide | exact ⟨by decide, by decide⟩) (by first | decide | exact ⟨by decide, by decide⟩)
  have th6_37_1 : fld h6 37 1 = fld h5 37 1 := Zh6.f (a1 := 37) (a2 := 37) (j1 := 1) (j2 := 2) (by decide +kernel) (by first | decide | exact ⟨by decide, by decide⟩) (by first | decide | exact ⟨by decide, by decide⟩) (by first | decide | exact ⟨by decide, by decide⟩)
  have th6_3_2 : fld h6 3 2 = fld h5 3 2 := Zh6.f (a1 := 3) (a2 := 3) (j1 := 2) (j2 := 3) (by decide +kernel) (by first | decide | exact ⟨by decide, by decide⟩) (by first | decide | exact ⟨by decide, by decide⟩) (by first | decide | exact ⟨by decide, by decide⟩)
  have th6_37_2 : fld h6 37 2 = fld h5 37 2 := Zh6.f (a1 := 37) (a2 := 37) (j1 := 2) (j2 := 3) (by decide +kernel) (by first | decide | exact ⟨by decide, by decide⟩) (by first | decide | exact ⟨by decide, by decide⟩) (by first | decide | exact ⟨by decide, by decide⟩)
  have th6_1_0 : fld h6 1 0 = fld h5 1 0 := Zh6.f (a1 := 1) (a2 := 1) (j1 := 0) (j2 := 1) (by decide +kernel) (by first | decide | exact ⟨by decide, by decide⟩) (by first | decide | exact ⟨by decide, by decide⟩) (by first | decide | exact ⟨by decide, by decide⟩)
  have th6_37_0 : fld h6 37 0 = fld h5 37 0 := Zh6.f (a1 := 37) (a2 := 37) (j1 := 0) (j2 := 1) (by decide +kernel) (by first | decide | exact ⟨by decide, by decide⟩) (by first | decide | exact ⟨by decide, by decide⟩) (by first | decide | exact ⟨by decide, by decide⟩)
  have th6_27_0 : fld h6 27 0 = fld h5 27 0 := Zh6.f (a1 := 27) (a2 := 27) (j1 := 0) (j2 := 1) (by decide +kernel) (by first | decide | exact ⟨by decide, by decide⟩) (by first | decide | exact ⟨by decide, by decide⟩) (by first | decide | exact ⟨by decide, by decide⟩)
  have th6_37_96 : fld h6 37 96 = fld h5 37 96 := Zh6.f (a1 := 37) (a2 := 37) (j1 := 96) (j2 := 97) (by decide +kernel) (by first | decide | exact ⟨by decide, by decide⟩) (by first | decide | exact ⟨by decide, by decide⟩) (by first | decide | exact ⟨by decide, by decide⟩)
  have Ah6 : zAM h6 := Ah5.mr Qh6 (by decide +kernel) (Ch5.1.b (a1 := 37) (a2 := 37) (j1 := 2) (j2 := 3) (lo := 0) (hi := 20) (by decide +kernel) (by decide) (by decide) (by decide) (by decide)).2
  have Wh6 : zCW h6 := Wh5.mr Ch5.1 Qh6 (by decide +kernel)
  have TT : zXR [(67, 67, 0, 8), (68, 68, 0, 8), (75, 75, 0, 8), (97, 97, 0, 8), (184, 184, 0, 200), (1001, 1001, 5, 6), (1011, 1011, 5, 6), (1011, 1011, 6, 7), (1011, 1011, 12, 13)] (0) (0) h h6 := (Qh5.mono (ms' := [(67, 67, 0, 8), (68, 68, 0, 8), (75, 75, 0, 8), (97, 97, 0, 8), (184, 184, 0, 200), (1001, 1001, 5, 6), (1011, 1011, 5, 6), (1011, 1011, 6, 7), (1011, 1011, 12, 13)]) (by decide +kernel)).tr (c2 := 0) (s2 := 0) Zh6 (by decide +kernel) (by decide) (by decide)
  have Eh6 : zE h6 := ⟨zQS.st (T := []) TT E.1 (by decide +kernel) zQS.nil, zNM.st (T := []) TT C E.2.1 (by decide +kernel) zNM.nil, zFL.st (T := []) TT C E.2.2.1 (by decide +kernel) zFL.nil, zZL.st (T := []) TT E.2.2.2.1 (by decide +kernel) zZL.nil, zRL.st (T := []) TT C E.2.2.2.2.1 (by decide +kernel) zRL.nil, E.2.2.2.2.2.kp TT (by decide +kernel) (by omega)⟩
  refine zwW_p [(15, 0, 0), (24, 1605, 0)] (q := 1605) (ls' := [(2, -1), (2, 1), (2, 37), (0, i)]) (st' := []) (by decide +kernel) rfl ?_
  exact k _ ⟨Ch6, Ah6, Wh6, Eh6, _, Xh6.le (by decide) (by decide)⟩
theorem zl_1045 {sc : List Int} {Q : Option Vl → Hp → Prop} (h : Hp) (C : CI h) (A : zAM h) (W : zCW h) (E : zE h) (hl : h.length ≤ 800000) (hin : ∀ x ∈ sc, in32 x) (i : Int) (hi : 0 ≤ i ∧ i + 6 ≤ sc.length) (hs : sc.length ≤ 3072) (k : ∀ g, zLJ h g → zwW sc 400 0 1605 [(2, -1), (2, 1), (2, 37), (0, i)] [] g Q) : zwW sc 400 0 1045 [(2, -1), (2, 1), (2, 37), (0, i)] [] h Q := by
  have X : zXR msxL 0 0 h h := zXR.rf _ _
  have E2_2 := zE_s2_2 E
  have E3_2 := zE_s3_2 E
  have E1_0 := zE_s1_0 E
  have E27_0 := zE_s27_0 E
  refine zwW_p [(1, 1, 2), (1, 0, 2), (1, 3, 0), (0, 1, 0)] (q := 1049) (ls' := [(2, -1), (2, 1), (2, 37), (0, i)]) (st' := [(0, 1), (0, i), (2, -1), (2, 1)]) (by decide +kernel) rfl ?_
  refine zwW_add (nx := 1050) (by decide +kernel) (by first | omega | exact ⟨by omega, by omega⟩) ?_
  refine zwW_sld (nx := 1051) (by decide +kernel) (by omega) (by omega) ?_
  obtain ⟨v1, ev1⟩ : ∃ z, z = sc.getD (i + 1).toNat 0 := ⟨_, rfl⟩
  rw [← ev1]
  have qv1 : -2147483648 ≤ v1 ∧ v1 ≤ 2147483647 := by rw [ev1]; exact zgetD hin _
  refine zwW_p [(1, 0, 2), (1, 3, 0), (0, 2, 0)] (q := 1054) (ls' := [(2, -1), (2, 1), (2, 37), (0, i)]) (st' := [(0, 2), (0, i), (2, -1), (0, v1), (2, 1)]) (by decide +kernel) rfl ?_
  refine zwW_add (nx := 1055) (by decide +kernel) (by first | omega | exact ⟨by omega, by omega⟩) ?_
  refine zwW_sld (nx := 1056) (by decide +kernel) (by omega) (by omega) ?_
  obtain ⟨v2, ev2⟩ : ∃ z, z = sc.getD (i + 2).toNat 0 := ⟨_, rfl⟩
  rw [← ev2]
  have qv2 : -2147483648 ≤ v2 ∧ v2 ≤ 2147483647 := by rw [ev2]; exact zgetD hin _
  refine zwW_cm C.1 (op := 60) (k' := 53) (n := 2) (kd := 12) (m := 13) (nx := 1059) (r := 1) (tl := [(0, v1), (0, v2)]) (st' := []) (by decide +kernel) rfl (by decide +kernel) rfl (x53 h C v1 v2 (by omega) (by omega)) ?_
  rintro v4 h5 ⟨Ch5, Qh5, f3⟩
  have Xh5 : zXR msxL (0) (0) h h5 := X.tr (c2 := 0) (s2 := 0) Qh5 (by decide +kernel) (by decide) (by decide)
  have th5_2_2 : fld h5 2 2 = fld h 2 2 := Qh5.f (a1 := 2) (a2 := 2) (j1 := 2) (j2 := 3) (by decide +kernel) (by first | decide | exact ⟨by decide, by decide⟩) (by first | decide | exact ⟨by decide, by decide⟩) (by first | decide | exact ⟨by decide, by decide⟩)
  have th5_37_1 : fld h5 37 1 = fld h 37 1 := Qh5.f (a1 := 37) (a2 := 37) (j1 := 1) (j2 := 2) (by decide +kernel) (by first | decide | exact ⟨by decide, by decide⟩) (by first | decide | exact ⟨by decide, by decide⟩) (by first | decide | exact ⟨by decide, by decide⟩)
  have th5_3_2 : fld h5 3 2 = fld h 3 2 := Qh5.f (a1 := 3) (a2 := 3) (j1 := 2) (j2 := 3) (by decide +kernel) (by first | decide | exact ⟨by decide, by decide⟩) (by first | decide | exact ⟨by decide, by decide⟩) (by first | decide | exact ⟨by decide, by decide⟩)
  have th5_37_2 : fld h5 37 2 = fld h 37 2 := Qh5.f (a1 := 37) (a2 := 37) (j1 := 2) (j2 := 3) (by decide +kernel) (by first | decide | exact ⟨by decide, by decide⟩) (by first | decide | exact ⟨by decide, by decide⟩) (by first | decide | exact ⟨by decide, by decide⟩)
  have th5_1_0 : fld h5 1 0 = fld h 1 0 := Qh5.f (a1 := 1) (a2 := 1) (j1 := 0) (j2 := 1) (by decide +kernel) (by first | decide | exact ⟨by decide, by decide⟩) (by first | decide | exact ⟨by decide, by decide⟩) (by first | decide | exact ⟨by decide, by decide⟩)
  have th5_37_0 : fld h5 37 0 = fld h 37 0 := Qh5.f (a1 := 37) (a2 := 37) (j1 := 0) (j2 := 1) (by decide +kernel) (by first | decide | exact ⟨by decide, by decide⟩) (by first | decide | exact ⟨by decide, by decide⟩) (by first | decide | exact ⟨by decide, by decide⟩)
  have th5_27_0 : fld h5 27 0 = fld h 27 0 := Qh5.f (a1 := 27) (a2 := 27) (j1 := 0) (j2 := 1) (by decide +kernel) (by first | decide | exact ⟨by decide, by decide⟩) (by first | decide | exact ⟨by decide, by decide⟩) (by first | decide | exact ⟨by decide, by decide⟩)
  have th5_37_96 : fld h5 37 96 = fld h 37 96 := Qh5.f (a1 := 37) (a2 := 37) (j1 := 96) (j2 := 97) (by decide +kernel) (by first | decide | exact ⟨by decide, by decide⟩) (by first | decide | exact ⟨by decide, by decide⟩) (by first | decide | exact ⟨by decide, by decide⟩)
  have Ah5 : zAM h5 := A.sm (fun r hr => Qh5.same (by decide +kernel) hr)
  have Wh5 : zCW h5 := W.sm C.1 (fun r hr => Qh5.same (by decide +kernel) hr)
  refine zwW_p [(15, 0, 0), (1, 2, 2), (1, 0, 2), (1, 3, 0), (0, 1, 0)] (q := 1064) (ls' := [(2, -1), (2, 1), (2, 37), (0, i)]) (st' := [(0, 1), (0, i), (2, -1), (2, 37)]) (by decide +kernel) rfl ?_
  refine zwW_add (nx := 1065) (by decide +kernel) (by first | omega | exact ⟨by omega, by omega⟩) ?_
  refine zwW_sld (nx := 1066) (by decide +kernel) (by omega) (by omega) ?_
  rw [← ev1]
  refine zwW_p [(1, 0, 2), (1, 3, 0), (0, 2, 0)] (q := 1069) (ls' := [(2, -1), (2, 1), (2, 37), (0, i)]) (st' := [(0, 2), (0, i), (2, -1), (0, v1), (2, 37)]) (by decide +kernel) rfl ?_
  refine zwW_add (nx := 1070) (by decide +kernel) (by first | omega | exact ⟨by omega, by omega⟩) ?_
  refine zwW_sld (nx := 1071) (by decide +kernel) (by omega) (by omega) ?_
  rw [← ev2]
  refine zwW_cm Ch5.1 (op := 60) (k' := 54) (n := 2) (kd := 13) (m := 97) (nx := 1074) (r := 37) (tl := [(0, v1), (0, v2)]) (st' := []) (by decide +kernel) rfl (by decide +kernel) rfl (m54 h5 Ch5.1 v1 v2) ?_
  rintro v7 h6 ⟨Ih6, Qh6, f8⟩
  obtain ⟨Ch6, Zh6⟩ := Ch5.m Ih6 Qh6 (by decide +kernel)
  have Xh6 : zXR msxL (0) (0) h h6 := Xh5.tr (c2 := 0) (s2 := 0) Zh6 (by decide +kernel) (by decide) (by decide)
  have th6_2_2 : fld h6 2 2 = fld h5 2 2 := Zh6.f (a1 := 2) (a2 := 2) (j1 := 2) (j2 := 3) (by decide +kernel) (by first | decide | exact ⟨by decide, by decide⟩) (by first | decide | exact ⟨by decide, by decide⟩) (by first | decide | exact ⟨by decide, by decide⟩)
  have th6_37_1 : fld h6 37 1 = fld h5 37 1 := Zh6.f (a1 := 37) (a2 := 37) (j1 := 1) (j2 := 2) (by decide +kernel) (by first | decide | exact ⟨by decide, by decide⟩) (by first | decide | exact ⟨by decide, by decide⟩) (by first | decide | exact ⟨by decide, by decide⟩)
  have th6_3_2 : fld h6 3 2 = fld h5 3 2 := Zh6.f (a1 := 3) (a2 := 3) (j1 := 2) (j2 := 3) (by decide +kernel) (by first | decide | exact ⟨by decide, by decide⟩) (by first | decide | exact ⟨by decide, by decide⟩) (by first | decide | exact ⟨by decide, by decide⟩)
  have th6_37_2 : fld h6 37 2 = fld h5 37 2 := Zh6.f (a1 := 37) (a2 := 37) (j1 := 2) (j2 := 3) (by decide +kernel) (by first | decide | exact ⟨by decide, by decide⟩) (by first | decide | exact ⟨by decide, by decide⟩) (by first | decide | exact ⟨by decide, by decide⟩)
  have th6_1_0 : fld h6 1 0 = fld h5 1 0 := Zh6.f (a1 := 1) (a2 := 1) (j1 := 0) (j2 := 1) (by decide +kernel) (by first | decide | exact ⟨by decide, by decide⟩) (by first | decide | exact ⟨by decide, by decide⟩) (by first | decide | exact ⟨by decide, by decide⟩)
  have th6_37_0 : fld h6 37 0 = fld h5 37 0 := Zh6.f (a1 := 37) (a2 := 37) (j1 := 0) (j2 := 1) (by decide +kernel) (by first | decide | exact ⟨by decide, by decide⟩) (by first | decide | exact ⟨by decide, by decide⟩) (by first | decide | exact ⟨by decide, by decide⟩)
  have th6_27_0 : fld h6 27 0 = fld h5 27 0 := Zh6.f (a1 := 27) (a2 := 27) (j1 := 0) (j2 := 1) (by decide +kernel) (by first | decide | exact ⟨by decide, by decide⟩) (by first | decide | exact ⟨by decide, by decide⟩) (by first | decide | exact ⟨by decide, by decide⟩)
  have th6_37_96 : fld h6 37 96 = fld h5 37 96 := Zh6.f (a1 := 37) (a2 := 37) (j1 := 96) (j2 := 97) (by decide +kernel) (by first | decide | exact ⟨by decide, by decide⟩) (by first | decide | exact ⟨by decide, by decide⟩) (by first | decide | exact ⟨by decide, by decide⟩)
  have Ah6 : zAM h6 := Ah5.mr Qh6 (by decide +kernel) (Ch5.1.b (a1 := 37) (a2 := 37) (j1 := 2) (j2 := 3) (lo := 0) (hi := 20) (by decide +kernel) (by decide) (by decide) (by decide) (by decide)).2
  have Wh6 : zCW h6 := Wh5.mr Ch5.1 Qh6 (by decide +kernel)
  have TT : zXR [(69, 69, 0, 8), (1011, 1011, 7, 8)] (0) (0) h h6 := (Qh5.mono (ms' := [(69, 69, 0, 8), (1011, 1011, 7, 8)]) (by decide +kernel)).tr (c2 := 0) (s2 := 0) Zh6 (by decide +kernel) (by decide) (by decide)
  have Eh6 : zE h6 := ⟨zQS.st (T := []) TT E.1 (by decide +kernel) zQS.nil, zNM.st (T := []) TT C E.2.1 (by decide +kernel) zNM.nil, zFL.st (T := []) TT C E.2.2.1 (by decide +kernel) zFL.nil, zZL.st (T := []) TT E.2.2.2.1 (by decide +kernel) zZL.nil, zRL.st (T := []) TT C E.2.2.2.2.1 (by decide +kernel) zRL.nil, E.2.2.2.2.2.kp TT (by decide +kernel) (by omega)⟩
  refine zwW_p [(15, 0, 0), (24, 1605, 0)] (q := 1605) (ls' := [(2, -1), (2, 1), (2, 37), (0, i)]) (st' := []) (by decide +kernel) rfl ?_
  exact k _ ⟨Ch6, Ah6, Wh6, Eh6, _, Xh6.le (by decide) (by decide)⟩
theorem zl_1078 {sc : List Int} {Q : Option Vl → Hp → Prop} (h : Hp) (C : CI h) (A : zAM h) (W : zCW h) (E : zE h) (hl : h.length ≤ 800000) (hin : ∀ x ∈ sc, in32 x) (i : Int) (hi : 0 ≤ i ∧ i + 6 ≤ sc.length) (hs : sc.length ≤ 3072) (k : ∀ g, zLJ h g → zwW sc 400 0 1605 [(2, -1), (2, 1), (2, 37), (0, i)] [] g Q) : zwW sc 400 0 1078 [(2, -1), (2, 1), (2, 37), (0, i)] [] h Q := by
  have X : zXR msxL 0 0 h h := zXR.rf _ _
  have E2_2 := zE_s2_2 E
  have E3_2 := zE_s3_2 E
  have E1_0 := zE_s1_0 E
  have E27_0 := zE_s27_0 E
  refine zwW_p [(1, 1, 2), (1, 0, 2), (1, 3, 0), (0, 1, 0)] (q := 1082) (ls' := [(2, -1), (2, 1), (2, 37), (0, i)]) (st' := [(0, 1), (0, i), (2, -1), (2, 1)]) (by decide +kernel) rfl ?_
  refine zwW_add (nx := 1083) (by decide +kernel) (by first | omega | exact ⟨by omega, by omega⟩) ?_
  refine zwW_sld (nx := 1084) (by decide +kernel) (by omega) (by omega) ?_
  obtain ⟨v1, ev1⟩ : ∃ z, z = sc.getD (i + 1).toNat 0 := ⟨_, rfl⟩
  rw [← ev1]
  have qv1 : -2147483648 ≤ v1 ∧ v1 ≤ 2147483647 := by rw [ev1]; exact zgetD hin _
  refine zwW_p [(1, 0, 2), (1, 3, 0), (0, 2, 0)] (q := 1087) (ls' := [(2, -1), (2, 1), (2, 37), (0, i)]) (st' := [(0, 2), (0, i), (2, -1), (0, v1), (2, 1)]) (by decide +kernel) rfl ?_
  refine zwW_add (nx := 1088) (by decide +kernel) (by first | omega | exact ⟨by omega, by omega⟩) ?_
  refine zwW_sld (nx := 1089) (by decide +kernel) (by omega) (by omega) ?_
  obtain ⟨v2, ev2⟩ : ∃ z, z = sc.getD (i + 2).toNat 0 := ⟨_, rfl⟩
  rw [← ev2]
  have qv2 : -2147483648 ≤ v2 ∧ v2 ≤ 2147483647 := by rw [ev2]; exact zgetD hin _
  refine zwW_cm C.1 (op := 60) (k' := 55) (n := 2) (kd := 12) (m := 13) (nx := 1092) (r := 1) (tl := [(0, v1), (0, v2)]) (st' := []) (by decide +kernel) rfl (by decide +kernel) rfl (x55 h C v1 v2 (by omega) (by omega)) ?_
  rintro v5 h6 ⟨Ch6, Qh6, f3, f4⟩
  have Xh6 : zXR msxL (0) (0) h h6 := X.tr (c2 := 0) (s2 := 0) Qh6 (by decide +kernel) (by decide) (by decide)
  have th6_2_2 : fld h6 2 2 = fld h 2 2 := Qh6.f (a1 := 2) (a2 := 2) (j1 := 2) (j2 := 3) (by decide +kernel) (by first | decide | exact ⟨by decide, by decide⟩) (by first | decide | exact ⟨by decide, by decide⟩) (by first | decide | exact ⟨by decide, by decide⟩)
  have th6_37_1 : fld h6 37 1 = fld h 37 1 := Qh6.f (a1 := 37) (a2 := 37) (j1 := 1) (j2 := 2) (by decide +kernel) (by first | decide | exact ⟨by decide, by decide⟩) (by first | decide | exact ⟨by decide, by decide⟩) (by first | decide | exact ⟨by decide, by decide⟩)
  have th6_3_2 : fld h6 3 2 = fld h 3 2 := Qh6.f (a1 := 3) (a2 := 3) (j1 := 2) (j2 := 3) (by decide +kernel) (by first | decide | exact ⟨by decide, by decide⟩) (by first | decide | exact ⟨by decide, by decide⟩) (by first | decide | exact ⟨by decide, by decide⟩)
  have th6_37_2 : fld h6 37 2 = fld h 37 2 := Qh6.f (a1 := 37) (a2 := 37) (j1 := 2) (j2 := 3) (by decide +kernel) (by first | decide | exact ⟨by decide, by decide⟩) (by first | decide | exact ⟨by decide, by decide⟩) (by first | decide | exact ⟨by decide, by decide⟩)
  have th6_1_0 : fld h6 1 0 = fld h 1 0 := Qh6.f (a1 := 1) (a2 := 1) (j1 := 0) (j2 := 1) (by decide +kernel) (by first | decide | exact ⟨by decide, by decide⟩) (by first | decide | exact ⟨by decide, by decide⟩) (by first | decide | exact ⟨by decide, by decide⟩)
  have th6_37_0 : fld h6 37 0 = fld h 37 0 := Qh6.f (a1 := 37) (a2 := 37) (j1 := 0) (j2 := 1) (by decide +kernel) (by first | decide | exact ⟨by decide, by decide⟩) (by first | decide | exact ⟨by decide, by decide⟩) (by first | decide | exact ⟨by decide, by decide⟩)
  have th6_27_0 : fld h6 27 0 = fld h 27 0 := Qh6.f (a1 := 27) (a2 := 27) (j1 := 0) (j2 := 1) (by decide +kernel) (by first | decide | exact ⟨by decide, by decide⟩) (by first | decide | exact ⟨by decide, by decide⟩) (by first | decide | exact ⟨by decide, by decide⟩)
  have th6_37_96 : fld h6 37 96 = fld h 37 96 := Qh6.f (a1 := 37) (a2 := 37) (j1 := 96) (j2 := 97) (by decide +kernel) (by first | decide | exact ⟨by decide, by decide⟩) (by first | decide | exact ⟨by decide, by decide⟩) (by first | decide | exact ⟨by decide, by decide⟩)
  have Ah6 : zAM h6 := A.sm (fun r hr => Qh6.same (by decide +kernel) hr)
  have Wh6 : zCW h6 := W.sm C.1 (fun r hr => Qh6.same (by decide +kernel) hr)
  refine zwW_p [(15, 0, 0), (1, 2, 2), (1, 0, 2), (1, 3, 0), (0, 1, 0)] (q := 1097) (ls' := [(2, -1), (2, 1), (2, 37), (0, i)]) (st' := [(0, 1), (0, i), (2, -1), (2, 37)]) (by decide +kernel) rfl ?_
  refine zwW_add (nx := 1098) (by decide +kernel) (by first | omega | exact ⟨by omega, by omega⟩) ?_
  refine zwW_sld (nx := 1099) (by decide +kernel) (by omega) (by omega) ?_
  rw [← ev1]
  refine zwW_p [(1, 0, 2), (1, 3, 0), (0, 2, 0)] (q := 1102) (ls' := [(2, -1), (2, 1), (2, 37), (0, i)]) (st' := [(0, 2), (0, i), (2, -1), (0, v1), (2, 37)]) (by decide +kernel) rfl ?_
  refine zwW_add (nx := 1103) (by decide +kernel) (by first | omega | exact ⟨by omega, by omega⟩) ?_
  refine zwW_sld (nx := 1104) (by decide +kernel) (by omega) (by omega) ?_
  rw [← ev2]
  refine zwW_cm Ch6.1 (op := 60) (k' := 56) (n := 2) (kd := 13) (m := 97) (nx := 1107) (r := 37) (tl := [(0, v1), (0, v2)]) (st' := []) (by decide +kernel) rfl (by decide +kernel) rfl (m56 h6 Ch6.1 v1 v2 (by omega)) ?_
  rintro v8 h7 ⟨Ih7, Qh7, f9, f10⟩
  obtain ⟨Ch7, Zh7⟩ := Ch6.m Ih7 Qh7 (by decide +kernel)
  have Xh7 : zXR msxL (0) (0) h h7 := Xh6.tr (c2 := 0) (s2 := 0) Zh7 (by decide +kernel) (by decide) (by decide)
  have th7_2_2 : fld h7 2 2 = fld h6 2 2 := Zh7.f (a1 := 2) (a2 := 2) (j1 := 2) (j2 := 3) (by decide +kernel) (by first | decide | exact ⟨by decide, by decide⟩) (by first | decide | exact ⟨by decide, by decide⟩) (by first | decide | exact ⟨by decide, by decide⟩)
  have th7_37_1 : fld h7 37 1 = fld h6 37 1 := Zh7.f (a1 := 37) (a2 := 37) (j1 := 1) (j2 := 2) (by decide +kernel) (by first | decide | exact ⟨by decide, by decide⟩) (by first | decide | exact ⟨by decide, by decide⟩) (by first | decide | exact ⟨by decide, by decide⟩)
  have th7_3_2 : fld h7 3 2 = fld h6 3 2 := Zh7.f (a1 := 3) (a2 := 3) (j1 := 2) (j2 := 3) (by decide +kernel) (by first | decide | exact ⟨by decide, by decide⟩) (by first | decide | exact ⟨by decide, by decide⟩) (by first | decide | exact ⟨by decide, by decide⟩)
  have th7_37_2 : fld h7 37 2 = fld h6 37 2 := Zh7.f (a1 := 37) (a2 := 37) (j1 := 2) (j2 := 3) (by decide +kernel) (by first | decide | exact ⟨by decide, by decide⟩) (by first | decide | exact ⟨by decide, by decide⟩) (by first | decide | exact ⟨by decide, by decide⟩)
  have th7_1_0 : fld h7 1 0 = fld h6 1 0 := Zh7.f (a1 := 1) (a2 := 1) (j1 := 0) (j2 := 1) (by decide +kernel) (by first | decide | exact ⟨by decide, by decide⟩) (by first | decide | exact ⟨by decide, by decide⟩) (by first | decide | exact ⟨by decide, by decide⟩)
  have th7_37_0 : fld h7 37 0 = fld h6 37 0 := Zh7.f (a1 := 37) (a2 := 37) (j1 := 0) (j2 := 1) (by decide +kernel) (by first | decide | exact ⟨by decide, by decide⟩) (by first | decide | exact ⟨by decide, by decide⟩) (by first | decide | exact ⟨by decide, by decide⟩)
  have th7_27_0 : fld h7 27 0 = fld h6 27 0 := Zh7.f (a1 := 27) (a2 := 27) (j1 := 0) (j2 := 1) (by decide +kernel) (by first | decide | exact ⟨by decide, by decide⟩) (by first | decide | exact ⟨by decide, by decide⟩) (by first | decide | exact ⟨by decide, by decide⟩)
  have th7_37_96 : fld h7 37 96 = fld h6 37 96 := Zh7.f (a1 := 37) (a2 := 37) (j1 := 96) (j2 := 97) (by decide +kernel) (by first | decide | exact ⟨by decide, by decide⟩) (by first | decide | exact ⟨by decide, by decide⟩) (by first | decide | exact ⟨by decide, by decide⟩)
  have Ah7 : zAM h7 := Ah6.mr Qh7 (by decide +kernel) (Ch6.1.b (a1 := 37) (a2 := 37) (j1 := 2) (j2 := 3) (lo := 0) (hi := 20) (by decide +kernel) (by decide) (by decide) (by decide) (by decide)).2
  have Wh7 : zCW h7 := Wh6.mr Ch6.1 Qh7 (by decide +kernel)
  have TT : zXR [(70, 70, 0, 8), (71, 71, 0, 8), (1011, 1011, 8, 9), (1011, 1011, 9, 10)] (0) (0) h h7 := (Qh6.mono (ms' := [(70, 70, 0, 8), (71, 71, 0, 8), (1011, 1011, 8, 9), (1011, 1011, 9, 10)]) (by decide +kernel)).tr (c2 := 0) (s2 := 0) Zh7 (by decide +kernel) (by decide) (by decide)
  have Eh7 : zE h7 := ⟨zQS.st (T := []) TT E.1 (by decide +kernel) zQS.nil, zNM.st (T := []) TT C E.2.1 (by decide +kernel) zNM.nil, zFL.st (T := []) TT C E.2.2.1 (by decide +kernel) zFL.nil, zZL.st (T := []) TT E.2.2.2.1 (by decide +kernel) zZL.nil, zRL.st (T := []) TT C E.2.2.2.2.1 (by decide +kernel) zRL.nil, E.2.2.2.2.2.kp TT (by decide +kernel) (by omega)⟩
  refine zwW_p [(15, 0, 0), (24, 1605, 0)] (q := 1605) (ls' := [(2, -1), (2, 1), (2, 37), (0, i)]) (st' := []) (by decide +kernel) rfl ?_
  exact k _ ⟨Ch7, Ah7, Wh7, Eh7, _, Xh7.le (by decide) (by decide)⟩
theorem zl_1111 {sc : List Int} {Q : Option Vl → Hp → Prop} (h : Hp) (C : CI h) (A : zAM h) (W : zCW h) (E : zE h) (hl : h.length ≤ 800000) (hin : ∀ x ∈ sc, in32 x) (i : Int) (hi : 0 ≤ i ∧ i + 6 ≤ sc.length) (hs : sc.length ≤ 3072) (k : ∀ g, zLJ h g → zwW sc 400 0 1605 [(2, -1), (2, 1), (2, 37), (0, i)] [] g Q) : zwW sc 400 0 1111 [(2, -1), (2, 1), (2, 37), (0, i)] [] h Q := by
  have X : zXR msxL 0 0 h h := zXR.rf _ _
  have E2_2 := zE_s2_2 E
  have E3_2 := zE_s3_2 E
  have E1_0 := zE_s1_0 E
  have E27_0 := zE_s27_0 E
  refine zwW_p [(1, 1, 2), (1, 0, 2), (1, 3, 0), (0, 1, 0)] (q := 1115) (ls' := [(2, -1), (2, 1), (2, 37), (0, i)]) (st' := [(0, 1), (0, i), (2, -1), (2, 1)]) (by decide +kernel) rfl ?_
  refine zwW_add (nx := 1116) (by decide +kernel) (by first | omega | exact ⟨by omega, by omega⟩) ?_
  refine zwW_sld (nx := 1117) (by decide +kernel) (by omega) (by omega) ?_
  obtain ⟨v1, ev1⟩ : ∃ z, z = sc.getD (i + 1).toNat 0 := ⟨_, rfl⟩
  rw [← ev1]
  have qv1 : -2147483648 ≤ v1 ∧ v1 ≤ 2147483647 := by rw [ev1]; exact zgetD hin _
  refine zwW_p [(1, 0, 2), (1, 3, 0), (0, 2, 0)] (q := 1120) (ls' := [(2, -1), (2, 1), (2, 37), (0, i)]) (st' := [(0, 2), (0, i), (2, -1), (0, v1), (2, 1)]) (by decide +kernel) rfl ?_
  refine zwW_add (nx := 1121) (by decide +kernel) (by first | omega | exact ⟨by omega, by omega⟩) ?_
  refine zwW_sld (nx := 1122) (by decide +kernel) (by omega) (by omega) ?_
  obtain ⟨v2, ev2⟩ : ∃ z, z = sc.getD (i + 2).toNat 0 := ⟨_, rfl⟩
  rw [← ev2]
  have qv2 : -2147483648 ≤ v2 ∧ v2 ≤ 2147483647 := by rw [ev2]; exact zgetD hin _
  refine zwW_cm C.1 (op := 60) (k' := 57) (n := 2) (kd := 12) (m := 13) (nx := 1125) (r := 1) (tl := [(0, v1), (0, v2)]) (st' := []) (by decide +kernel) rfl (by decide +kernel) rfl (x57 h C v1 v2 (by omega) (by omega)) ?_
  rintro v5 h6 ⟨Ch6, Qh6, f3, f4⟩
  have Xh6 : zXR msxL (0) (0) h h6 := X.tr (c2 := 0) (s2 := 0) Qh6 (by decide +kernel) (by decide) (by decide)
  have th6_2_2 : fld h6 2 2 = fld h 2 2 := Qh6.f (a1 := 2) (a2 := 2) (j1 := 2) (j2 := 3) (by decide +kernel) (by first | decide | exact ⟨by decide, by decide⟩) (by first | decide | exact ⟨by decide, by decide⟩) (by first | decide | exact ⟨by decide, by decide⟩)
  have th6_37_1 : fld h6 37 1 = fld h 37 1 := Qh6.f (a1 := 37) (a2 := 37) (j1 := 1) (j2 := 2) (by decide +kernel) (by first | decide | exact ⟨by decide, by decide⟩) (by first | decide | exact ⟨by decide, by decide⟩) (by first | decide | exact ⟨by decide, by decide⟩)
  have th6_3_2 : fld h6 3 2 = fld h 3 2 := Qh6.f (a1 := 3) (a2 := 3) (j1 := 2) (j2 := 3) (by decide +kernel) (by first | decide | exact ⟨by decide, by decide⟩) (by first | decide | exact ⟨by decide, by decide⟩) (by first | decide | exact ⟨by decide, by decide⟩)
  have th6_37_2 : fld h6 37 2 = fld h 37 2 := Qh6.f (a1 := 37) (a2 := 37) (j1 := 2) (j2 := 3) (by decide +kernel) (by first | decide | exact ⟨by decide, by decide⟩) (by first | decide | exact ⟨by decide, by decide⟩) (by first | decide | exact ⟨by decide, by decide⟩)
  have th6_1_0 : fld h6 1 0 = fld h 1 0 := Qh6.f (a1 := 1) (a2 := 1) (j1 := 0) (j2 := 1) (by decide +kernel) (by first | decide | exact ⟨by decide, by decide⟩) (by first | decide | exact ⟨by decide, by decide⟩) (by first | decide | exact ⟨by decide, by decide⟩)
  have th6_37_0 : fld h6 37 0 = fld h 37 0 := Qh6.f (a1 := 37) (a2 := 37) (j1 := 0) (j2 := 1) (by decide +kernel) (by first | decide | exact ⟨by decide, by decide⟩) (by first | decide | exact ⟨by decide, by decide⟩) (by first | decide | exact ⟨by decide, by decide⟩)
  have th6_27_0 : fld h6 27 0 = fld h 27 0 := Qh6.f (a1 := 27) (a2 := 27) (j1 := 0) (j2 := 1) (by decide +kernel) (by first | decide | exact ⟨by decide, by decide⟩) (by first | decide | exact ⟨by decide, by decide⟩) (by first | decide | exact ⟨by decide, by decide⟩)
  have th6_37_96 : fld h6 37 96 = fld h 37 96 := Qh6.f (a1 := 37) (a2 := 37) (j1 := 96) (j2 := 97) (by decide +kernel) (by first | decide | exact ⟨by decide, by decide⟩) (by first | decide | exact ⟨by decide, by decide⟩) (by first | decide | exact ⟨by decide, by decide⟩)
  have Ah6 : zAM h6 := A.sm (fun r hr => Qh6.same (by decide +kernel) hr)
  have Wh6 : zCW h6 := W.sm C.1 (fun r hr => Qh6.same (by decide +kernel) hr)
  refine zwW_p [(15, 0, 0), (1, 2, 2), (1, 0, 2), (1, 3, 0), (0, 1, 0)] (q := 1130) (ls' := [(2, -1), (2, 1), (2, 37), (0, i)]) (st' := [(0, 1), (0, i), (2, -1), (2, 37)]) (by decide +kernel) rfl ?_
  refine zwW_add (nx := 1131) (by decide +kernel) (by first | omega | exact ⟨by omega, by omega⟩) ?_
  refine zwW_sld (nx := 1132) (by decide +kernel) (by omega) (by omega) ?_
  rw [← ev1]
  refine zwW_p [(1, 0, 2), (1, 3, 0), (0, 2, 0)] (q := 1135) (ls' := [(2, -1), (2, 1), (2, 37), (0, i)]) (st' := [(0, 2), (0, i), (2, -1), (0, v1), (2, 37)]) (by decide +kernel) rfl ?_
  refine zwW_add (nx := 1136) (by decide +kernel) (by first | omega | exact ⟨by omega, by omega⟩) ?_
  refine zwW_sld (nx := 1137) (by decide +kernel) (by omega) (by omega) ?_
  rw [← ev2]
  refine zwW_cm Ch6.1 (op := 60) (k' := 58) (n := 2) (kd := 13) (m := 97) (nx := 1140) (r := 37) (tl := [(0, v1), (0, v2)]) (st' := []) (by decide +kernel) rfl (by decide +kernel) rfl (m58 h6 Ch6.1 v1 v2) ?_
  rintro v8 h7 ⟨Ih7, Qh7, f9, f10⟩
  obtain ⟨Ch7, Zh7⟩ := Ch6.m Ih7 Qh7 (by decide +kernel)
  have Xh7 : zXR msxL (0) (0) h h7 := Xh6.tr (c2 := 0) (s2 := 0) Zh7 (by decide +kernel) (by decide) (by decide)
  have th7_2_2 : fld h7 2 2 = fld h6 2 2 := Zh7.f (a1 := 2) (a2 := 2) (j1 := 2) (j2 := 3) (by decide +kernel) (by first | decide | exact ⟨by decide, by decide⟩) (by first | decide | exact ⟨by decide, by decide⟩) (by first | decide | exact ⟨by decide, by decide⟩)
  have th7_37_1 : fld h7 37 1 = fld h6 37 1 := Zh7.f (a1 := 37) (a2 := 37) (j1 := 1) (j2 := 2) (by decide +kernel) (by first | decide | exact ⟨by decide, by decide⟩) (by first | decide | exact ⟨by decide, by decide⟩) (by first | decide | exact ⟨by decide, by decide⟩)
  have th7_3_2 : fld h7 3 2 = fld h6 3 2 := Zh7.f (a1 := 3) (a2 := 3) (j1 := 2) (j2 := 3) (by decide +kernel) (by first | decide | exact ⟨by decide, by decide⟩) (by first | decide | exact ⟨by decide, by decide⟩) (by first | decide | exact ⟨by decide, by decide⟩)
  have th7_37_2 : fld h7 37 2 = fld h6 37 2 := Zh7.f (a1 := 37) (a2 := 37) (j1 := 2) (j2 := 3) (by decide +kernel) (by first | decide | exact ⟨by decide, by decide⟩) (by first | decide | exact ⟨by decide, by decide⟩) (by first | decide | exact ⟨by decide, by decide⟩)
  have th7_1_0 : fld h7 1 0 = fld h6 1 0 := Zh7.f (a1 := 1) (a2 := 1) (j1 := 0) (j2 := 1) (by decide +kernel) (by first | decide | exact ⟨by decide, by decide⟩) (by first | decide | exact ⟨by decide, by decide⟩) (by first | decide | exact ⟨by decide, by decide⟩)
  have th7_37_0 : fld h7 37 0 = fld h6 37 0 := Zh7.f (a1 := 37) (a2 := 37) (j1 := 0) (j2 := 1) (by decide +kernel) (by first | decide | exact ⟨by decide, by decide⟩) (by first | decide | exact ⟨by decide, by decide⟩) (by first | decide | exact ⟨by decide, by decide⟩)
  have th7_27_0 : fld h7 27 0 = fld h6 27 0 := Zh7.f (a1 := 27) (a2 := 27) (j1 := 0) (j2 := 1) (by decide +kernel) (by first | decide | exact ⟨by decide, by decide⟩) (by first | decide | exact ⟨by decide, by decide⟩) (by first | decide | exact ⟨by decide, by decide⟩)
  have th7_37_96 : fld h7 37 96 = fld h6 37 96 := Zh7.f (a1 := 37) (a2 := 37) (j1 := 96) (j2 := 97) (by decide +kernel) (by first | decide | exact ⟨by decide, by decide⟩) (by first | decide | exact ⟨by decide, by decide⟩) (by first | decide | exact ⟨by decide, by decide⟩)
  have Ah7 : zAM h7 := Ah6.mr Qh7 (by decide +kernel) (Ch6.1.b (a1 := 37) (a2 := 37) (j1 := 2) (j2 := 3) (lo := 0) (hi := 20) (by decide +kernel) (by decide) (by decide) (by decide) (by decide)).2
  have Wh7 : zCW h7 := Wh6.mr Ch6.1 Qh7 (by decide +kernel)
  have TT : zXR [(72, 72, 0, 8), (1011, 1011, 4, 5)] (0) (0) h h7 := (Qh6.mono (ms' := [(72, 72, 0, 8), (1011, 1011, 4, 5)]) (by decide +kernel)).tr (c2 := 0) (s2 := 0) Zh7 (by decide +kernel) (by decide) (by decide)
  have Eh7 : zE h7 := ⟨zQS.st (T := []) TT E.1 (by decide +kernel) zQS.nil, zNM.st (T := []) TT C E.2.1 (by decide +kernel) zNM.nil, zFL.st (T := []) TT C E.2.2.1 (by decide +kernel) zFL.nil, zZL.st (T := []) TT E.2.2.2.1 (by decide +kernel) zZL.nil, zRL.st (T := []) TT C E.2.2.2.2.1 (by decide +kernel) zRL.nil, E.2.2.2.2.2.kp TT (by decide +kernel) (by omega)⟩
  refine zwW_p [(15, 0, 0), (24, 1605, 0)] (q := 1605) (ls' := [(2, -1), (2, 1), (2, 37), (0, i)]) (st' := []) (by decide +kernel) rfl ?_
  exact k _ ⟨Ch7, Ah7, Wh7, Eh7, _, Xh7.le (by decide) (by decide)⟩
theorem zl_1144 {sc : List Int} {Q : Option Vl → Hp → Prop} (h : Hp) (C : CI h) (A : zAM h) (W : zCW h) (E : zE h) (hl : h.length ≤ 800000) (hin : ∀ x ∈ sc, in32 x) (i : Int) (hi : 0 ≤ i ∧ i + 6 ≤ sc.length) (hs : sc.length ≤ 3072) (k : ∀ g, zLJ h g → zwW sc 400 0 1605 [(2, -1), (2, 1), (2, 37), (0, i)] [] g Q) : zwW sc 400 0 1144 [(2, -1), (2, 1), (2, 37), (0, i)] [] h Q := by
  have X : zXR msxL 0 0 h h := zXR.rf _ _
  have E2_2 := zE_s2_2 E
  have E3_2 := zE_s3_2 E
  have E1_0 := zE_s1_0 E
  have E27_0 := zE_s27_0 E
  refine zwW_p [(1, 1, 2), (1, 0, 2), (1, 3, 0), (0, 1, 0)] (q := 1148) (ls' := [(2, -1), (2, 1), (2, 37), (0, i)]) (st' := [(0, 1), (0, i), (2, -1), (2, 1)]) (by decide +kernel) rfl ?_
  refine zwW_add (nx := 1149) (by decide +kernel) (by first | omega | exact ⟨by omega, by omega⟩) ?_
  refine zwW_sld (nx := 1150) (by decide +kernel) (by omega) (by omega) ?_
  obtain ⟨v1, ev1⟩ : ∃ z, z = sc.getD (i + 1).toNat 0 := ⟨_, rfl⟩
  rw [← ev1]
  have qv1 : -2147483648 ≤ v1 ∧ v1 ≤ 2147483647 := by rw [ev1]; exact zgetD hin _
  refine zwW_p [(1, 0, 2), (1, 3, 0), (0, 2, 0)] (q := 1153) (ls' := [(2, -1), (2, 1), (2, 37), (0, i)]) (st' := [(0, 2), (0, i), (2, -1), (0, v1), (2, 1)]) (by decide +kernel) rfl ?_
  refine zwW_add (nx := 1154) (by decide +kernel) (by first | omega | exact ⟨by omega, by omega⟩) ?_
  refine zwW_sld (nx := 1155) (by decide +kernel) (by omega) (by omega) ?_
  obtain ⟨v2, ev2⟩ : ∃ z, z = sc.getD (i + 2).toNat 0 := ⟨_, rfl⟩
  rw [← ev2]
  have qv2 : -2147483648 ≤ v2 ∧ v2 ≤ 2147483647 := by rw [ev2]; exact zgetD hin _
  refine zwW_cm C.1 (op := 60) (k' := 59) (n := 2) (kd := 12) (m := 13) (nx := 1158) (r := 1) (tl := [(0, v1), (0, v2)]) (st' := []) (by decide +kernel) rfl (by decide +kernel) rfl (x59 h C v1 v2 (by omega) (by omega)) ?_
  rintro v3 _ ⟨rfl, f4⟩
  refine zwW_p [(15, 0, 0), (1, 2, 2), (1, 0, 2), (1, 3, 0), (0, 1, 0)] (q := 1163) (ls' := [(2, -1), (2, 1), (2, 37), (0, i)]) (st' := [(0, 1), (0, i), (2, -1), (2, 37)]) (by decide +kernel) rfl ?_
  refine zwW_add (nx := 1164) (by decide +kernel) (by first | omega | exact ⟨by omega, by omega⟩) ?_
  refine zwW_sld (nx := 1165) (by decide +kernel) (by omega) (by omega) ?_
  rw [← ev1]
  refine zwW_p [(1, 0, 2), (1, 3, 0), (0, 2, 0)] (q := 1168) (ls' := [(2, -1), (2, 1), (2, 37), (0, i)]) (st' := [(0, 2), (0, i), (2, -1), (0, v1), (2, 37)]) (by decide +kernel) rfl ?_
  refine zwW_add (nx := 1169) (by decide +kernel) (by first | omega | exact ⟨by omega, by omega⟩) ?_
  refine zwW_sld (nx := 1170) (by decide +kernel) (by omega) (by omega) ?_
  rw [← ev2]
  refine zwW_cm C.1 (op := 60) (k' := 60) (n := 2) (kd := 13) (m := 97) (nx := 1173) (r := 37) (tl := [(0, v1), (0, v2)]) (st' := []) (by decide +kernel) rfl (by decide +kernel) rfl (m60 h C.1 v1 v2) ?_
  rintro v6 h5 ⟨Ih5, Qh5, f7⟩
  obtain ⟨Ch5, Zh5⟩ := C.m Ih5 Qh5 (by decide +kernel)
  have Xh5 : zXR msxL (0) (0) h h5 := X.tr (c2 := 0) (s2 := 0) Zh5 (by decide +kernel) (by decide) (by decide)
  have th5_2_2 : fld h5 2 2 = fld h 2 2 := Zh5.f (a1 := 2) (a2 := 2) (j1 := 2) (j2 := 3) (by decide +kernel) (by first | decide | exact ⟨by decide, by decide⟩) (by first | decide | exact ⟨by decide, by decide⟩) (by first | decide | exact ⟨by decide, by decide⟩)
  have th5_37_1 : fld h5 37 1 = fld h 37 1 := Zh5.f (a1 := 37) (a2 := 37) (j1 := 1) (j2 := 2) (by decide +kernel) (by first | decide | exact ⟨by decide, by decide⟩) (by first | decide | exact ⟨by decide, by decide⟩) (by first | decide | exact ⟨by decide, by decide⟩)
  have th5_3_2 : fld h5 3 2 = fld h 3 2 := Zh5.f (a1 := 3) (a2 := 3) (j1 := 2) (j2 := 3) (by decide +kernel) (by first | decide | exact ⟨by decide, by decide⟩) (by first | decide | exact ⟨by decide, by decide⟩) (by first | decide | exact ⟨by decide, by decide⟩)
  have th5_37_2 : fld h5 37 2 = fld h 37 2 := Zh5.f (a1 := 37) (a2 := 37) (j1 := 2) (j2 := 3) (by decide +kernel) (by first | decide | exact ⟨by decide, by decide⟩) (by first | decide | exact ⟨by decide, by decide⟩) (by first | decide | exact ⟨by decide, by decide⟩)
  have th5_1_0 : fld h5 1 0 = fld h 1 0 := Zh5.f (a1 := 1) (a2 := 1) (j1 := 0) (j2 := 1) (by decide +kernel) (by first | decide | exact ⟨by decide, by decide⟩) (by first | decide | exact ⟨by decide, by decide⟩) (by first | decide | exact ⟨by decide, by decide⟩)
  have th5_37_0 : fld h5 37 0 = fld h 37 0 := Zh5.f (a1 := 37) (a2 := 37) (j1 := 0) (j2 := 1) (by decide +kernel) (by first | decide | exact ⟨by decide, by decide⟩) (by first | decide | exact ⟨by decide, by decide⟩) (by first | decide | exact ⟨by decide, by decide⟩)
  have th5_27_0 : fld h5 27 0 = fld h 27 0 := Zh5.f (a1 := 27) (a2 := 27) (j1 := 0) (j2 := 1) (by decide +kernel) (by first | decide | exact ⟨by decide, by decide⟩) (by first | decide | exact ⟨by decide, by decide⟩) (by first | decide | exact ⟨by decide, by decide⟩)
  have th5_37_96 : fld h5 37 96 = fld h 37 96 := Zh5.f (a1 := 37) (a2 := 37) (j1 := 96) (j2 := 97) (by decide +kernel) (by first | decide | exact ⟨by decide, by decide⟩) (by first | decide | exact ⟨by decide, by decide⟩) (by first | decide | exact ⟨by decide, by decide⟩)
  have Ah5 : zAM h5 := A.mr Qh5 (by decide +kernel) (C.1.b (a1 := 37) (a2 := 37) (j1 := 2) (j2 := 3) (lo := 0) (hi := 20) (by decide +kernel) (by decide) (by decide) (by decide) (by decide)).2
  have Wh5 : zCW h5 := W.mr C.1 Qh5 (by decide +kernel)
  have TT := Zh5
  have Eh5 : zE h5 := ⟨zQS.st (T := []) TT E.1 (by decide +kernel) zQS.nil, zNM.st (T := []) TT C E.2.1 (by decide +kernel) zNM.nil, zFL.st (T := []) TT C E.2.2.1 (by decide +kernel) zFL.nil, zZL.st (T := []) TT E.2.2.2.1 (by decide +kernel) zZL.nil, zRL.st (T := []) TT C E.2.2.2.2.1 (by decide +kernel) zRL.nil, E.2.2.2.2.2.kp TT (by decide +kernel) (by omega)⟩
  refine zwW_p [(15, 0, 0), (24, 1605, 0)] (q := 1605) (ls' := [(2, -1), (2, 1), (2, 37), (0, i)]) (st' := []) (by decide +kernel) rfl ?_
  exact k _ ⟨Ch5, Ah5, Wh5, Eh5, _, Xh5.le (by decide) (by decide)⟩
theorem zl_1177 {sc : List Int} {Q : Option Vl → Hp → Prop} (h : Hp) (C : CI h) (A : zAM h) (W : zCW h) (E : zE h) (hl : h.length ≤ 800000) (hin : ∀ x ∈ sc, in32 x) (i : Int) (hi : 0 ≤ i ∧ i + 6 ≤ sc.length) (hs : sc.length ≤ 3072) (k : ∀ g, zLJ h g → zwW sc 400 0 1605 [(2, -1), (2, 1), (2, 37), (0, i)] [] g Q) : zwW sc 400 0 1177 [(2, -1), (2, 1), (2, 37), (0, i)] [] h Q := by
  have X : zXR msxL 0 0 h h := zXR.rf _ _
  have E2_2 := zE_s2_2 E
  have E3_2 := zE_s3_2 E
  have E1_0 := zE_s1_0 E
  have E27_0 := zE_s27_0 E
  refine zwW_p [(1, 1, 2), (1, 0, 2), (1, 3, 0), (0, 1, 0)] (q := 1181) (ls' := [(2, -1), (2, 1), (2, 37), (0, i)]) (st' := [(0, 1), (0, i), (2, -1), (2, 1)]) (by decide +kernel) rfl ?_
  refine zwW_add (nx := 1182) (by decide +kernel) (by first | omega | exact ⟨by omega, by omega⟩) ?_
  refine zwW_sld (nx := 1183) (by decide +kernel) (by omega) (by omega) ?_
  obtain ⟨v1, ev1⟩ : ∃ z, z = sc.getD (i + 1).toNat 0 := ⟨_, rfl⟩
  rw [← ev1]
  have qv1 : -2147483648 ≤ v1 ∧ v1 ≤ 2147483647 := by rw [ev1]; exact zgetD hin _
  refine zwW_cm C.1 (op := 60) (k' := 61) (n := 1) (kd := 12) (m := 13) (nx := 1186) (r := 1) (tl := [(0, v1)]) (st' := []) (by decide +kernel) rfl (by decide +kernel) rfl (x61 h C v1 (by omega)) ?_
  rintro v3 h4 ⟨Ch4, Qh4, f2⟩
  have Xh4 : zXR msxL (0) (0) h h4 := X.tr (c2 := 0) (s2 := 0) Qh4 (by decide +kernel) (by decide) (by decide)
  have th4_2_2 : fld h4 2 2 = fld h 2 2 := Qh4.f (a1 := 2) (a2 := 2) (j1 := 2) (j2 := 3) (by decide +kernel) (by first | decide | exact ⟨by decide, by decide⟩) (by first | decide | exact ⟨by decide, by decide⟩) (by first | decide | exact ⟨by decide, by decide⟩)
  have th4_37_1 : fld h4 37 1 = fld h 37 1 := Qh4.f (a1 := 37) (a2 := 37) (j1 := 1) (j2 := 2) (by decide +kernel) (by first | decide | exact ⟨by decide, by decide⟩) (by first | decide | exact ⟨by decide, by decide⟩) (by first | decide | exact ⟨by decide, by decide⟩)
  have th4_3_2 : fld h4 3 2 = fld h 3 2 := Qh4.f (a1 := 3) (a2 := 3) (j1 := 2) (j2 := 3) (by decide +kernel) (by first | decide | exact ⟨by decide, by decide⟩) (by first | decide | exact ⟨by decide, by decide⟩) (by first | decide | exact ⟨by decide, by decide⟩)
  have th4_37_2 : fld h4 37 2 = fld h 37 2 := Qh4.f (a1 := 37) (a2 := 37) (j1 := 2) (j2 := 3) (by decide +kernel) (by first | decide | exact ⟨by decide, by decide⟩) (by first | decide | exact ⟨by decide, by decide⟩) (by first | decide | exact ⟨by decide, by decide⟩)
  have th4_1_0 : fld h4 1 0 = fld h 1 0 := Qh4.f (a1 := 1) (a2 := 1) (j1 := 0) (j2 := 1) (by decide +kernel) (by first | decide | exact ⟨by decide, by decide⟩) (by first | decide | exact ⟨by decide, by decide⟩) (by first | decide | exact ⟨by decide, by decide⟩)
  have th4_37_0 : fld h4 37 0 = fld h 37 0 := Qh4.f (a1 := 37) (a2 := 37) (j1 := 0) (j2 := 1) (by decide +kernel) (by first | decide | exact ⟨by decide, by decide⟩) (by first | decide | exact ⟨by decide, by decide⟩) (by first | decide | exact ⟨by decide, by decide⟩)
  have th4_27_0 : fld h4 27 0 = fld h 27 0 := Qh4.f (a1 := 27) (a2 := 27) (j1 := 0) (j2 := 1) (by decide +kernel) (by first | decide | exact ⟨by decide, by decide⟩) (by first | decide | exact ⟨by decide, by decide⟩) (by first | decide | exact ⟨by decide, by decide⟩)
  have th4_37_96 : fld h4 37 96 = fld h 37 96 := Qh4.f (a1 := 37) (a2 := 37) (j1 := 96) (j2 := 97) (by decide +kernel) (by first | decide | exact ⟨by decide, by decide⟩) (by first | decide | exact ⟨by decide, by decide⟩) (by first | decide | exact ⟨by decide, by decide⟩)
  have Ah4 : zAM h4 := A.sm (fun r hr => Qh4.same (by decide +kernel) hr)
  have Wh4 : zCW h4 := W.sm C.1 (fun r hr => Qh4.same (by decide +kernel) hr)
  refine zwW_p [(15, 0, 0), (1, 2, 2), (1, 0, 2), (1, 3, 0), (0, 1, 0)] (q := 1191) (ls' := [(2, -1), (2, 1), (2, 37), (0, i)]) (st' := [(0, 1), (0, i), (2, -1), (2, 37)]) (by decide +kernel) rfl ?_
  refine zwW_add (nx := 1192) (by decide +kernel) (by first | omega | exact ⟨by omega, by omega⟩) ?_
  refine zwW_sld (nx := 1193) (by decide +kernel) (by omega) (by omega) ?_
  rw [← ev1]
  refine zwW_cm Ch4.1 (op := 60) (k' := 62) (n := 1) (kd := 13) (m := 97) (nx := 1196) (r := 37) (tl := [(0, v1)]) (st' := []) (by decide +kernel) rfl (by decide +kernel) rfl (m62 h4 Ch4.1 v1 Wh4) ?_
  rintro v6 h5 ⟨Ih5, Qh5, f7, f8⟩
  obtain ⟨Ch5, Zh5⟩ := Ch4.m Ih5 Qh5 (by decide +kernel)
  have Xh5 : zXR msxL (0) (0) h h5 := Xh4.tr (c2 := 0) (s2 := 0) Zh5 (by decide +kernel) (by decide) (by decide)
  have th5_2_2 : fld h5 2 2 = fld h4 2 2 := Zh5.f (a1 := 2) (a2 := 2) (j1 := 2) (j2 := 3) (by decide +kernel) (by first | decide | exact ⟨by decide, by decide⟩) (by first | decide | exact ⟨by decide, by decide⟩) (by first | decide | exact ⟨by decide, by decide⟩)
  have th5_37_1 : fld h5 37 1 = fld h4 37 1 := Zh5.f (a1 := 37) (a2 := 37) (j1 := 1) (j2 := 2) (by decide +kernel) (by first | decide | exact ⟨by decide, by decide⟩) (by first | decide | exact ⟨by decide, by decide⟩) (by first | decide | exact ⟨by decide, by decide⟩)
  have th5_3_2 : fld h5 3 2 = fld h4 3 2 := Zh5.f (a1 := 3) (a2 := 3) (j1 := 2) (j2 := 3) (by decide +kernel) (by first | decide | exact ⟨by decide, by decide⟩) (by first | decide | exact ⟨by decide, by decide⟩) (by first | decide | exact ⟨by decide, by decide⟩)
  have th5_37_2 : fld h5 37 2 = fld h4 37 2 := Zh5.f (a1 := 37) (a2 := 37) (j1 := 2) (j2 := 3) (by decide +kernel) (by first | decide | exact ⟨by decide, by decide⟩) (by first | decide | exact ⟨by decide, by decide⟩) (by first | decide | exact ⟨by decide, by decide⟩)
  have th5_1_0 : fld h5 1 0 = fld h4 1 0 := Zh5.f (a1 := 1) (a2 := 1) (j1 := 0) (j2 := 1) (by decide +kernel) (by first | decide | exact ⟨by decide, by decide⟩) (by first | decide | exact ⟨by decide, by decide⟩) (by first | decide | exact ⟨by decide, by decide⟩)
  have th5_37_0 : fld h5 37 0 = fld h4 37 0 := Zh5.f (a1 := 37) (a2 := 37) (j1 := 0) (j2 := 1) (by decide +kernel) (by first | decide | exact ⟨by decide, by decide⟩) (by first | decide | exact ⟨by decide, by decide⟩) (by first | decide | exact ⟨by decide, by decide⟩)
  have th5_27_0 : fld h5 27 0 = fld h4 27 0 := Zh5.f (a1 := 27) (a2 := 27) (j1 := 0) (j2 := 1) (by decide +kernel) (by first | decide | exact ⟨by decide, by decide⟩) (by first | decide | exact ⟨by decide, by decide⟩) (by first | decide | exact ⟨by decide, by decide⟩)
  have th5_37_96 : fld h5 37 96 = fld h4 37 96 := Zh5.f (a1 := 37) (a2 := 37) (j1 := 96) (j2 := 97) (by decide +kernel) (by first | decide | exact ⟨by decide, by decide⟩) (by first | decide | exact ⟨by decide, by decide⟩) (by first | decide | exact ⟨by decide, by decide⟩)
  have Ah5 : zAM h5 := Ah4.mr Qh5 (by decide +kernel) (Ch4.1.b (a1 := 37) (a2 := 37) (j1 := 2) (j2 := 3) (lo := 0) (hi := 20) (by decide +kernel) (by decide) (by decide) (by decide) (by decide)).2
  have Wh5 : zCW h5 := Wh4.mr Ch4.1 Qh5 (by decide +kernel)
  have TT : zXR [(17, 17, 0, 13), (18, 18, 0, 400), (168, 168, 0, 13), (169, 169, 0, 420)] (0) (0) h h5 := (Qh4.mono (ms' := [(17, 17, 0, 13), (18, 18, 0, 400), (168, 168, 0, 13), (169, 169, 0, 420)]) (by decide +kernel)).tr (c2 := 0) (s2 := 0) Zh5 (by decide +kernel) (by decide) (by decide)
  have Eh5 : zE h5 := ⟨zQS.st (T := []) TT E.1 (by decide +kernel) zQS.nil, zNM.st (T := []) TT C E.2.1 (by decide +kernel) zNM.nil, zFL.st (T := []) TT C E.2.2.1 (by decide +kernel) zFL.nil, zZL.st (T := []) TT E.2.2.2.1 (by decide +kernel) zZL.nil, zRL.st (T := []) TT C E.2.2.2.2.1 (by decide +kernel) zRL.nil, E.2.2.2.2.2.kp TT (by decide +kernel) (by omega)⟩
  refine zwW_p [(15, 0, 0), (24, 1605, 0)] (q := 1605) (ls' := [(2, -1), (2, 1), (2, 37), (0, i)]) (st' := []) (by decide +kernel) rfl ?_
  exact k _ ⟨Ch5, Ah5, Wh5, Eh5, _, Xh5.le (by decide) (by decide)⟩
theorem zl_1200 {sc : List Int} {Q : Option Vl → Hp → Prop} (h : Hp) (C : CI h) (A : zAM h) (W : zCW h) (E : zE h) (hl : h.length ≤ 800000) (hin : ∀ x ∈ sc, in32 x) (i : Int) (hi : 0 ≤ i ∧ i + 6 ≤ sc.length) (hs : sc.length ≤ 3072) (k : ∀ g, zLJ h g → zwW sc 400 0 1605 [(2, -1), (2, 1), (2, 37), (0, i)] [] g Q) : zwW sc 400 0 1200 [(2, -1), (2, 1), (2, 37), (0, i)] [] h Q := by
  have X : zXR msxL 0 0 h h := zXR.rf _ _
  have E2_2 := zE_s2_2 E
  have E3_2 := zE_s3_2 E
  have E1_0 := zE_s1_0 E
  have E27_0 := zE_s27_0 E
  refine zwW_p [(1, 1, 2), (1, 0, 2), (1, 3, 0), (0, 1, 0)] (q := 1204) (ls' := [(2, -1), (2, 1), (2, 37), (0, i)]) (st' := [(0, 1), (0, i), (2, -1), (2, 1)]) (by decide +kernel) rfl ?_
  refine zwW_add (nx := 1205) (by decide +kernel) (by first | omega | exact ⟨by omega, by omega⟩) ?_
  refine zwW_sld (nx := 1206) (by decide +kernel) (by omega) (by omega) ?_
  obtain ⟨v1, ev1⟩ : ∃ z, z = sc.getD (i + 1).toNat 0 := ⟨_, rfl⟩
  rw [← ev1]
  have qv1 : -2147483648 ≤ v1 ∧ v1 ≤ 2147483647 := by rw [ev1]; exact zgetD hin _
  refine zwW_p [(1, 0, 2), (1, 3, 0), (0, 2, 0)] (q := 1209) (ls' := [(2, -1), (2, 1), (2, 37), (0, i)]) (st' := [(0, 2), (0, i), (2, -1), (0, v1), (2, 1)]) (by decide +kernel) rfl ?_
  refine zwW_add (nx := 1210) (by decide +kernel) (by first | omega | exact ⟨by omega, by omega⟩) ?_
  refine zwW_sld (nx := 1211) (by decide +kernel) (by omega) (by omega) ?_
  obtain ⟨v2, ev2⟩ : ∃ z, z = sc.getD (i + 2).toNat 0 := ⟨_, rfl⟩
  rw [← ev2]
  have qv2 : -2147483648 ≤ v2 ∧ v2 ≤ 2147483647 := by rw [ev2]; exact zgetD hin _
  refine zwW_cm C.1 (op := 60) (k' := 63) (n := 2) (kd := 12) (m := 13) (nx := 1214) (r := 1) (tl := [(0, v1), (0, v2)]) (st' := []) (by decide +kernel) rfl (by decide +kernel) rfl (x63 h C v1 v2 (by omega) (by omega)) ?_
  rintro v5 h6 ⟨Ch6, Qh6, f3, f4⟩
  have Xh6 : zXR msxL (0) (0) h h6 := X.tr (c2 := 0) (s2 := 0) Qh6 (by decide +kernel) (by decide) (by decide)
  have th6_2_2 : fld h6 2 2 = fld h 2 2 := Qh6.f (a1 := 2) (a2 := 2) (j1 := 2) (j2 := 3) (by decide +kernel) (by first | decide | exact ⟨by decide, by decide⟩) (by first | decide | exact ⟨by decide, by decide⟩) (by first | decide | exact ⟨by decide, by decide⟩)
  have th6_37_1 : fld h6 37 1 = fld h 37 1 := Qh6.f (a1 := 37) (a2 := 37) (j1 := 1) (j2 := 2) (by decide +kernel) (by first | decide | exact ⟨by decide, by decide⟩) (by first | decide | exact ⟨by decide, by decide⟩) (by first | decide | exact ⟨by decide, by decide⟩)
  have th6_3_2 : fld h6 3 2 = fld h 3 2 := Qh6.f (a1 := 3) (a2 := 3) (j1 := 2) (j2 := 3) (by decide +kernel) (by first | decide | exact ⟨by decide, by decide⟩) (by first | decide | exact ⟨by decide, by decide⟩) (by first | decide | exact ⟨by decide, by decide⟩)
  have th6_37_2 : fld h6 37 2 = fld h 37 2 := Qh6.f (a1 := 37) (a2 := 37) (j1 := 2) (j2 := 3) (by decide +kernel) (by first | decide | exact ⟨by decide, by decide⟩) (by first | decide | exact ⟨by decide, by decide⟩) (by first | decide | exact ⟨by decide, by decide⟩)
  have th6_1_0 : fld h6 1 0 = fld h 1 0 := Qh6.f (a1 := 1) (a2 := 1) (j1 := 0) (j2 := 1) (by decide +kernel) (by first | decide | exact ⟨by decide, by decide⟩) (by first | decide | exact ⟨by decide, by decide⟩) (by first | decide | exact ⟨by decide, by decide⟩)
  have th6_37_0 : fld h6 37 0 = fld h 37 0 := Qh6.f (a1 := 37) (a2 := 37) (j1 := 0) (j2 := 1) (by decide +kernel) (by first | decide | exact ⟨by decide, by decide⟩) (by first | decide | exact ⟨by decide, by decide⟩) (by first | decide | exact ⟨by decide, by decide⟩)
  have th6_27_0 : fld h6 27 0 = fld h 27 0 := Qh6.f (a1 := 27) (a2 := 27) (j1 := 0) (j2 := 1) (by decide +kernel) (by first | decide | exact ⟨by decide, by decide⟩) (by first | decide | exact ⟨by decide, by decide⟩) (by first | decide | exact ⟨by decide, by decide⟩)
  have th6_37_96 : fld h6 37 96 = fld h 37 96 := Qh6.f (a1 := 37) (a2 := 37) (j1 := 96) (j2 := 97) (by decide +kernel) (by first | decide | exact ⟨by decide, by decide⟩) (by first | decide | exact ⟨by decide, by decide⟩) (by first | decide | exact ⟨by decide, by decide⟩)
  have Ah6 : zAM h6 := A.sm (fun r hr => Qh6.same (by decide +kernel) hr)
  have Wh6 : zCW h6 := W.sm C.1 (fun r hr => Qh6.same (by decide +kernel) hr)
  refine zwW_p [(15, 0, 0), (1, 2, 2), (1, 0, 2), (1, 3, 0), (0, 1, 0)] (q := 1219) (ls' := [(2, -1), (2, 1), (2, 37), (0, i)]) (st' := [(0, 1), (0, i), (2, -1), (2, 37)]) (by decide +kernel) rfl ?_
  refine zwW_add (nx := 1220) (by decide +kernel) (by first | omega | exact ⟨by omega, by omega⟩) ?_
  refine zwW_sld (nx := 1221) (by decide +kernel) (by omega) (by omega) ?_
  rw [← ev1]
  refine zwW_p [(1, 0, 2), (1, 3, 0), (0, 2, 0)] (q := 1224) (ls' := [(2, -1), (2, 1), (2, 37), (0, i)]) (st' := [(0, 2), (0, i), (2, -1), (0, v1), (2, 37)]) (by decide +kernel) rfl ?_
  refine zwW_add (nx := 1225) (by decide +kernel) (by first | omega | exact ⟨by omega, by omega⟩) ?_
  refine zwW_sld (nx := 1226) (by decide +kernel) (by omega) (by omega) ?_
  rw [← ev2]
  refine zwW_cm Ch6.1 (op := 60) (k' := 64) (n := 2) (kd := 13) (m := 97) (nx := 1229) (r := 37) (tl := [(0, v1), (0, v2)]) (st' := []) (by decide +kernel) rfl (by decide +kernel) rfl (m64 h6 Ch6.1 v1 v2) ?_
  rintro v8 h7 ⟨Ih7, Qh7, f9, f10⟩
  obtain ⟨Ch7, Zh7⟩ := Ch6.m Ih7 Qh7 (by decide +kernel)
  have Xh7 : zXR msxL (0) (0) h h7 := Xh6.tr (c2 := 0) (s2 := 0) Zh7 (by decide +kernel) (by decide) (by decide)
  have th7_2_2 : fld h7 2 2 = fld h6 2 2 := Zh7.f (a1 := 2) (a2 := 2) (j1 := 2) (j2 := 3) (by decide +kernel) (by first | decide | exact ⟨by decide, by decide⟩) (by first | decide | exact ⟨by decide, by decide⟩) (by first | decide | exact ⟨by decide, by decide⟩)
  have th7_37_1 : fld h7 37 1 = fld h6 37 1 := Zh7.f (a1 := 37) (a2 := 37) (j1 := 1) (j2 := 2) (by decide +kernel) (by first | decide | exact ⟨by decide, by decide⟩) (by first | decide | exact ⟨by decide, by decide⟩) (by first | decide | exact ⟨by decide, by decide⟩)
  have th7_3_2 : fld h7 3 2 = fld h6 3 2 := Zh7.f (a1 := 3) (a2 := 3) (j1 := 2) (j2 := 3) (by decide +kernel) (by first | decide | exact ⟨by decide, by decide⟩) (by first | decide | exact ⟨by decide, by decide⟩) (by first | decide | exact ⟨by decide, by decide⟩)
  have th7_37_2 : fld h7 37 2 = fld h6 37 2 := Zh7.f (a1 := 37) (a2 := 37) (j1 := 2) (j2 := 3) (by decide +kernel) (by first | decide | exact ⟨by decide, by decide⟩) (by first | decide | exact ⟨by decide, by decide⟩) (by first | decide | exact ⟨by decide, by decide⟩)
  have th7_1_0 : fld h7 1 0 = fld h6 1 0 := Zh7.f (a1 := 1) (a2 := 1) (j1 := 0) (j2 := 1) (by decide +kernel) (by first | decide | exact ⟨by decide, by decide⟩) (by first | decide | exact ⟨by decide, by decide⟩) (by first | decide | exact ⟨by decide, by decide⟩)
  have th7_37_0 : fld h7 37 0 = fld h6 37 0 := Zh7.f (a1 := 37) (a2 := 37) (j1 := 0) (j2 := 1) (by decide +kernel) (by first | decide | exact ⟨by decide, by decide⟩) (by first | decide | exact ⟨by decide, by decide⟩) (by first | decide | exact ⟨by decide, by decide⟩)
  have th7_27_0 : fld h7 27 0 = fld h6 27 0 := Zh7.f (a1 := 27) (a2 := 27) (j1 := 0) (j2 := 1) (by decide +kernel) (by first | decide | exact ⟨by decide, by decide⟩) (by first | decide | exact ⟨by decide, by decide⟩) (by first | decide | exact ⟨by decide, by decide⟩)
  have th7_37_96 : fld h7 37 96 = fld h6 37 96 := Zh7.f (a1 := 37) (a2 := 37) (j1 := 96) (j2 := 97) (by decide +kernel) (by first | decide | exact ⟨by decide, by decide⟩) (by first | decide | exact ⟨by decide, by decide⟩) (by first | decide | exact ⟨by decide, by decide⟩)
  have Ah7 : zAM h7 := Ah6.mr Qh7 (by decide +kernel) (Ch6.1.b (a1 := 37) (a2 := 37) (j1 := 2) (j2 := 3) (lo := 0) (hi := 20) (by decide +kernel) (by decide) (by decide) (by decide) (by decide)).2
  have Wh7 : zCW h7 := Wh6.mr Ch6.1 Qh7 (by decide +kernel)
  have w : 0 ≤ v1 → v1 < fld h 2 2 → fld h (fld h (fld h 2 1) (v1).toNat) 11 = fld h6 74 (v1).toNat := fun p q => ((zE_f2_11 E) (v1).toNat (show (((v1).toNat : Nat) : Int) < fld h 2 2 by omega)).trans (Qh6.a (a := 74) (n := 8) (i := (v1).toNat) (by decide +kernel) (by first | decide | exact ⟨by decide, by decide⟩) (by have := zLb_2 C; omega)).symm
  have w2 : 0 ≤ v1 → v1 < fld h 2 2 → 0 ≤ fld h6 74 (v1).toNat ∧ fld h6 74 (v1).toNat ≤ 9999 := fun p q => Ch6.1.b (a1 := 74) (a2 := 74) (j1 := 0) (j2 := 8) (lo := 0) (hi := 9999) (by decide +kernel) (r := 74) (j := (v1).toNat) (by decide) (by decide) (by omega) (by have := zLb_2 C; omega)
  have w3 : 0 ≤ v1 → v1 < fld h 2 2 → 1 ≤ v2 → v2 ≤ 999 → w32 (fld h (fld h (fld h 2 1) (v1).toNat) 11 + v2) = fld h6 74 (v1).toNat + v2 := fun p q r s => by have a1 := w p q; have a2 := w2 p q; rw [a1]; exact w32_id (by first | omega | exact ⟨by omega, by omega⟩)
  have KEh7 : zE h7 ∧ v5 = v8 := by
    rcases f4 with ⟨xC0, xC1, xC2⟩ | ⟨xN0, xN1, xN2⟩
    · rcases f10 with ⟨mC0, mC1, mC2⟩ | ⟨mN0, mN1, mN2⟩
      · have TT : zXR [(74, 74, 0, 8), (1011, 1011, 11, 12)] (0) (0) h h7 := (Qh6.mono (ms' := [(74, 74, 0, 8), (1011, 1011, 11, 12)]) (by decide +kernel)).tr (c2 := 0) (s2 := 0) Zh7 (by decide +kernel) (by decide) (by decide)
        exact ⟨⟨zQS.st (T := []) TT E.1 (by decide +kernel) zQS.nil, zNM.st (T := []) TT C E.2.1 (by decide +kernel) zNM.nil, zFL.st (T := [(2, 11, 74)]) TT C E.2.2.1 (by decide +kernel) (zFL.cons (zF1.up C Ch6 Qh6 Zh7 (zE_f2_11 E) E.2.1 (A := 2) (j := 11) (a := 74) (k := (v1).toNat) (L := zTN) (by decide +kernel) (by decide +kernel) (by decide +kernel) (show (((v1).toNat : Nat) : Int) < fld h 2 2 by omega) xC2 mC2 (by omega)) zFL.nil), zZL.st (T := [(2, 74)]) TT E.2.2.2.1 (by decide +kernel) (zZL.cons (zZ1.up (A := 2) (a := 74) (k := (v1).toNat) Qh6 Zh7 (zE_z2_74 E) (by decide +kernel) (by decide +kernel) (show (((v1).toNat : Nat) : Int) < fld h 2 2 by omega) mC2) zZL.nil), zRL.st (T := []) TT C E.2.2.2.2.1 (by decide +kernel) zRL.nil, E.2.2.2.2.2.kp TT (by decide +kernel) (by omega)⟩, by omega⟩
      · exfalso; omega
    · rcases f10 with ⟨mC0, mC1, mC2⟩ | ⟨mN0, mN1, mN2⟩
      · exfalso; omega
      · exact ⟨by rw [mN1, xN1]; exact E, by omega⟩
  obtain ⟨Eh7, kEh7⟩ := KEh7
  refine zwW_p [(15, 0, 0), (24, 1605, 0)] (q := 1605) (ls' := [(2, -1), (2, 1), (2, 37), (0, i)]) (st' := []) (by decide +kernel) rfl ?_
  exact k _ ⟨Ch7, Ah7, Wh7, Eh7, _, Xh7.le (by decide) (by decide)⟩
theorem zl_1233 {sc : List Int} {Q : Option Vl → Hp → Prop} (h : Hp) (C : CI h) (A : zAM h) (W : zCW h) (E : zE h) (hl : h.length ≤ 800000) (hin : ∀ x ∈ sc, in32 x) (i : Int) (hi : 0 ≤ i ∧ i + 6 ≤ sc.length) (hs : sc.length ≤ 3072) (k : ∀ g, zLJ h g → zwW sc 400 0 1605 [(2, -1), (2, 1), (2, 37), (0, i)] [] g Q) : zwW sc 400 0 1233 [(2, -1), (2, 1), (2, 37), (0, i)] [] h Q := by
  have X : zXR msxL 0 0 h h := zXR.rf _ _
  have E2_2 := zE_s2_2 E
  have E3_2 := zE_s3_2 E
  have E1_0 := zE_s1_0 E
  have E27_0 := zE_s27_0 E
  refine zwW_p [(1, 1, 2), (1, 0, 2), (1, 3, 0), (0, 1, 0)] (q := 1237) (ls' := [(2, -1), (2, 1), (2, 37), (0, i)]) (st' := [(0, 1), (0, i), (2, -1), (2, 1)]) (by decide +kernel) rfl ?_
  refine zwW_add (nx := 1238) (by decide +kernel) (by first | omega | exact ⟨by omega, by omega⟩) ?_
  refine zwW_sld (nx := 1239) (by decide +kernel) (by omega) (by omega) ?_
  obtain ⟨v1, ev1⟩ : ∃ z, z = sc.getD (i + 1).toNat 0 := ⟨_, rfl⟩
  rw [← ev1]
  have qv1 : -2147483648 ≤ v1 ∧ v1 ≤ 2147483647 := by rw [ev1]; exact zgetD hin _
  refine zwW_p [(1, 0, 2), (1, 3, 0), (0, 2, 0)] (q := 1242) (ls' := [(2, -1), (2, 1), (2, 37), (0, i)]) (st' := [(0, 2), (0, i), (2, -1), (0, v1), (2, 1)]) (by decide +kernel) rfl ?_
  refine zwW_add (nx := 1243) (by decide +kernel) (by first | omega | exact ⟨by omega, by omega⟩) ?_
  refine zwW_sld (nx := 1244) (by decide +kernel) (by omega) (by omega) ?_
  obtain ⟨v2, ev2⟩ : ∃ z, z = sc.getD (i + 2).toNat 0 := ⟨_, rfl⟩
  rw [← ev2]
  have qv2 : -2147483648 ≤ v2 ∧ v2 ≤ 2147483647 := by rw [ev2]; exact zgetD hin _
  refine zwif_eq (q := 1251) (nx := 1247) (by decide +kernel) (fun c3 => ?_) (fun c3 => ?_)
  · refine zwW_p [(0, 0, 0)] (q := 1252) (ls' := [(2, -1), (2, 1), (2, 37), (0, i)]) (st' := [(0, 0), (0, v1), (2, 1)]) (by decide +kernel) rfl ?_
    refine zwW_cm C.1 (op := 60) (k' := 65) (n := 2) (kd := 12) (m := 13) (nx := 1255) (r := 1) (tl := [(0, v1), (0, 0)]) (st' := []) (by decide +kernel) rfl (by decide +kernel) rfl (x65 h C v1 0 (by omega) (by omega)) ?_
    rintro v4 _ ⟨rfl, f5⟩
    refine zwW_p [(15, 0, 0), (1, 2, 2), (1, 0, 2), (1, 3, 0), (0, 1, 0)] (q := 1260) (ls' := [(2, -1), (2, 1), (2, 37), (0, i)]) (st' := [(0, 1), (0, i), (2, -1), (2, 37)]) (by decide +kernel) rfl ?_
    refine zwW_add (nx := 1261) (by decide +kernel) (by first | omega | exact ⟨by omega, by omega⟩) ?_
    refine zwW_sld (nx := 1262) (by decide +kernel) (by omega) (by omega) ?_
    rw [← ev1]
    refine zwW_p [(1, 0, 2), (1, 3, 0), (0, 2, 0)] (q := 1265) (ls' := [(2, -1), (2, 1), (2, 37), (0, i)]) (st' := [(0, 2), (0, i), (2, -1), (0, v1), (2, 37)]) (by decide +kernel) rfl ?_
    refine zwW_add (nx := 1266) (by decide +kernel) (by first | omega | exact ⟨by omega, by omega⟩) ?_
    refine zwW_sld (nx := 1267) (by decide +kernel) (by omega) (by omega) ?_
    rw [← ev2]
    refine zwif_eq (q := 1274) (nx := 1270) (by decide +kernel) (fun c6 => ?_) (fun c6 => ?_)
    · refine zwW_p [(0, 0, 0)] (q := 1275) (ls' := [(2, -1), (2, 1), (2, 37), (0, i)]) (st' := [(0, 0), (0, v1), (2, 37)]) (by decide +kernel) rfl ?_
      refine zwW_cm C.1 (op := 60) (k' := 66) (n := 2) (kd := 13) (m := 97) (nx := 1278) (r := 37) (tl := [(0, v1), (0, 0)]) (st' := []) (by decide +kernel) rfl (by decide +kernel) rfl (m66 h C.1 v1 0) ?_
      rintro v7 _ ⟨rfl, f8⟩
      refine zwW_p [(15, 0, 0), (24, 1605, 0)] (q := 1605) (ls' := [(2, -1), (2, 1), (2, 37), (0, i)]) (st' := []) (by decide +kernel) rfl ?_
      exact k _ ⟨C, A, W, E, _, X.le (by decide) (by decide)⟩
    · exfalso; omega
  · refine zwW_p [(0, 1, 0), (24, 1252, 0)] (q := 1252) (ls' := [(2, -1), (2, 1), (2, 37), (0, i)]) (st' := [(0, 1), (0, v1), (2, 1)]) (by decide +kernel) rfl ?_
    refine zwW_cm C.1 (op := 60) (k' := 65) (n := 2) (kd := 12) (m := 13) (nx := 1255) (r := 1) (tl := [(0, v1), (0, 1)]) (st' := []) (by decide +kernel) rfl (by decide +kernel) rfl (x65 h C v1 1 (by omega) (by omega)) ?_
    rintro v9 _ ⟨rfl, f10⟩
    refine zwW_p [(15, 0, 0), (1, 2, 2), (1, 0, 2), (1, 3, 0), (0, 1, 0)] (q := 1260) (ls' := [(2, -1), (2, 1), (2, 37), (0, i)]) (st' := [(0, 1), (0, i), (2, -1), (2, 37)]) (by decide +kernel) rfl ?_
    refine zwW_add (nx := 1261) (by decide +kernel) (by first | omega | exact ⟨by omega, by omega⟩) ?_
    refine zwW_sld (nx := 1262) (by decide +kernel) (by omega) (by omega) ?_
    rw [← ev1]
    refine zwW_p [(1, 0, 2), (1, 3, 0), (0, 2, 0)] (q := 1265) (ls' := [(2, -1), (2, 1), (2, 37), (0, i)]) (st' := [(0, 2), (0, i), (2, -1), (0, v1), (2, 37)]) (by decide +kernel) rfl ?_
    refine zwW_add (nx := 1266) (by decide +kernel) (by first | omega | exact ⟨by omega, by omega⟩) ?_
    refine zwW_sld (nx := 1267) (by decide +kernel) (by omega) (by omega) ?_
    rw [← ev2]
    refine zwif_eq (q := 1274) (nx := 1270) (by decide +kernel) (fun c11 => ?_) (fun c11 => ?_)
    · refine zwW_p [(0, 0, 0)] (q := 1275) (ls' := [(2, -1), (2, 1), (2, 37), (0, i)]) (st' := [(0, 0), (0, v1), (2, 37)]) (by decide +kernel) rfl ?_
      refine zwW_cm C.1 (op := 60) (k' := 66) (n := 2) (kd := 13) (m := 97) (nx := 1278) (r := 37) (tl := [(0, v1), (0, 0)]) (st' := []) (by decide +kernel) rfl (by decide +kernel) rfl (m66 h C.1 v1 0) ?_
      rintro v12 _ ⟨rfl, f13⟩
      refine zwW_p [(15, 0, 0), (24, 1605, 0)] (q := 1605) (ls' := [(2, -1), (2, 1), (2, 37), (0, i)]) (st' := []) (by decide +kernel) rfl ?_
      exact k _ ⟨C, A, W, E, _, X.le (by decide) (by decide)⟩
    · refine zwW_p [(0, 1, 0), (24, 1275, 0)] (q := 1275) (ls' := [(2, -1), (2, 1), (2, 37), (0, i)]) (st' := [(0, 1), (0, v1), (2, 37)]) (by decide +kernel) rfl ?_
      refine zwW_cm C.1 (op := 60) (k' := 66) (n := 2) (kd := 13) (m := 97) (nx := 1278) (r := 37) (tl := [(0, v1), (0, 1)]) (st' := []) (by decide +kernel) rfl (by decide +kernel) rfl (m66 h C.1 v1 1) ?_
      rintro v14 _ ⟨rfl, f15⟩
      refine zwW_p [(15, 0, 0), (24, 1605, 0)] (q := 1605) (ls' := [(2, -1), (2, 1), (2, 37), (0, i)]) (st' := []) (by decide +kernel) rfl ?_
      exact k _ ⟨C, A, W, E, _, X.le (by decide) (by decide)⟩
theorem zl_1282 {sc : List Int} {Q : Option Vl → Hp → Prop} (h : Hp) (C : CI h) (A : zAM h) (W : zCW h) (E : zE h) (hl : h.length ≤ 800000) (hin : ∀ x ∈ sc, in32 x) (i : Int) (hi : 0 ≤ i ∧ i + 6 ≤ sc.length) (hs : sc.length ≤ 3072) (k : ∀ g, zLJ h g → zwW sc 400 0 1605 [(2, -1), (2, 1), (2, 37), (0, i)] [] g Q) : zwW sc 400 0 1282 [(2, -1), (2, 1), (2, 37), (0, i)] [] h Q := by
  have X : zXR msxL 0 0 h h := zXR.rf _ _
  have E2_2 := zE_s2_2 E
  have E3_2 := zE_s3_2 E
  have E1_0 := zE_s1_0 E
  have E27_0 := zE_s27_0 E
  refine zwW_p [(1, 1, 2)] (q := 1283) (ls' := [(2, -1), (2, 1), (2, 37), (0, i)]) (st' := [(2, 1)]) (by decide +kernel) rfl ?_
  refine zwW_cm C.1 (op := 60) (k' := 67) (n := 0) (kd := 12) (m := 13) (nx := 1286) (r := 1) (tl := []) (st' := []) (by decide +kernel) rfl (by decide +kernel) rfl (x67 h C) ?_
  rintro v1 _ ⟨rfl, f2⟩
  refine zwW_p [(15, 0, 0), (1, 2, 2)] (q := 1288) (ls' := [(2, -1), (2, 1), (2, 37), (0, i)]) (st' := [(2, 37)]) (by decide +kernel) rfl ?_
  refine zwW_cm C.1 (op := 60) (k' := 68) (n := 0) (kd := 13) (m := 97) (nx := 1291) (r := 37) (tl := []) (st' := []) (by decide +kernel) rfl (by decide +kernel) rfl (m68 h C.1) ?_
  rintro v3 _ ⟨rfl, f4⟩
  refine zwW_p [(15, 0, 0), (24, 1605, 0)] (q := 1605) (ls' := [(2, -1), (2, 1), (2, 37), (0, i)]) (st' := []) (by decide +kernel) rfl ?_
  exact k _ ⟨C, A, W, E, _, X.le (by decide) (by decide)⟩
theorem zl_1295 {sc : List Int} {Q : Option Vl → Hp → Prop} (h : Hp) (C : CI h) (A : zAM h) (W : zCW h) (E : zE h) (hl : h.length ≤ 800000) (hin : ∀ x ∈ sc, in32 x) (i : Int) (hi : 0 ≤ i ∧ i + 6 ≤ sc.length) (hs : sc.length ≤ 3072) (k : ∀ g, zLJ h g → zwW sc 400 0 1605 [(2, -1), (2, 1), (2, 37), (0, i)] [] g Q) : zwW sc 400 0 1295 [(2, -1), (2, 1), (2, 37), (0, i)] [] h Q := by
  have X : zXR msxL 0 0 h h := zXR.rf _ _
  have E2_2 := zE_s2_2 E
  have E3_2 := zE_s3_2 E
  have E1_0 := zE_s1_0 E
  have E27_0 := zE_s27_0 E
  refine zwW_p [(1, 1, 2), (1, 0, 2), (1, 3, 0), (0, 1, 0)] (q := 1299) (ls' := [(2, -1), (2, 1), (2, 37), (0, i)]) (st' := [(0, 1), (0, i), (2, -1), (2, 1)]) (by decide +kernel) rfl ?_
  refine zwW_add (nx := 1300) (by decide +kernel) (by first | omega | exact ⟨by omega, by omega⟩) ?_
  refine zwW_sld (nx := 1301) (by decide +kernel) (by omega) (by omega) ?_
  obtain ⟨v1, ev1⟩ : ∃ z, z = sc.getD (i + 1).toNat 0 := ⟨_, rfl⟩
  rw [← ev1]
  have qv1 : -2147483648 ≤ v1 ∧ v1 ≤ 2147483647 := by rw [ev1]; exact zgetD hin _
  refine zwW_p [(1, 0, 2), (1, 3, 0), (0, 2, 0)] (q := 1304) (ls' := [(2, -1), (2, 1), (2, 37), (0, i)]) (st' := [(0, 2), (0, i), (2, -1), (0, v1), (2, 1)]) (by decide +kernel) rfl ?_
  refine zwW_add (nx := 1305) (by decide +kernel) (by first | omega | exact ⟨by omega, by omega⟩) ?_
  refine zwW_sld (nx := 1306) (by decide +kernel) (by omega) (by omega) ?_
  obtain ⟨v2, ev2⟩ : ∃ z, z = sc.getD (i + 2).toNat 0 := ⟨_, rfl⟩
  rw [← ev2]
  have qv2 : -2147483648 ≤ v2 ∧ v2 ≤ 2147483647 := by rw [ev2]; exact zgetD hin _
  refine zwW_p [(1, 0, 2), (1, 3, 0), (0, 3, 0)] (q := 1309) (ls' := [(2, -1), (2, 1), (2, 37), (0, i)]) (st' := [(0, 3), (0, i), (2, -1), (0, v2), (0, v1), (2, 1)]) (by decide +kernel) rfl ?_
  refine zwW_add (nx := 1310) (by decide +kernel) (by first | omega | exact ⟨by omega, by omega⟩) ?_
  refine zwW_sld (nx := 1311) (by decide +kernel) (by omega) (by omega) ?_
  obtain ⟨v3, ev3⟩ : ∃ z, z = sc.getD (i + 3).toNat 0 := ⟨_, rfl⟩
  rw [← ev3]
  have qv3 : -2147483648 ≤ v3 ∧ v3 ≤ 2147483647 := by rw [ev3]; exact zgetD hin _
  refine zwW_cm C.1 (op := 60) (k' := 69) (n := 3) (kd := 12) (m := 13) (nx := 1314) (r := 1) (tl := [(0, v1), (0, v2), (0, v3)]) (st' := []) (by decide +kernel) rfl (by decide +kernel) rfl (x69 h C v1 v2 v3 (by omega) (by omega) (by omega)) ?_
  rintro v6 h7 ⟨Ch7, Qh7, f4, f5⟩
  have Xh7 : zXR msxL (0) (0) h h7 := X.tr (c2 := 0) (s2 := 0) Qh7 (by decide +kernel) (by decide) (by decide)
  have th7_2_2 : fld h7 2 2 = fld h 2 2 := Qh7.f (a1 := 2) (a2 := 2) (j1 := 2) (j2 := 3) (by decide +kernel) (by first | decide | exact ⟨by decide, by decide⟩) (by first | decide | exact ⟨by decide, by decide⟩) (by first | decide | exact ⟨by decide, by decide⟩)
  have th7_37_1 : fld h7 37 1 = fld h 37 1 := Qh7.f (a1 := 37) (a2 := 37) (j1 := 1) (j2 := 2) (by decide +kernel) (by first | decide | exact ⟨by decide, by decide⟩) (by first | decide | exact ⟨by decide, by decide⟩) (by first | decide | exact ⟨by decide, by decide⟩)
  have th7_3_2 : fld h7 3 2 = fld h 3 2 := Qh7.f (a1 := 3) (a2 := 3) (j1 := 2) (j2 := 3) (by decide +kernel) (by first | decide | exact ⟨by decide, by decide⟩) (by first | decide | exact ⟨by decide, by decide⟩) (by first | decide | exact ⟨by decide, by decide⟩)
  have th7_37_2 : fld h7 37 2 = fld h 37 2 := Qh7.f (a1 := 37) (a2 := 37) (j1 := 2) (j2 := 3) (by decide +kernel) (by first | decide | exact ⟨by decide, by decide⟩) (by first | decide | exact ⟨by decide, by decide⟩) (by first | decide | exact ⟨by decide, by decide⟩)
  have th7_1_0 : fld h7 1 0 = fld h 1 0 := Qh7.f (a1 := 1) (a2 := 1) (j1 := 0) (j2 := 1) (by decide +kernel) (by first | decide | exact ⟨by decide, by decide⟩) (by first | decide | exact ⟨by decide, by decide⟩) (by first | decide | exact ⟨by decide, by decide⟩)
  have th7_37_0 : fld h7 37 0 = fld h 37 0 := Qh7.f (a1 := 37) (a2 := 37) (j1 := 0) (j2 := 1) (by decide +kernel) (by first | decide | exact ⟨by decide, by decide⟩) (by first | decide | exact ⟨by decide, by decide⟩) (by first | decide | exact ⟨by decide, by decide⟩)
  have th7_37_96 : fld h7 37 96 = fld h 37 96 := Qh7.f (a1 := 37) (a2 := 37) (j1 := 96) (j2 := 97) (by decide +kernel) (by first | decide | exact ⟨by decide, by decide⟩) (by first | decide | exact ⟨by decide, by decide⟩) (by first | decide | exact ⟨by decide, by decide⟩)
  have Ah7 : zAM h7 := A.sm (fun r hr => Qh7.same (by decide +kernel) hr)
  have Wh7 : zCW h7 := W.sm C.1 (fun r hr => Qh7.same (by decide +kernel) hr)
  refine zwW_p [(15, 0, 0), (1, 2, 2), (1, 0, 2), (1, 3, 0), (0, 1, 0)] (q := 1319) (ls' := [(2, -1), (2, 1), (2, 37), (0, i)]) (st' := [(0, 1), (0, i), (2, -1), (2, 37)]) (by decide +kernel) rfl ?_
  refine zwW_add (nx := 1320) (by decide +kernel) (by first | omega | exact ⟨by omega, by omega⟩) ?_
  refine zwW_sld (nx := 1321) (by decide +kernel) (by omega) (by omega) ?_
  rw [← ev1]
  refine zwW_p [(1, 0, 2), (1, 3, 0), (0, 2, 0)] (q := 1324) (ls' := [(2, -1), (2, 1), (2, 37), (0, i)]) (st' := [(0, 2), (0, i), (2, -1), (0, v1), (2, 37)]) (by decide +kernel) rfl ?_
  refine zwW_add (nx := 1325) (by decide +kernel) (by first | omega | exact ⟨by omega, by omega⟩) ?_
  refine zwW_sld (nx := 1326) (by decide +kernel) (by omega) (by omega) ?_
  rw [← ev2]
  refine zwW_p [(1, 0, 2), (1, 3, 0), (0, 3, 0)] (q := 1329) (ls' := [(2, -1), (2, 1), (2, 37), (0, i)]) (st' := [(0, 3), (0, i), (2, -1), (0, v2), (0, v1), (2, 37)]) (by decide +kernel) rfl ?_
  refine zwW_add (nx := 1330) (by decide +kernel) (by first | omega | exact ⟨by omega, by omega⟩) ?_
  refine zwW_sld (nx := 1331) (by decide +kernel) (by omega) (by omega) ?_
  rw [← ev3]
  refine zwW_cm Ch7.1 (op := 60) (k' := 70) (n := 3) (kd := 13) (m := 97) (nx := 1334) (r := 37) (tl := [(0, v1), (0, v2), (0, v3)]) (st' := []) (by decide +kernel) rfl (by decide +kernel) rfl (m70 h7 Ch7.1 v1 v2 v3) ?_
  rintro v9 h8 ⟨Ih8, Qh8, f10, f11⟩
  obtain ⟨Ch8, Zh8⟩ := Ch7.m Ih8 Qh8 (by decide +kernel)
  have Xh8 : zXR msxL (0) (0) h h8 := Xh7.tr (c2 := 0) (s2 := 0) Zh8 (by decide +kernel) (by decide) (by decide)
  have th8_2_2 : fld h8 2 2 = fld h7 2 2 := Zh8.f (a1 := 2) (a2 := 2) (j1 := 2) (j2 := 3) (by decide +kernel) (by first | decide | exact ⟨by decide, by decide⟩) (by first | decide | exact ⟨by decide, by decide⟩) (by first | decide | exact ⟨by decide, by decide⟩)
  have th8_37_1 : fld h8 37 1 = fld h7 37 1 := Zh8.f (a1 := 37) (a2 := 37) (j1 := 1) (j2 := 2) (by decide +kernel) (by first | decide | exact ⟨by decide, by decide⟩) (by first | decide | exact ⟨by decide, by decide⟩) (by first | decide | exact ⟨by decide, by decide⟩)
  have th8_3_2 : fld h8 3 2 = fld h7 3 2 := Zh8.f (a1 := 3) (a2 := 3) (j1 := 2) (j2 := 3) (by decide +kernel) (by first | decide | exact ⟨by decide, by decide⟩) (by first | decide | exact ⟨by decide, by decide⟩) (by first | decide | exact ⟨by decide, by decide⟩)
  have th8_37_2 : fld h8 37 2 = fld h7 37 2 := Zh8.f (a1 := 37) (a2 := 37) (j1 := 2) (j2 := 3) (by decide +kernel) (by first | decide | exact ⟨by decide, by decide⟩) (by first | decide | exact ⟨by decide, by decide⟩) (by first | decide | exact ⟨by decide, by decide⟩)
  have th8_1_0 : fld h8 1 0 = fld h7 1 0 := Zh8.f (a1 := 1) (a2 := 1) (j1 := 0) (j2 := 1) (by decide +kernel) (by first | decide | exact ⟨by decide, by decide⟩) (by first | decide | exact ⟨by decide, by decide⟩) (by first | decide | exact ⟨by decide, by decide⟩)
  have th8_37_0 : fld h8 37 0 = fld h7 37 0 := Zh8.f (a1 := 37) (a2 := 37) (j1 := 0) (j2 := 1) (by decide +kernel) (by first | decide | exact ⟨by decide, by decide⟩) (by first | decide | exact ⟨by decide, by decide⟩) (by first | decide | exact ⟨by decide, by decide⟩)
  have th8_27_0 : fld h8 27 0 = fld h7 27 0 := Zh8.f (a1 := 27) (a2 := 27) (j1 := 0) (j2 := 1) (by decide +kernel) (by first | decide | exact ⟨by decide, by decide⟩) (by first | decide | exact ⟨by decide, by decide⟩) (by first | decide | exact ⟨by decide, by decide⟩)
  have Ah8 : zAM h8 := Ah7.mr Qh8 (by decide +kernel) (Ch7.1.b (a1 := 37) (a2 := 37) (j1 := 2) (j2 := 3) (lo := 0) (hi := 20) (by decide +kernel) (by decide) (by decide) (by decide) (by decide)).2
  have Wh8 : zCW h8 := Wh7.mr Ch7.1 Qh8 (by decide +kernel)
  have TT : zXR [(27, 27, 0, 1), (28, 28, 0, 8), (29, 29, 0, 8), (30, 30, 0, 8), (37, 37, 96, 97), (363, 363, 0, 8), (364, 364, 0, 8), (365, 365, 0, 8)] (0) (0) h h8 := (Qh7.mono (ms' := [(27, 27, 0, 1), (28, 28, 0, 8), (29, 29, 0, 8), (30, 30, 0, 8), (37, 37, 96, 97), (363, 363, 0, 8), (364, 364, 0, 8), (365, 365, 0, 8)]) (by decide +kernel)).tr (c2 := 0) (s2 := 0) Zh8 (by decide +kernel) (by decide) (by decide)
  have Eh8 : zE h8 := ⟨zQS.st (T := [(27, 0, 37, 96)]) TT E.1 (by decide +kernel) (zQS.cons (show fld h8 27 0 = fld h8 37 96 by omega) zQS.nil), zNM.st (T := []) TT C E.2.1 (by decide +kernel) zNM.nil, zFL.st (T := []) TT C E.2.2.1 (by decide +kernel) zFL.nil, zZL.st (T := []) TT E.2.2.2.1 (by decide +kernel) zZL.nil, zRL.st (T := []) TT C E.2.2.2.2.1 (by decide +kernel) zRL.nil, E.2.2.2.2.2.kp TT (by decide +kernel) (by omega)⟩
  refine zwW_p [(15, 0, 0), (24, 1605, 0)] (q := 1605) (ls' := [(2, -1), (2, 1), (2, 37), (0, i)]) (st' := []) (by decide +kernel) rfl ?_
  exact k _ ⟨Ch8, Ah8, Wh8, Eh8, _, Xh8.le (by decide) (by decide)⟩
theorem zl_1338 {sc : List Int} {Q : Option Vl → Hp → Prop} (h : Hp) (C : CI h) (A : zAM h) (W : zCW h) (E : zE h) (hl : h.length ≤ 800000) (hin : ∀ x ∈ sc, in32 x) (i : Int) (hi : 0 ≤ i ∧ i + 6 ≤ sc.length) (hs : sc.length ≤ 3072) (k : ∀ g, zLJ h g → zwW sc 400 0 1605 [(2, -1), (2, 1), (2, 37), (0, i)] [] g Q) : zwW sc 400 0 1338 [(2, -1), (2, 1), (2, 37), (0, i)] [] h Q := by
  have X : zXR msxL 0 0 h h := zXR.rf _ _
  have E2_2 := zE_s2_2 E
  have E3_2 := zE_s3_2 E
  have E1_0 := zE_s1_0 E
  have E27_0 := zE_s27_0 E
  refine zwW_p [(1, 1, 2)] (q := 1339) (ls' := [(2, -1), (2, 1), (2, 37), (0, i)]) (st' := [(2, 1)]) (by decide +kernel) rfl ?_
  refine zwW_cm C.1 (op := 60) (k' := 71) (n := 0) (kd := 12) (m := 13) (nx := 1342) (r := 1) (tl := []) (st' := []) (by decide +kernel) rfl (by decide +kernel) rfl (x71 h C) ?_
  rintro v3 h4 ⟨Ch4, Qh4, f1, f2⟩
  have Xh4 : zXR msxL (0) (0) h h4 := X.tr (c2 := 0) (s2 := 0) Qh4 (by decide +kernel) (by decide) (by decide)
  have th4_2_2 : fld h4 2 2 = fld h 2 2 := Qh4.f (a1 := 2) (a2 := 2) (j1 := 2) (j2 := 3) (by decide +kernel) (by first | decide | exact ⟨by decide, by decide⟩) (by first | decide | exact ⟨by decide, by decide⟩) (by first | decide | exact ⟨by decide, by decide⟩)
  have th4_37_1 : fld h4 37 1 = fld h 37 1 := Qh4.f (a1 := 37) (a2 := 37) (j1 := 1) (j2 := 2) (by decide +kernel) (by first | decide | exact ⟨by decide, by decide⟩) (by first | decide | exact ⟨by decide, by decide⟩) (by first | decide | exact ⟨by decide, by decide⟩)
  have th4_3_2 : fld h4 3 2 = fld h 3 2 := Qh4.f (a1 := 3) (a2 := 3) (j1 := 2) (j2 := 3) (by decide +kernel) (by first | decide | exact ⟨by decide, by decide⟩) (by first | decide | exact ⟨by decide, by decide⟩) (by first | decide | exact ⟨by decide, by decide⟩)
  have th4_37_2 : fld h4 37 2 = fld h 37 2 := Qh4.f (a1 := 37) (a2 := 37) (j1 := 2) (j2 := 3) (by decide +kernel) (by first | decide | exact ⟨by decide, by decide⟩) (by first | decide | exact ⟨by decide, by decide⟩) (by first | decide | exact ⟨by decide, by decide⟩)
  have th4_1_0 : fld h4 1 0 = fld h 1 0 := Qh4.f (a1 := 1) (a2 := 1) (j1 := 0) (j2 := 1) (by decide +kernel) (by first | decide | exact ⟨by decide, by decide⟩) (by first | decide | exact ⟨by decide, by decide⟩) (by first | decide | exact ⟨by decide, by decide⟩)
  have th4_37_0 : fld h4 37 0 = fld h 37 0 := Qh4.f (a1 := 37) (a2 := 37) (j1 := 0) (j2 := 1) (by decide +kernel) (by first | decide | exact ⟨by decide, by decide⟩) (by first | decide | exact ⟨by decide, by decide⟩) (by first | decide | exact ⟨by decide, by decide⟩)
  have th4_37_96 : fld h4 37 96 = fld h 37 96 := Qh4.f (a1 := 37) (a2 := 37) (j1 := 96) (j2 := 97) (by decide +kernel) (by first | decide | exact ⟨by decide, by decide⟩) (by first | decide | exact ⟨by decide, by decide⟩) (by first | decide | exact ⟨by decide, by decide⟩)
  have Ah4 : zAM h4 := A.sm (fun r hr => Qh4.same (by decide +kernel) hr)
  have Wh4 : zCW h4 := W.sm C.1 (fun r hr => Qh4.same (by decide +kernel) hr)
  refine zwW_p [(1, 2, 2)] (q := 1343) (ls' := [(2, -1), (2, 1), (2, 37), (0, i)]) (st' := [(2, 37), (0, v3)]) (by decide +kernel) rfl ?_
  refine zwW_cm Ch4.1 (op := 60) (k' := 72) (n := 0) (kd := 13) (m := 97) (nx := 1346) (r := 37) (tl := []) (st' := [(0, v3)]) (by decide +kernel) rfl (by decide +kernel) rfl (m72 h4 Ch4.1) ?_
  rintro v6 h5 ⟨Ih5, Qh5, f7, f8⟩
  obtain ⟨Ch5, Zh5⟩ := Ch4.m Ih5 Qh5 (by decide +kernel)
  have Xh5 : zXR msxL (0) (0) h h5 := Xh4.tr (c2 := 0) (s2 := 0) Zh5 (by decide +kernel) (by decide) (by decide)
  have th5_2_2 : fld h5 2 2 = fld h4 2 2 := Zh5.f (a1 := 2) (a2 := 2) (j1 := 2) (j2 := 3) (by decide +kernel) (by first | decide | exact ⟨by decide, by decide⟩) (by first | decide | exact ⟨by decide, by decide⟩) (by first | decide | exact ⟨by decide, by decide⟩)
  have th5_37_1 : fld h5 37 1 = fld h4 37 1 := Zh5.f (a1 := 37) (a2 := 37) (j1 := 1) (j2 := 2) (by decide +kernel) (by first | decide | exact ⟨by decide, by decide⟩) (by first | decide | exact ⟨by decide, by decide⟩) (by first | decide | exact ⟨by decide, by decide⟩)
  have th5_3_2 : fld h5 3 2 = fld h4 3 2 := Zh5.f (a1 := 3) (a2 := 3) (j1 := 2) (j2 := 3) (by decide +kernel) (by first | decide | exact ⟨by decide, by decide⟩) (by first | decide | exact ⟨by decide, by decide⟩) (by first | decide | exact ⟨by decide, by decide⟩)
  have th5_37_2 : fld h5 37 2 = fld h4 37 2 := Zh5.f (a1 := 37) (a2 := 37) (j1 := 2) (j2 := 3) (by decide +kernel) (by first | decide | exact ⟨by decide, by decide⟩) (by first | decide | exact ⟨by decide, by decide⟩) (by first | decide | exact ⟨by decide, by decide⟩)
  have th5_1_0 : fld h5 1 0 = fld h4 1 0 := Zh5.f (a1 := 1) (a2 := 1) (j1 := 0) (j2 := 1) (by decide +kernel) (by first | decide | exact ⟨by decide, by decide⟩) (by first | decide | exact ⟨by decide, by decide⟩) (by first | decide | exact ⟨by decide, by decide⟩)
  have th5_37_0 : fld h5 37 0 = fld h4 37 0 := Zh5.f (a1 := 37) (a2 := 37) (j1 := 0) (j2 := 1) (by decide +kernel) (by first | decide | exact ⟨by decide, by decide⟩) (by first | decide | exact ⟨by decide, by decide⟩) (by first | decide | exact ⟨by decide, by decide⟩)
  have th5_27_0 : fld h5 27 0 = fld h4 27 0 := Zh5.f (a1 := 27) (a2 := 27) (j1 := 0) (j2 := 1) (by decide +kernel) (by first | decide | exact ⟨by decide, by decide⟩) (by first | decide | exact ⟨by decide, by decide⟩) (by first | decide | exact ⟨by decide, by decide⟩)
  have Ah5 : zAM h5 := Ah4.mr Qh5 (by decide +kernel) (Ch4.1.b (a1 := 37) (a2 := 37) (j1 := 2) (j2 := 3) (lo := 0) (hi := 20) (by decide +kernel) (by decide) (by decide) (by decide) (by decide)).2
  have Wh5 : zCW h5 := Wh4.mr Ch4.1 Qh5 (by decide +kernel)
  have TT : zXR [(27, 27, 0, 1), (37, 37, 96, 97)] (0) (0) h h5 := (Qh4.mono (ms' := [(27, 27, 0, 1), (37, 37, 96, 97)]) (by decide +kernel)).tr (c2 := 0) (s2 := 0) Zh5 (by decide +kernel) (by decide) (by decide)
  have Eh5 : zE h5 := ⟨zQS.st (T := [(27, 0, 37, 96)]) TT E.1 (by decide +kernel) (zQS.cons (show fld h5 27 0 = fld h5 37 96 by omega) zQS.nil), zNM.st (T := []) TT C E.2.1 (by decide +kernel) zNM.nil, zFL.st (T := []) TT C E.2.2.1 (by decide +kernel) zFL.nil, zZL.st (T := []) TT E.2.2.2.1 (by decide +kernel) zZL.nil, zRL.st (T := []) TT C E.2.2.2.2.1 (by decide +kernel) zRL.nil, E.2.2.2.2.2.kp TT (by decide +kernel) (by omega)⟩
  refine zwic_eq (q := 1605) (nx := 1349) (by decide +kernel) (fun c9 => ?_) (fun c9 => ?_)
  · exact k _ ⟨Ch5, Ah5, Wh5, Eh5, _, Xh5.le (by decide) (by decide)⟩
  · refine zwW_p [(0, 0, 0)] (q := 1350) (ls' := [(2, -1), (2, 1), (2, 37), (0, i)]) (st' := [(0, 0)]) (by decide +kernel) rfl ?_
    exfalso; omega
theorem zl_1351 {sc : List Int} {Q : Option Vl → Hp → Prop} (h : Hp) (C : CI h) (A : zAM h) (W : zCW h) (E : zE h) (hl : h.length ≤ 800000) (hin : ∀ x ∈ sc, in32 x) (i : Int) (hi : 0 ≤ i ∧ i + 6 ≤ sc.length) (hs : sc.length ≤ 3072) (k : ∀ g, zLJ h g → zwW sc 400 0 1605 [(2, -1), (2, 1), (2, 37), (0, i)] [] g Q) : zwW sc 400 0 1351 [(2, -1), (2, 1), (2, 37), (0, i)] [] h Q := by
  have X : zXR msxL 0 0 h h := zXR.rf _ _
  have E2_2 := zE_s2_2 E
  have E3_2 := zE_s3_2 E
  have E1_0 := zE_s1_0 E
  have E27_0 := zE_s27_0 E
  refine zwW_p [(1, 1, 2), (1, 0, 2), (1, 3, 0), (0, 1, 0)] (q := 1355) (ls' := [(2, -1), (2, 1), (2, 37), (0, i)]) (st' := [(0, 1), (0, i), (2, -1), (2, 1)]) (by decide +kernel) rfl ?_
  refine zwW_add (nx := 1356) (by decide +kernel) (by first | omega | exact ⟨by omega, by omega⟩) ?_
  refine zwW_sld (nx := 1357) (by decide +kernel) (by omega) (by omega) ?_
  obtain ⟨v1, ev1⟩ : ∃ z, z = sc.getD (i + 1).toNat 0 := ⟨_, rfl⟩
  rw [← ev1]
  have qv1 : -2147483648 ≤ v1 ∧ v1 ≤ 2147483647 := by rw [ev1]; exact zgetD hin _
  refine zwW_p [(1, 0, 2), (1, 3, 0), (0, 2, 0)] (q := 1360) (ls' := [(2, -1), (2, 1), (2, 37), (0, i)]) (st' := [(0, 2), (0, i), (2, -1), (0, v1), (2, 1)]) (by decide +kernel) rfl ?_
  refine zwW_add (nx := 1361) (by decide +kernel) (by first | omega | exact ⟨by omega, by omega⟩) ?_
  refine zwW_sld (nx := 1362) (by decide +kernel) (by omega) (by omega) ?_
  obtain ⟨v2, ev2⟩ : ∃ z, z = sc.getD (i + 2).toNat 0 := ⟨_, rfl⟩
  rw [← ev2]
  have qv2 : -2147483648 ≤ v2 ∧ v2 ≤ 2147483647 := by rw [ev2]; exact zgetD hin _
  refine zwW_cm C.1 (op := 60) (k' := 73) (n := 2) (kd := 12) (m := 13) (nx := 1365) (r := 1) (tl := [(0, v1), (0, v2)]) (st' := []) (by decide +kernel) rfl (by decide +kernel) rfl (x73 h C v1 v2 (by omega) (by omega)) ?_
  rintro v4 h5 ⟨Ch5, Qh5, f3⟩
  have Xh5 : zXR msxL (0) (0) h h5 := X.tr (c2 := 0) (s2 := 0) Qh5 (by decide +kernel) (by decide) (by decide)
  have th5_2_2 : fld h5 2 2 = fld h 2 2 := Qh5.f (a1 := 2) (a2 := 2) (j1 := 2) (j2 := 3) (by decide +kernel) (by first | decide | exact ⟨by decide, by decide⟩) (by first | decide | exact ⟨by decide, by decide⟩) (by first | decide | exact ⟨by decide, by decide⟩)
  have th5_37_1 : fld h5 37 1 = fld h 37 1 := Qh5.f (a1 := 37) (a2 := 37) (j1 := 1) (j2 := 2) (by decide +kernel) (by first | decide | exact ⟨by decide, by decide⟩) (by first | decide | exact ⟨by decide, by decide⟩) (by first | decide | exact ⟨by decide, by decide⟩)
  have th5_3_2 : fld h5 3 2 = fld h 3 2 := Qh5.f (a1 := 3) (a2 := 3) (j1 := 2) (j2 := 3) (by decide +kernel) (by first | decide | exact ⟨by decide, by decide⟩) (by first | decide | exact ⟨by decide, by decide⟩) (by first | decide | exact ⟨by decide, by decide⟩)
  have th5_37_2 : fld h5 37 2 = fld h 37 2 := Qh5.f (a1 := 37) (a2 := 37) (j1 := 2) (j2 := 3) (by decide +kernel) (by first | decide | exact ⟨by decide, by decide⟩) (by first | decide | exact ⟨by decide, by decide⟩) (by first | decide | exact ⟨by decide, by decide⟩)
  have th5_1_0 : fld h5 1 0 = fld h 1 0 := Qh5.f (a1 := 1) (a2 := 1) (j1 := 0) (j2 := 1) (by decide +kernel) (by first | decide | exact ⟨by decide, by decide⟩) (by first | decide | exact ⟨by decide, by decide⟩) (by first | decide | exact ⟨by decide, by decide⟩)
  have th5_37_0 : fld h5 37 0 = fld h 37 0 := Qh5.f (a1 := 37) (a2 := 37) (j1 := 0) (j2 := 1) (by decide +kernel) (by first | decide | exact ⟨by decide, by decide⟩) (by first | decide | exact ⟨by decide, by decide⟩) (by first | decide | exact ⟨by decide, by decide⟩)
  have th5_27_0 : fld h5 27 0 = fld h 27 0 := Qh5.f (a1 := 27) (a2 := 27) (j1 := 0) (j2 := 1) (by decide +kernel) (by first | decide | exact ⟨by decide, by decide⟩) (by first | decide | exact ⟨by decide, by decide⟩) (by first | decide | exact ⟨by decide, by decide⟩)
  have th5_37_96 : fld h5 37 96 = fld h 37 96 := Qh5.f (a1 := 37) (a2 := 37) (j1 := 96) (j2 := 97) (by decide +kernel) (by first | decide | exact ⟨by decide, by decide⟩) (by first | decide | exact ⟨by decide, by decide⟩) (by first | decide | exact ⟨by decide, by decide⟩)
  have Ah5 : zAM h5 := A.sm (fun r hr => Qh5.same (by decide +kernel) hr)
  have Wh5 : zCW h5 := W.sm C.1 (fun r hr => Qh5.same (by decide +kernel) hr)
  refine zwW_p [(15, 0, 0), (1, 2, 2), (1, 0, 2), (1, 3, 0), (0, 1, 0)] (q := 1370) (ls' := [(2, -1), (2, 1), (2, 37), (0, i)]) (st' := [(0, 1), (0, i), (2, -1), (2, 37)]) (by decide +kernel) rfl ?_
  refine zwW_add (nx := 1371) (by decide +kernel) (by first | omega | exact ⟨by omega, by omega⟩) ?_
  refine zwW_sld (nx := 1372) (by decide +kernel) (by omega) (by omega) ?_
  rw [← ev1]
  refine zwW_p [(1, 0, 2), (1, 3, 0), (0, 2, 0)] (q := 1375) (ls' := [(2, -1), (2, 1), (2, 37), (0, i)]) (st' := [(0, 2), (0, i), (2, -1), (0, v1), (2, 37)]) (by decide +kernel) rfl ?_
  refine zwW_add (nx := 1376) (by decide +kernel) (by first | omega | exact ⟨by omega, by omega⟩) ?_
  refine zwW_sld (nx := 1377) (by decide +kernel) (by omega) (by omega) ?_
  rw [← ev2]
  refine zwW_cm Ch5.1 (op := 60) (k' := 74) (n := 2) (kd := 13) (m := 97) (nx := 1380) (r := 37) (tl := [(0, v1), (0, v2)]) (st' := []) (by decide +kernel) rfl (by decide +kernel) rfl (m74 h5 Ch5.1 v1 v2 Ah5) ?_
  rintro v7 h6 ⟨Ih6, Qh6, f8⟩
  obtain ⟨Ch6, Zh6⟩ := Ch5.m Ih6 Qh6 (by decide +kernel)
  have Xh6 : zXR msxL (0) (0) h h6 := Xh5.tr (c2 := 0) (s2 := 0) Zh6 (by decide +kernel) (by decide) (by decide)
  have th6_2_2 : fld h6 2 2 = fld h5 2 2 := Zh6.f (a1 := 2) (a2 := 2) (j1 := 2) (j2 := 3) (by decide +kernel) (by first | decide | exact ⟨by decide, by decide⟩) (by first | decide | exact ⟨by decide, by decide⟩) (by first | decide | exact ⟨by decide, by decide⟩)
  have th6_37_1 : fld h6 37 1 = fld h5 37 1 := Zh6.f (a1 := 37) (a2 := 37) (j1 := 1) (j2 := 2) (by decide +kernel) (by first | decide | exact ⟨by decide, by decide⟩) (by first | decide | exact ⟨by decide, by decide⟩) (by first | decide | exact ⟨by decide, by decide⟩)
  have th6_3_2 : fld h6 3 2 = fld h5 3 2 := Zh6.f (a1 := 3) (a2 := 3) (j1 := 2) (j2 := 3) (by decide +kernel) (by first | decide | exact ⟨by decide, by decide⟩) (by first | decide | exact ⟨by decide, by decide⟩) (by first | decide | exact ⟨by decide, by decide⟩)
  have th6_37_2 : fld h6 37 2 = fld h5 37 2 := Zh6.f (a1 := 37) (a2 := 37) (j1 := 2) (j2 := 3) (by decide +kernel) (by first | decide | exact ⟨by decide, by decide⟩) (by first | decide | exact ⟨by decide, by decide⟩) (by first | decide | exact ⟨by decide, by decide⟩)
  have th6_1_0 : fld h6 1 0 = fld h5 1 0 := Zh6.f (a1 := 1) (a2 := 1) (j1 := 0) (j2 := 1) (by decide +kernel) (by first | decide | exact ⟨by decide, by decide⟩) (by first | decide | exact ⟨by decide, by decide⟩) (by first | decide | exact ⟨by decide, by decide⟩)
  have th6_37_0 : fld h6 37 0 = fld h5 37 0 := Zh6.f (a1 := 37) (a2 := 37) (j1 := 0) (j2 := 1) (by decide +kernel) (by first | decide | exact ⟨by decide, by decide⟩) (by first | decide | exact ⟨by decide, by decide⟩) (by first | decide | exact ⟨by decide, by decide⟩)
  have th6_27_0 : fld h6 27 0 = fld h5 27 0 := Zh6.f (a1 := 27) (a2 := 27) (j1 := 0) (j2 := 1) (by decide +kernel) (by first | decide | exact ⟨by decide, by decide⟩) (by first | decide | exact ⟨by decide, by decide⟩) (by first | decide | exact ⟨by decide, by decide⟩)
  have th6_37_96 : fld h6 37 96 = fld h5 37 96 := Zh6.f (a1 := 37) (a2 := 37) (j1 := 96) (j2 := 97) (by decide +kernel) (by first | decide | exact ⟨by decide, by decide⟩) (by first | decide | exact ⟨by decide, by decide⟩) (by first | decide | exact ⟨by decide, by decide⟩)
  have Ah6 : zAM h6 := Ah5.mr Qh6 (by decide +kernel) (Ch5.1.b (a1 := 37) (a2 := 37) (j1 := 2) (j2 := 3) (lo := 0) (hi := 20) (by decide +kernel) (by decide) (by decide) (by decide) (by decide)).2
  have Wh6 : zCW h6 := Wh5.mr Ch5.1 Qh6 (by decide +kernel)
  have TT : zXR [(27, 27, 1, 2), (27, 27, 2, 3), (27, 27, 3, 4), (31, 31, 0, 20), (32, 32, 0, 20), (33, 33, 0, 8), (176, 176, 0, 20), (177, 177, 0, 8), (178, 178, 0, 20), (179, 179, 0, 20)] (0) (0) h h6 := (Qh5.mono (ms' := [(27, 27, 1, 2), (27, 27, 2, 3), (27, 27, 3, 4), (31, 31, 0, 20), (32, 32, 0, 20), (33, 33, 0, 8), (176, 176, 0, 20), (177, 177, 0, 8), (178, 178, 0, 20), (179, 179, 0, 20)]) (by decide +kernel)).tr (c2 := 0) (s2 := 0) Zh6 (by decide +kernel) (by decide) (by decide)
  have Eh6 : zE h6 := ⟨zQS.st (T := []) TT E.1 (by decide +kernel) zQS.nil, zNM.st (T := []) TT C E.2.1 (by decide +kernel) zNM.nil, zFL.st (T := []) TT C E.2.2.1 (by decide +kernel) zFL.nil, zZL.st (T := []) TT E.2.2.2.1 (by decide +kernel) zZL.nil, zRL.st (T := []) TT C E.2.2.2.2.1 (by decide +kernel) zRL.nil, E.2.2.2.2.2.kp TT (by decide +kernel) (by omega)⟩
  refine zwW_p [(15, 0, 0), (24, 1605, 0)] (q := 1605) (ls' := [(2, -1), (2, 1), (2, 37), (0, i)]) (st' := []) (by decide +kernel) rfl ?_
  exact k _ ⟨Ch6, Ah6, Wh6, Eh6, _, Xh6.le (by decide) (by decide)⟩
theorem zl_1384 {sc : List Int} {Q : Option Vl → Hp → Prop} (h : Hp) (C : CI h) (A : zAM h) (W : zCW h) (E : zE h) (hl : h.length ≤ 800000) (hin : ∀ x ∈ sc, in32 x) (i : Int) (hi : 0 ≤ i ∧ i + 6 ≤ sc.length) (hs : sc.length ≤ 3072) (k : ∀ g, zLJ h g → zwW sc 400 0 1605 [(2, -1), (2, 1), (2, 37), (0, i)] [] g Q) : zwW sc 400 0 1384 [(2, -1), (2, 1), (2, 37), (0, i)] [] h Q := by
  have X : zXR msxL 0 0 h h := zXR.rf _ _
  have E2_2 := zE_s2_2 E
  have E3_2 := zE_s3_2 E
  have E1_0 := zE_s1_0 E
  have E27_0 := zE_s27_0 E
  refine zwW_p [(1, 1, 2), (1, 0, 2), (1, 3, 0), (0, 1, 0)] (q := 1388) (ls' := [(2, -1), (2, 1), (2, 37), (0, i)]) (st' := [(0, 1), (0, i), (2, -1), (2, 1)]) (by decide +kernel) rfl ?_
  refine zwW_add (nx := 1389) (by decide +kernel) (by first | omega | exact ⟨by omega, by omega⟩) ?_
  refine zwW_sld (nx := 1390) (by decide +kernel) (by omega) (by omega) ?_
  obtain ⟨v1, ev1⟩ : ∃ z, z = sc.getD (i + 1).toNat 0 := ⟨_, rfl⟩
  rw [← ev1]
  have qv1 : -2147483648 ≤ v1 ∧ v1 ≤ 2147483647 := by rw [ev1]; exact zgetD hin _
  refine zwW_cm C.1 (op := 60) (k' := 75) (n := 1) (kd := 12) (m := 13) (nx := 1393) (r := 1) (tl := [(0, v1)]) (st' := []) (by decide +kernel) rfl (by decide +kernel) rfl (x75 h C v1 (by omega)) ?_
  rintro v2 _ ⟨rfl, f3⟩
  refine zwW_p [(15, 0, 0), (1, 2, 2), (1, 0, 2), (1, 3, 0), (0, 1, 0)] (q := 1398) (ls' := [(2, -1), (2, 1), (2, 37), (0, i)]) (st' := [(0, 1), (0, i), (2, -1), (2, 37)]) (by decide +kernel) rfl ?_
  refine zwW_add (nx := 1399) (by decide +kernel) (by first | omega | exact ⟨by omega, by omega⟩) ?_
  refine zwW_sld (nx := 1400) (by decide +kernel) (by omega) (by omega) ?_
  rw [← ev1]
  refine zwW_cm C.1 (op := 60) (k' := 76) (n := 1) (kd := 13) (m := 97) (nx := 1403) (r := 37) (tl := [(0, v1)]) (st' := []) (by decide +kernel) rfl (by decide +kernel) rfl (m76 h C.1 v1) ?_
  rintro v4 _ ⟨rfl, f5⟩
  refine zwW_p [(15, 0, 0), (24, 1605, 0)] (q := 1605) (ls' := [(2, -1), (2, 1), (2, 37), (0, i)]) (st' := []) (by decide +kernel) rfl ?_
  exact k _ ⟨C, A, W, E, _, X.le (by decide) (by decide)⟩
theorem zl_1407 {sc : List Int} {Q : Option Vl → Hp → Prop} (h : Hp) (C : CI h) (A : zAM h) (W : zCW h) (E : zE h) (hl : h.length ≤ 800000) (hin : ∀ x ∈ sc, in32 x) (i : Int) (hi : 0 ≤ i ∧ i + 6 ≤ sc.length) (hs : sc.length ≤ 3072) (k : ∀ g, zLJ h g → zwW sc 400 0 1605 [(2, -1), (2, 1), (2, 37), (0, i)] [] g Q) : zwW sc 400 0 1407 [(2, -1), (2, 1), (2, 37), (0, i)] [] h Q := by
  have X : zXR msxL 0 0 h h := zXR.rf _ _
  have E2_2 := zE_s2_2 E
  have E3_2 := zE_s3_2 E
  have E1_0 := zE_s1_0 E
  have E27_0 := zE_s27_0 E
  refine zwW_p [(1, 1, 2), (1, 0, 2), (1, 3, 0), (0, 1, 0)] (q := 1411) (ls' := [(2, -1), (2, 1), (2, 37), (0, i)]) (st' := [(0, 1), (0, i), (2, -1), (2, 1)]) (by decide +kernel) rfl ?_
  refine zwW_add (nx := 1412) (by decide +kernel) (by first | omega | exact ⟨by omega, by omega⟩) ?_
  refine zwW_sld (nx := 1413) (by decide +kernel) (by omega) (by omega) ?_
  obtain ⟨v1, ev1⟩ : ∃ z, z = sc.getD (i + 1).toNat 0 := ⟨_, rfl⟩
  rw [← ev1]
  have qv1 : -2147483648 ≤ v1 ∧ v1 ≤ 2147483647 := by rw [ev1]; exact zgetD hin _
  refine zwW_p [(1, 0, 2), (1, 3, 0), (0, 2, 0)] (q := 1416) (ls' := [(2, -1), (2, 1), (2, 37), (0, i)]) (st' := [(0, 2), (0, i), (2, -1), (0, v1), (2, 1)]) (by decide +kernel) rfl ?_
  refine zwW_add (nx := 1417) (by decide +kernel) (by first | omega | exact ⟨by omega, by omega⟩) ?_
  refine zwW_sld (nx := 1418) (by decide +kernel) (by omega) (by omega) ?_
  obtain ⟨v2, ev2⟩ : ∃ z, z = sc.getD (i + 2).toNat 0 := ⟨_, rfl⟩
  rw [← ev2]
  have qv2 : -2147483648 ≤ v2 ∧ v2 ≤ 2147483647 := by rw [ev2]; exact zgetD hin _
  refine zwW_cm C.1 (op := 60) (k' := 77) (n := 2) (kd := 12) (m := 13) (nx := 1421) (r := 1) (tl := [(0, v1), (0, v2)]) (st' := []) (by decide +kernel) rfl (by decide +kernel) rfl (x77 h C v1 v2 (by omega) (by omega)) ?_
  rintro v4 h5 ⟨Ch5, Qh5, f3⟩
  have Xh5 : zXR msxL (0) (0) h h5 := X.tr (c2 := 0) (s2 := 0) Qh5 (by decide +kernel) (by decide) (by decide)
  have th5_2_2 : fld h5 2 2 = fld h 2 2 := Qh5.f (a1 := 2) (a2 := 2) (j1 := 2) (j2 := 3) (by decide +kernel) (by first | decide | exact ⟨by decide, by decide⟩) (by first | decide | exact ⟨by decide, by decide⟩) (by first | decide | exact ⟨by decide, by decide⟩)
  have th5_37_1 : fld h5 37 1 = fld h 37 1 := Qh5.f (a1 := 37) (a2 := 37) (j1 := 1) (j2 := 2) (by decide +kernel) (by first | decide | exact ⟨by decide, by decide⟩) (by first | decide | exact ⟨by decide, by decide⟩) (by first | decide | exact ⟨by decide, by decide⟩)
  have th5_3_2 : fld h5 3 2 = fld h 3 2 := Qh5.f (a1 := 3) (a2 := 3) (j1 := 2) (j2 := 3) (by decide +kernel) (by first | decide | exact ⟨by decide, by decide⟩) (by first | decide | exact ⟨by decide, by decide⟩) (by first | decide | exact ⟨by decide, by decide⟩)
  have th5_37_2 : fld h5 37 2 = fld h 37 2 := Qh5.f (a1 := 37) (a2 := 37) (j1 := 2) (j2 := 3) (by decide +kernel) (by first | decide | exact ⟨by decide, by decide⟩) (by first | decide | exact ⟨by decide, by decide⟩) (by first | decide | exact ⟨by decide, by decide⟩)
  have th5_1_0 : fld h5 1 0 = fld h 1 0 := Qh5.f (a1 := 1) (a2 := 1) (j1 := 0) (j2 := 1) (by decide +kernel) (by first | decide | exact ⟨by decide, by decide⟩) (by first | decide | exact ⟨by decide, by decide⟩) (by first | decide | exact ⟨by decide, by decide⟩)
  have th5_37_0 : fld h5 37 0 = fld h 37 0 := Qh5.f (a1 := 37) (a2 := 37) (j1 := 0) (j2 := 1) (by decide +kernel) (by first | decide | exact ⟨by decide, by decide⟩) (by first | decide | exact ⟨by decide, by decide⟩) (by first | decide | exact ⟨by decide, by decide⟩)
  have th5_27_0 : fld h5 27 0 = fld h 27 0 := Qh5.f (a1 := 27) (a2 := 27) (j1 := 0) (j2 := 1) (by decide +kernel) (by first | decide | exact ⟨by decide, by decide⟩) (by first | decide | exact ⟨by decide, by decide⟩) (by first | decide | exact ⟨by decide, by decide⟩)
  have th5_37_96 : fld h5 37 96 = fld h 37 96 := Qh5.f (a1 := 37) (a2 := 37) (j1 := 96) (j2 := 97) (by decide +kernel) (by first | decide | exact ⟨by decide, by decide⟩) (by first | decide | exact ⟨by decide, by decide⟩) (by first | decide | exact ⟨by decide, by decide⟩)
  have Ah5 : zAM h5 := A.sm (fun r hr => Qh5.same (by decide +kernel) hr)
  have Wh5 : zCW h5 := W.sm C.1 (fun r hr => Qh5.same (by decide +kernel) hr)
  refine zwW_p [(15, 0, 0), (1, 2, 2), (1, 0, 2), (1, 3, 0), (0, 1, 0)] (q := 1426) (ls' := [(2, -1), (2, 1), (2, 37), (0, i)]) (st' := [(0, 1), (0, i), (2, -1), (2, 37)]) (by decide +kernel) rfl ?_
  refine zwW_add (nx := 1427) (by decide +kernel) (by first | omega | exact ⟨by omega, by omega⟩) ?_
  refine zwW_sld (nx := 1428) (by decide +kernel) (by omega) (by omega) ?_
  rw [← ev1]
  refine zwW_p [(1, 0, 2), (1, 3, 0), (0, 2, 0)] (q := 1431) (ls' := [(2, -1), (2, 1), (2, 37), (0, i)]) (st' := [(0, 2), (0, i), (2, -1), (0, v1), (2, 37)]) (by decide +kernel) rfl ?_
  refine zwW_add (nx := 1432) (by decide +kernel) (by first | omega | exact ⟨by omega, by omega⟩) ?_
  refine zwW_sld (nx := 1433) (by decide +kernel) (by omega) (by omega) ?_
  rw [← ev2]
  refine zwW_cm Ch5.1 (op := 60) (k' := 78) (n := 2) (kd := 13) (m := 97) (nx := 1436) (r := 37) (tl := [(0, v1), (0, v2)]) (st' := []) (by decide +kernel) rfl (by decide +kernel) rfl (m78 h5 Ch5.1 v1 v2 Ah5 Wh5) ?_
  rintro v7 h6 ⟨Ih6, Qh6, f8⟩
  obtain ⟨Ch6, Zh6⟩ := Ch5.m Ih6 Qh6 (by decide +kernel)
  have Xh6 : zXR msxL (0) (0) h h6 := Xh5.tr (c2 := 0) (s2 := 0) Zh6 (by decide +kernel) (by decide) (by decide)
  have th6_2_2 : fld h6 2 2 = fld h5 2 2 := Zh6.f (a1 := 2) (a2 := 2) (j1 := 2) (j2 := 3) (by decide +kernel) (by first | decide | exact ⟨by decide, by decide⟩) (by first | decide | exact ⟨by decide, by decide⟩) (by first | decide | exact ⟨by decide, by decide⟩)
  have th6_37_1 : fld h6 37 1 = fld h5 37 1 := Zh6.f (a1 := 37) (a2 := 37) (j1 := 1) (j2 := 2) (by decide +kernel) (by first | decide | exact ⟨by decide, by decide⟩) (by first | decide | exact ⟨by decide, by decide⟩) (by first | decide | exact ⟨by decide, by decide⟩)
  have th6_3_2 : fld h6 3 2 = fld h5 3 2 := Zh6.f (a1 := 3) (a2 := 3) (j1 := 2) (j2 := 3) (by decide +kernel) (by first | decide | exact ⟨by decide, by decide⟩) (by first | decide | exact ⟨by decide, by decide⟩) (by first | decide | exact ⟨by decide, by decide⟩)
  have th6_37_2 : fld h6 37 2 = fld h5 37 2 := Zh6.f (a1 := 37) (a2 := 37) (j1 := 2) (j2 := 3) (by decide +kernel) (by first | decide | exact ⟨by decide, by decide⟩) (by first | decide | exact ⟨by decide, by decide⟩) (by first | decide | exact ⟨by decide, by decide⟩)
  have th6_1_0 : fld h6 1 0 = fld h5 1 0 := Zh6.f (a1 := 1) (a2 := 1) (j1 := 0) (j2 := 1) (by decide +kernel) (by first | decide | exact ⟨by decide, by decide⟩) (by first | decide | exact ⟨by decide, by decide⟩) (by first | decide | exact ⟨by decide, by decide⟩)
  have th6_37_0 : fld h6 37 0 = fld h5 37 0 := Zh6.f (a1 := 37) (a2 := 37) (j1 := 0) (j2 := 1) (by decide +kernel) (by first | decide | exact ⟨by decide, by decide⟩) (by first | decide | exact ⟨by decide, by decide⟩) (by first | decide | exact ⟨by decide, by decide⟩)
  have th6_27_0 : fld h6 27 0 = fld h5 27 0 := Zh6.f (a1 := 27) (a2 := 27) (j1 := 0) (j2 := 1) (by decide +kernel) (by first | decide | exact ⟨by decide, by decide⟩) (by first | decide | exact ⟨by decide, by decide⟩) (by first | decide | exact ⟨by decide, by decide⟩)
  have th6_37_96 : fld h6 37 96 = fld h5 37 96 := Zh6.f (a1 := 37) (a2 := 37) (j1 := 96) (j2 := 97) (by decide +kernel) (by first | decide | exact ⟨by decide, by decide⟩) (by first | decide | exact ⟨by decide, by decide⟩) (by first | decide | exact ⟨by decide, by decide⟩)
  have Ah6 : zAM h6 := Ah5.mr Qh6 (by decide +kernel) (Ch5.1.b (a1 := 37) (a2 := 37) (j1 := 2) (j2 := 3) (lo := 0) (hi := 20) (by decide +kernel) (by decide) (by decide) (by decide) (by decide)).2
  have Wh6 : zCW h6 := Wh5.mr Ch5.1 Qh6 (by decide +kernel)
  have TT : zXR [(17, 17, 0, 13), (18, 18, 0, 400), (168, 168, 0, 13), (169, 169, 0, 420)] (0) (0) h h6 := (Qh5.mono (ms' := [(17, 17, 0, 13), (18, 18, 0, 400), (168, 168, 0, 13), (169, 169, 0, 420)]) (by decide +kernel)).tr (c2 := 0) (s2 := 0) Zh6 (by decide +kernel) (by decide) (by decide)
  have Eh6 : zE h6 := ⟨zQS.st (T := []) TT E.1 (by decide +kernel) zQS.nil, zNM.st (T := []) TT C E.2.1 (by decide +kernel) zNM.nil, zFL.st (T := []) TT C E.2.2.1 (by decide +kernel) zFL.nil, zZL.st (T := []) TT E.2.2.2.1 (by decide +kernel) zZL.nil, zRL.st (T := []) TT C E.2.2.2.2.1 (by decide +kernel) zRL.nil, E.2.2.2.2.2.kp TT (by decide +kernel) (by omega)⟩
  refine zwW_p [(15, 0, 0), (24, 1605, 0)] (q := 1605) (ls' := [(2, -1), (2, 1), (2, 37), (0, i)]) (st' := []) (by decide +kernel) rfl ?_
  exact k _ ⟨Ch6, Ah6, Wh6, Eh6, _, Xh6.le (by decide) (by decide)⟩
theorem zl_1440 {sc : List Int} {Q : Option Vl → Hp → Prop} (h : Hp) (C : CI h) (A : zAM h) (W : zCW h) (E : zE h) (hl : h.length ≤ 800000) (hin : ∀ x ∈ sc, in32 x) (i : Int) (hi : 0 ≤ i ∧ i + 6 ≤ sc.length) (hs : sc.length ≤ 3072) (k : ∀ g, zLJ h g → zwW sc 400 0 1605 [(2, -1), (2, 1), (2, 37), (0, i)] [] g Q) : zwW sc 400 0 1440 [(2, -1), (2, 1), (2, 37), (0, i)] [] h Q := by
  have X : zXR msxL 0 0 h h := zXR.rf _ _
  have E2_2 := zE_s2_2 E
  have E3_2 := zE_s3_2 E
  have E1_0 := zE_s1_0 E
  have E27_0 := zE_s27_0 E
  refine zwW_p [(1, 1, 2), (1, 0, 2), (1, 3, 0), (0, 1, 0)] (q := 1444) (ls' := [(2, -1), (2, 1), (2, 37), (0, i)]) (st' := [(0, 1), (0, i), (2, -1), (2, 1)]) (by decide +kernel) rfl ?_
  refine zwW_add (nx := 1445) (by decide +kernel) (by first | omega | exact ⟨by omega, by omega⟩) ?_
  refine zwW_sld (nx := 1446) (by decide +kernel) (by omega) (by omega) ?_
  obtain ⟨v1, ev1⟩ : ∃ z, z = sc.getD (i + 1).toNat 0 := ⟨_, rfl⟩
  rw [← ev1]
  have qv1 : -2147483648 ≤ v1 ∧ v1 ≤ 2147483647 := by rw [ev1]; exact zgetD hin _
  refine zwW_p [(1, 0, 2), (1, 3, 0), (0, 2, 0)] (q := 1449) (ls' := [(2, -1), (2, 1), (2, 37), (0, i)]) (st' := [(0, 2), (0, i), (2, -1), (0, v1), (2, 1)]) (by decide +kernel) rfl ?_
  refine zwW_add (nx := 1450) (by decide +kernel) (by first | omega | exact ⟨by omega, by omega⟩) ?_
  refine zwW_sld (nx := 1451) (by decide +kernel) (by omega) (by omega) ?_
  obtain ⟨v2, ev2⟩ : ∃ z, z = sc.getD (i + 2).toNat 0 := ⟨_, rfl⟩
  rw [← ev2]
  have qv2 : -2147483648 ≤ v2 ∧ v2 ≤ 2147483647 := by rw [ev2]; exact zgetD hin _
  refine zwW_cm C.1 (op := 60) (k' := 79) (n := 2) (kd := 12) (m := 13) (nx := 1454) (r := 1) (tl := [(0, v1), (0, v2)]) (st' := []) (by decide +kernel) rfl (by decide +kernel) rfl (x79 h C v1 v2 (by omega) (by omega)) ?_
  rintro v3 _ ⟨rfl, f4⟩
  refine zwW_p [(15, 0, 0), (1, 2, 2), (1, 0, 2), (1, 3, 0), (0, 1, 0)] (q := 1459) (ls' := [(2, -1), (2, 1), (2, 37), (0, i)]) (st' := [(0, 1), (0, i), (2, -1), (2, 37)]) (by decide +kernel) rfl ?_
  refine zwW_add (nx := 1460) (by decide +kernel) (by first | omega | exact ⟨by omega, by omega⟩) ?_
  refine zwW_sld (nx := 1461) (by decide +kernel) (by omega) (by omega) ?_
  rw [← ev1]
  refine zwW_p [(1, 0, 2), (1, 3, 0), (0, 2, 0)] (q := 1464) (ls' := [(2, -1), (2, 1), (2, 37), (0, i)]) (st' := [(0, 2), (0, i), (2, -1), (0, v1), (2, 37)]) (by decide +kernel) rfl ?_
  refine zwW_add (nx := 1465) (by decide +kernel) (by first | omega | exact ⟨by omega, by omega⟩) ?_
  refine zwW_sld (nx := 1466) (by decide +kernel) (by omega) (by omega) ?_
  rw [← ev2]
  refine zwW_cm C.1 (op := 60) (k' := 80) (n := 2) (kd := 13) (m := 97) (nx := 1469) (r := 37) (tl := [(0, v1), (0, v2)]) (st' := []) (by decide +kernel) rfl (by decide +kernel) rfl (m80 h C.1 v1 v2) ?_
  rintro v5 _ ⟨rfl, f6⟩
  refine zwW_p [(15, 0, 0), (24, 1605, 0)] (q := 1605) (ls' := [(2, -1), (2, 1), (2, 37), (0, i)]) (st' := []) (by decide +kernel) rfl ?_
  exact k _ ⟨C, A, W, E, _, X.le (by decide) (by decide)⟩
theorem zl_1473 {sc : List Int} {Q : Option Vl → Hp → Prop} (h : Hp) (C : CI h) (A : zAM h) (W : zCW h) (E : zE h) (hl : h.length ≤ 800000) (hin : ∀ x ∈ sc, in32 x) (i : Int) (hi : 0 ≤ i ∧ i + 6 ≤ sc.length) (hs : sc.length ≤ 3072) (k : ∀ g, zLJ h g → zwW sc 400 0 1605 [(2, -1), (2, 1), (2, 37), (0, i)] [] g Q) : zwW sc 400 0 1473 [(2, -1), (2, 1), (2, 37), (0, i)] [] h Q := by
  have X : zXR msxL 0 0 h h := zXR.rf _ _
  have E2_2 := zE_s2_2 E
  have E3_2 := zE_s3_2 E
  have E1_0 := zE_s1_0 E
  have E27_0 := zE_s27_0 E
  refine zwW_p [(1, 1, 2), (1, 0, 2), (1, 3, 0), (0, 1, 0)] (q := 1477) (ls' := [(2, -1), (2, 1), (2, 37), (0, i)]) (st' := [(0, 1), (0, i), (2, -1), (2, 1)]) (by decide +kernel) rfl ?_
  refine zwW_add (nx := 1478) (by decide +kernel) (by first | omega | exact ⟨by omega, by omega⟩) ?_
  refine zwW_sld (nx := 1479) (by decide +kernel) (by omega) (by omega) ?_
  obtain ⟨v1, ev1⟩ : ∃ z, z = sc.getD (i + 1).toNat 0 := ⟨_, rfl⟩
  rw [← ev1]
  have qv1 : -2147483648 ≤ v1 ∧ v1 ≤ 2147483647 := by rw [ev1]; exact zgetD hin _
  refine zwW_p [(1, 0, 2), (1, 3, 0), (0, 2, 0)] (q := 1482) (ls' := [(2, -1), (2, 1), (2, 37), (0, i)]) (st' := [(0, 2), (0, i), (2, -1), (0, v1), (2, 1)]) (by decide +kernel) rfl ?_
  refine zwW_add (nx := 1483) (by decide +kernel) (by first | omega | exact ⟨by omega, by omega⟩) ?_
  refine zwW_sld (nx := 1484) (by decide +kernel) (by omega) (by omega) ?_
  obtain ⟨v2, ev2⟩ : ∃ z, z = sc.getD (i + 2).toNat 0 := ⟨_, rfl⟩
  rw [← ev2]
  have qv2 : -2147483648 ≤ v2 ∧ v2 ≤ 2147483647 := by rw [ev2]; exact zgetD hin _
  refine zwW_p [(1, 0, 2), (1, 3, 0), (0, 3, 0)] (q := 1487) (ls' := [(2, -1), (2, 1), (2, 37), (0, i)]) (st' := [(0, 3), (0, i), (2, -1), (0, v2), (0, v1), (2, 1)]) (by decide +kernel) rfl ?_
  refine zwW_add (nx := 1488) (by decide +kernel) (by first | omega | exact ⟨by omega, by omega⟩) ?_
  refine zwW_sld (nx := 1489) (by decide +kernel) (by omega) (by omega) ?_
  obtain ⟨v3, ev3⟩ : ∃ z, z = sc.getD (i + 3).toNat 0 := ⟨_, rfl⟩
  rw [← ev3]
  have qv3 : -2147483648 ≤ v3 ∧ v3 ≤ 2147483647 := by rw [ev3]; exact zgetD hin _
  refine zwW_cm C.1 (op := 60) (k' := 81) (n := 3) (kd := 12) (m := 13) (nx := 1492) (r := 1) (tl := [(0, v1), (0, v2), (0, v3)]) (st' := []) (by decide +kernel) rfl (by decide +kernel) rfl (x81 h C v1 v2 v3 (by omega) (by omega) (by omega)) ?_
  rintro v4 _ ⟨rfl, f5⟩
  refine zwW_p [(15, 0, 0), (1, 2, 2), (1, 0, 2), (1, 3, 0), (0, 1, 0)] (q := 1497) (ls' := [(2, -1), (2, 1), (2, 37), (0, i)]) (st' := [(0, 1), (0, i), (2, -1), (2, 37)]) (by decide +kernel) rfl ?_
  refine zwW_add (nx := 1498) (by decide +kernel) (by first | omega | exact ⟨by omega, by omega⟩) ?_
  refine zwW_sld (nx := 1499) (by decide +kernel) (by omega) (by omega) ?_
  rw [← ev1]
  refine zwW_p [(1, 0, 2), (1, 3, 0), (0, 2, 0)] (q := 1502) (ls' := [(2, -1), (2, 1), (2, 37), (0, i)]) (st' := [(0, 2), (0, i), (2, -1), (0, v1), (2, 37)]) (by decide +kernel) rfl ?_
  refine zwW_add (nx := 1503) (by decide +kernel) (by first | omega | exact ⟨by omega, by omega⟩) ?_
  refine zwW_sld (nx := 1504) (by decide +kernel) (by omega) (by omega) ?_
  rw [← ev2]
  refine zwW_p [(1, 0, 2), (1, 3, 0), (0, 3, 0)] (q := 1507) (ls' := [(2, -1), (2, 1), (2, 37), (0, i)]) (st' := [(0, 3), (0, i), (2, -1), (0, v2), (0, v1), (2, 37)]) (by decide +kernel) rfl ?_
  refine zwW_add (nx := 1508) (by decide +kernel) (by first | omega | exact ⟨by omega, by omega⟩) ?_
  refine zwW_sld (nx := 1509) (by decide +kernel) (by omega) (by omega) ?_
  rw [← ev3]
  refine zwW_cm C.1 (op := 60) (k' := 82) (n := 3) (kd := 13) (m := 97) (nx := 1512) (r := 37) (tl := [(0, v1), (0, v2), (0, v3)]) (st' := []) (by decide +kernel) rfl (by decide +kernel) rfl (x82 h C v1 v2 v3 (by omega) (by omega) (by omega)) ?_
  rintro v7 h8 ⟨Ch8, Qh8, f6⟩
  have Xh8 : zXR msxL (1) (6) h h8 := X.tr (c2 := 1) (s2 := 6) Qh8 (by decide +kernel) (by decide) (by decide)
  have th8_2_2 : fld h8 2 2 = fld h 2 2 := Qh8.f (a1 := 2) (a2 := 2) (j1 := 2) (j2 := 3) (by decide +kernel) (by first | decide | exact ⟨by decide, by decide⟩) (by first | decide | exact ⟨by decide, by decide⟩) (by first | decide | exact ⟨by decide, by decide⟩)
  have th8_37_1 : fld h8 37 1 = fld h 37 1 := Qh8.f (a1 := 37) (a2 := 37) (j1 := 1) (j2 := 2) (by decide +kernel) (by first | decide | exact ⟨by decide, by decide⟩) (by first | decide | exact ⟨by decide, by decide⟩) (by first | decide | exact ⟨by decide, by decide⟩)
  have th8_3_2 : fld h8 3 2 = fld h 3 2 := Qh8.f (a1 := 3) (a2 := 3) (j1 := 2) (j2 := 3) (by decide +kernel) (by first | decide | exact ⟨by decide, by decide⟩) (by first | decide | exact ⟨by decide, by decide⟩) (by first | decide | exact ⟨by decide, by decide⟩)
  have th8_37_2 : fld h8 37 2 = fld h 37 2 := Qh8.f (a1 := 37) (a2 := 37) (j1 := 2) (j2 := 3) (by decide +kernel) (by first | decide | exact ⟨by decide, by decide⟩) (by first | decide | exact ⟨by decide, by decide⟩) (by first | decide | exact ⟨by decide, by decide⟩)
  have th8_1_0 : fld h8 1 0 = fld h 1 0 := Qh8.f (a1 := 1) (a2 := 1) (j1 := 0) (j2 := 1) (by decide +kernel) (by first | decide | exact ⟨by decide, by decide⟩) (by first | decide | exact ⟨by decide, by decide⟩) (by first | decide | exact ⟨by decide, by decide⟩)
  have th8_37_0 : fld h8 37 0 = fld h 37 0 := Qh8.f (a1 := 37) (a2 := 37) (j1 := 0) (j2 := 1) (by decide +kernel) (by first | decide | exact ⟨by decide, by decide⟩) (by first | decide | exact ⟨by decide, by decide⟩) (by first | decide | exact ⟨by decide, by decide⟩)
  have th8_27_0 : fld h8 27 0 = fld h 27 0 := Qh8.f (a1 := 27) (a2 := 27) (j1 := 0) (j2 := 1) (by decide +kernel) (by first | decide | exact ⟨by decide, by decide⟩) (by first | decide | exact ⟨by decide, by decide⟩) (by first | decide | exact ⟨by decide, by decide⟩)
  have th8_37_96 : fld h8 37 96 = fld h 37 96 := Qh8.f (a1 := 37) (a2 := 37) (j1 := 96) (j2 := 97) (by decide +kernel) (by first | decide | exact ⟨by decide, by decide⟩) (by first | decide | exact ⟨by decide, by decide⟩) (by first | decide | exact ⟨by decide, by decide⟩)
  have Ah8 : zAM h8 := A.sm (fun r hr => Qh8.same (by decide +kernel) hr)
  have Wh8 : zCW h8 := W.sm C.1 (fun r hr => Qh8.same (by decide +kernel) hr)
  have TT := Qh8
  have Eh8 : zE h8 := ⟨zQS.st (T := []) TT E.1 (by decide +kernel) zQS.nil, zNM.st (T := []) TT C E.2.1 (by decide +kernel) zNM.nil, zFL.st (T := []) TT C E.2.2.1 (by decide +kernel) zFL.nil, zZL.st (T := []) TT E.2.2.2.1 (by decide +kernel) zZL.nil, zRL.st (T := []) TT C E.2.2.2.2.1 (by decide +kernel) zRL.nil, E.2.2.2.2.2.kp TT (by decide +kernel) (by omega)⟩
  refine zwW_p [(15, 0, 0), (24, 1605, 0)] (q := 1605) (ls' := [(2, -1), (2, 1), (2, 37), (0, i)]) (st' := []) (by decide +kernel) rfl ?_
  exact k _ ⟨Ch8, Ah8, Wh8, Eh8, _, Xh8.le (by decide) (by decide)⟩
theorem zl_1516 {sc : List Int} {Q : Option Vl → Hp → Prop} (h : Hp) (C : CI h) (A : zAM h) (W : zCW h) (E : zE h) (hl : h.length ≤ 800000) (hin : ∀ x ∈ sc, in32 x) (i : Int) (hi : 0 ≤ i ∧ i + 6 ≤ sc.length) (hs : sc.length ≤ 3072) (k : ∀ g, zLJ h g → zwW sc 400 0 1605 [(2, -1), (2, 1), (2, 37), (0, i)] [] g Q) : zwW sc 400 0 1516 [(2, -1), (2, 1), (2, 37), (0, i)] [] h Q := by
  have X : zXR msxL 0 0 h h := zXR.rf _ _
  have E2_2 := zE_s2_2 E
  have E3_2 := zE_s3_2 E
  have E1_0 := zE_s1_0 E
  have E27_0 := zE_s27_0 E
  refine zwW_p [(1, 1, 2), (1, 0, 2), (1, 3, 0), (0, 1, 0)] (q := 1520) (ls' := [(2, -1), (2, 1), (2, 37), (0, i)]) (st' := [(0, 1), (0, i), (2, -1), (2, 1)]) (by decide +kernel) rfl ?_
  refine zwW_add (nx := 1521) (by decide +kernel) (by first | omega | exact ⟨by omega, by omega⟩) ?_
  refine zwW_sld (nx := 1522) (by decide +kernel) (by omega) (by omega) ?_
  obtain ⟨v1, ev1⟩ : ∃ z, z = sc.getD (i + 1).toNat 0 := ⟨_, rfl⟩
  rw [← ev1]
  have qv1 : -2147483648 ≤ v1 ∧ v1 ≤ 2147483647 := by rw [ev1]; exact zgetD hin _
  refine zwW_p [(1, 0, 2), (1, 3, 0), (0, 2, 0)] (q := 1525) (ls' := [(2, -1), (2, 1), (2, 37), (0, i)]) (st' := [(0, 2), (0, i), (2, -1), (0, v1), (2, 1)]) (by decide +kernel) rfl ?_
  refine zwW_add (nx := 1526) (by decide +kernel) (by first | omega | exact ⟨by omega, by omega⟩) ?_
  refine zwW_sld (nx := 1527) (by decide +kernel) (by omega) (by omega) ?_
  obtain ⟨v2, ev2⟩ : ∃ z, z = sc.getD (i + 2).toNat 0 := ⟨_, rfl⟩
  rw [← ev2]
  have qv2 : -2147483648 ≤ v2 ∧ v2 ≤ 2147483647 := by rw [ev2]; exact zgetD hin _
  refine zwW_cm C.1 (op := 60) (k' := 83) (n := 2) (kd := 12) (m := 13) (nx := 1530) (r := 1) (tl := [(0, v1), (0, v2)]) (st' := []) (by decide +kernel) rfl (by decide +kernel) rfl (x83 h C v1 v2 (by omega) (by omega)) ?_
  rintro v3 _ ⟨rfl, f4⟩
  refine zwW_p [(15, 0, 0), (1, 2, 2), (1, 0, 2), (1, 3, 0), (0, 1, 0)] (q := 1535) (ls' := [(2, -1), (2, 1), (2, 37), (0, i)]) (st' := [(0, 1), (0, i), (2, -1), (2, 37)]) (by decide +kernel) rfl ?_
  refine zwW_add (nx := 1536) (by decide +kernel) (by first | omega | exact ⟨by omega, by omega⟩) ?_
  refine zwW_sld (nx := 1537) (by decide +kernel) (by omega) (by omega) ?_
  rw [← ev1]
  refine zwW_p [(1, 0, 2), (1, 3, 0), (0, 2, 0)] (q := 1540) (ls' := [(2, -1), (2, 1), (2, 37), (0, i)]) (st' := [(0, 2), (0, i), (2, -1), (0, v1), (2, 37)]) (by decide +kernel) rfl ?_
  refine zwW_add (nx := 1541) (by decide +kernel) (by first | omega | exact ⟨by omega, by omega⟩) ?_
  refine zwW_sld (nx := 1542) (by decide +kernel) (by omega) (by omega) ?_
  rw [← ev2]
  refine zwW_cm C.1 (op := 60) (k' := 84) (n := 2) (kd := 13) (m := 97) (nx := 1545) (r := 37) (tl := [(0, v1), (0, v2)]) (st' := []) (by decide +kernel) rfl (by decide +kernel) rfl (m84 h C.1 v1 v2) ?_
  rintro v5 _ ⟨rfl, f6⟩
  refine zwW_p [(15, 0, 0), (24, 1605, 0)] (q := 1605) (ls' := [(2, -1), (2, 1), (2, 37), (0, i)]) (st' := []) (by decide +kernel) rfl ?_
  exact k _ ⟨C, A, W, E, _, X.le (by decide) (by decide)⟩
theorem zl_1549 {sc : List Int} {Q : Option Vl → Hp → Prop} (h : Hp) (C : CI h) (A : zAM h) (W : zCW h) (E : zE h) (hl : h.length ≤ 800000) (hin : ∀ x ∈ sc, in32 x) (i : Int) (hi : 0 ≤ i ∧ i + 6 ≤ sc.length) (hs : sc.length ≤ 3072) (k : ∀ g, zLJ h g → zwW sc 400 0 1605 [(2, -1), (2, 1), (2, 37), (0, i)] [] g Q) : zwW sc 400 0 1549 [(2, -1), (2, 1), (2, 37), (0, i)] [] h Q := by
  have X : zXR msxL 0 0 h h := zXR.rf _ _
  have E2_2 := zE_s2_2 E
  have E3_2 := zE_s3_2 E
  have E1_0 := zE_s1_0 E
  have E27_0 := zE_s27_0 E
  refine zwW_p [(1, 1, 2), (1, 0, 2), (1, 3, 0), (0, 1, 0)] (q := 1553) (ls' := [(2, -1), (2, 1), (2, 37), (0, i)]) (st' := [(0, 1), (0, i), (2, -1), (2, 1)]) (by decide +kernel) rfl ?_
  refine zwW_add (nx := 1554) (by decide +kernel) (by first | omega | exact ⟨by omega, by omega⟩) ?_
  refine zwW_sld (nx := 1555) (by decide +kernel) (by omega) (by omega) ?_
  obtain ⟨v1, ev1⟩ : ∃ z, z = sc.getD (i + 1).toNat 0 := ⟨_, rfl⟩
  rw [← ev1]
  have qv1 : -2147483648 ≤ v1 ∧ v1 ≤ 2147483647 := by rw [ev1]; exact zgetD hin _
  refine zwW_p [(1, 0, 2), (1, 3, 0), (0, 2, 0)] (q := 1558) (ls' := [(2, -1), (2, 1), (2, 37), (0, i)]) (st' := [(0, 2), (0, i), (2, -1), (0, v1), (2, 1)]) (by decide +kernel) rfl ?_
  refine zwW_add (nx := 1559) (by decide +kernel) (by first | omega | exact ⟨by omega, by omega⟩) ?_
  refine zwW_sld (nx := 1560) (by decide +kernel) (by omega) (by omega) ?_
  obtain ⟨v2, ev2⟩ : ∃ z, z = sc.getD (i + 2).toNat 0 := ⟨_, rfl⟩
  rw [← ev2]
  have qv2 : -2147483648 ≤ v2 ∧ v2 ≤ 2147483647 := by rw [ev2]; exact zgetD hin _
  refine zwW_cm C.1 (op := 60) (k' := 85) (n := 2) (kd := 12) (m := 13) (nx := 1563) (r := 1) (tl := [(0, v1), (0, v2)]) (st' := []) (by decide +kernel) rfl (by decide +kernel) rfl (x85 h C v1 v2 (by omega) (by omega)) ?_
  rintro v3 _ ⟨rfl, f4⟩
  refine zwW_p [(15, 0, 0), (1, 2, 2), (1, 0, 2), (1, 3, 0), (0, 1, 0)] (q := 1568) (ls' := [(2, -1), (2, 1), (2, 37), (0, i)]) (st' := [(0, 1), (0, i), (2, -1), (2, 37)]) (by decide +kernel) rfl ?_
  refine zwW_add (nx := 1569) (by decide +kernel) (by first | omega | exact ⟨by omega, by omega⟩) ?_
  refine zwW_sld (nx := 1570) (by decide +kernel) (by omega) (by omega) ?_
  rw [← ev1]
  refine zwW_p [(1, 0, 2), (1, 3, 0), (0, 2, 0)] (q := 1573) (ls' := [(2, -1), (2, 1), (2, 37), (0, i)]) (st' := [(0, 2), (0, i), (2, -1), (0, v1), (2, 37)]) (by decide +kernel) rfl ?_
  refine zwW_add (nx := 1574) (by decide +kernel) (by first | omega | exact ⟨by omega, by omega⟩) ?_
  refine zwW_sld (nx := 1575) (by decide +kernel) (by omega) (by omega) ?_
  rw [← ev2]
  refine zwW_cm C.1 (op := 60) (k' := 86) (n := 2) (kd := 13) (m := 97) (nx := 1578) (r := 37) (tl := [(0, v1), (0, v2)]) (st' := []) (by decide +kernel) rfl (by decide +kernel) rfl (m86 h C.1 v1 v2) ?_
  rintro v5 _ ⟨rfl, f6⟩
  refine zwW_p [(15, 0, 0), (24, 1605, 0)] (q := 1605) (ls' := [(2, -1), (2, 1), (2, 37), (0, i)]) (st' := []) (by decide +kernel) rfl ?_
  exact k _ ⟨C, A, W, E, _, X.le (by decide) (by decide)⟩
theorem zl_1582 {sc : List Int} {Q : Option Vl → Hp → Prop} (h : Hp) (C : CI h) (A : zAM h) (W : zCW h) (E : zE h) (hl : h.length ≤ 800000) (hin : ∀ x ∈ sc, in32 x) (i : Int) (hi : 0 ≤ i ∧ i + 6 ≤ sc.length) (hs : sc.length ≤ 3072) (k : ∀ g, zLJ h g → zwW sc 400 0 1605 [(2, -1), (2, 1), (2, 37), (0, i)] [] g Q) : zwW sc 400 0 1582 [(2, -1), (2, 1), (2, 37), (0, i)] [] h Q := by
  have X : zXR msxL 0 0 h h := zXR.rf _ _
  have E2_2 := zE_s2_2 E
  have E3_2 := zE_s3_2 E
  have E1_0 := zE_s1_0 E
  have E27_0 := zE_s27_0 E
  refine zwW_p [(1, 1, 2), (1, 0, 2), (1, 3, 0), (0, 1, 0)] (q := 1586) (ls' := [(2, -1), (2, 1), (2, 37), (0, i)]) (st' := [(0, 1), (0, i), (2, -1), (2, 1)]) (by decide +kernel) rfl ?_
  refine zwW_add (nx := 1587) (by decide +kernel) (by first | omega | exact ⟨by omega, by omega⟩) ?_
  refine zwW_sld (nx := 1588) (by decide +kernel) (by omega) (by omega) ?_
  obtain ⟨v1, ev1⟩ : ∃ z, z = sc.getD (i + 1).toNat 0 := ⟨_, rfl⟩
  rw [← ev1]
  have qv1 : -2147483648 ≤ v1 ∧ v1 ≤ 2147483647 := by rw [ev1]; exact zgetD hin _
  refine zwW_cm C.1 (op := 60) (k' := 87) (n := 1) (kd := 12) (m := 13) (nx := 1591) (r := 1) (tl := [(0, v1)]) (st' := []) (by decide +kernel) rfl (by decide +kernel) rfl (x87 h C v1 (by omega)) ?_
  rintro v2 _ ⟨rfl, f3⟩
  refine zwW_p [(15, 0, 0), (1, 2, 2), (1, 0, 2), (1, 3, 0), (0, 1, 0)] (q := 1596) (ls' := [(2, -1), (2, 1), (2, 37), (0, i)]) (st' := [(0, 1), (0, i), (2, -1), (2, 37)]) (by decide +kernel) rfl ?_
  refine zwW_add (nx := 1597) (by decide +kernel) (by first | omega | exact ⟨by omega, by omega⟩) ?_
  refine zwW_sld (nx := 1598) (by decide +kernel) (by omega) (by omega) ?_
  rw [← ev1]
  refine zwW_cm C.1 (op := 60) (k' := 88) (n := 1) (kd := 13) (m := 97) (nx := 1601) (r := 37) (tl := [(0, v1)]) (st' := []) (by decide +kernel) rfl (by decide +kernel) rfl (m88 h C.1 v1) ?_
  rintro v4 _ ⟨rfl, f5⟩
  refine zwW_p [(15, 0, 0), (24, 1605, 0)] (q := 1605) (ls' := [(2, -1), (2, 1), (2, 37), (0, i)]) (st' := []) (by decide +kernel) rfl ?_
  exact k _ ⟨C, A, W, E, _, X.le (by decide) (by decide)⟩
