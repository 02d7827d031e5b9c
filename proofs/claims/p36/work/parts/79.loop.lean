/-! the law's loop -/
theorem zl_loop {sc : List Int} (hs : sc.length ≤ 3072) (hin : ∀ x ∈ sc, in32 x) : ∀ (n : Nat) (j : Int) (h : Hp), n = (1000 - j).toNat → 0 ≤ j → 6 * j ≤ sc.length → CI h → zAM h → zCW h → zE h → (h.length : Int) - (2 * fld h 4 2 + fld h 21 2) ≤ 400 + 7 * j → (sz h : Int) - (1007 * fld h 4 2 + 1000 * fld h 21 2) ≤ 3000000 + 7000 * j → zwW sc 400 0 18 [(2, -1), (2, 1), (2, 37), (0, 6 * j)] [] h (zwRt 0 (fun x g => x = 1 ∧ g.length ≤ 600000 ∧ sz g ≤ 7302250)) := by
  intro n
  induction n using Nat.strongRecOn with
  | ind n IH =>
    intro j h hn hj hj2 C A W E g1 g2
    have b1 := zLb_4 C
    have b2 := zLb_21 C
    refine zwW_p [(1, 3, 0), (1, 0, 2)] (q := 20) (ls' := [(2, -1), (2, 1), (2, 37), (0, 6 * j)]) (st' := [(2, -1), (0, 6 * j)]) (by decide +kernel) rfl ?_
    refine zwW_slen (nx := 21) (by decide +kernel) ?_
    refine zwW_p [(0, 6, 0)] (q := 23) (ls' := [(2, -1), (2, 1), (2, 37), (0, 6 * j)]) (st' := [(0, 6), (0, (sc.length : Int)), (0, 6 * j)]) (by decide +kernel) rfl ?_
    refine zwW_sub (nx := 24) (by decide +kernel) (by first | omega | exact ⟨by omega, by omega⟩) ?_
    refine zwic_gt (q := 1611) (nx := 27) (by decide +kernel) (fun c => ?_) (fun c => ?_)
    · refine zwW_p [(0, 1, 0)] (q := 1612) (ls' := [(2, -1), (2, 1), (2, 37), (0, 6 * j)]) (st' := [(0, 1)]) (by decide +kernel) rfl ?_
      exact zwW_ret (nx := 1613) (a := 1) (b := 0) (by decide +kernel) rfl (Or.inr (Or.inl ⟨rfl, Or.inr rfl⟩)) ⟨rfl, by omega, by omega⟩
    · have K : ∀ g, zLJ h g → zwW sc 400 0 1605 [(2, -1), (2, 1), (2, 37), (0, 6 * j)] [] g (zwRt 0 (fun x g => x = 1 ∧ g.length ≤ 600000 ∧ sz g ≤ 7302250)) := by
        rintro g ⟨Cg, Ag, Wg, Eg, ms, X⟩
        have x1 := X.2.2.2.2.1
        have x2 := X.2.2.2.2.2.1
        refine zwW_inc (i := 3) (c := 6) (x := 6 * j) (nx := 1608) (by decide +kernel) rfl (by first | omega | exact ⟨by omega, by omega⟩) (ls' := [(2, -1), (2, 1), (2, 37), (0, 6 * j + 6)]) rfl ?_
        refine zwW_p [(24, 18, 0)] (q := 18) (ls' := [(2, -1), (2, 1), (2, 37), (0, 6 * j + 6)]) (st' := []) (by decide +kernel) rfl ?_
        rw [show 6 * j + 6 = 6 * (j + 1) by omega]
        exact IH (1000 - (j + 1)).toNat (by omega) (j + 1) g rfl (by omega) (by omega) Cg Ag Wg Eg (by omega) (by omega)
      refine zwW_p [(1, 0, 2), (1, 3, 0)] (q := 29) (ls' := [(2, -1), (2, 1), (2, 37), (0, 6 * j)]) (st' := [(0, 6 * j), (2, -1)]) (by decide +kernel) rfl ?_
      refine zwW_sld (nx := 30) (by decide +kernel) (by omega) (by omega) ?_
      refine zwW_p [(0, 63, 0)] (q := 32) (ls' := [(2, -1), (2, 1), (2, 37), (0, 6 * j)]) (st' := [(0, 63), (0, sc.getD (6 * j).toNat 0)]) (by decide +kernel) rfl ?_
      refine zwW_ib (a := 5) (nx := 33) (by decide +kernel) rfl ?_
      refine zwW_sw (d := 1605) (os := [0, 220, 1, 263, 2, 306, 3, 339, 4, 372, 5, 415, 6, 448, 7, 481, 8, 514, 9, 537, 10, 570, 11, 633, 12, 656, 13, 669, 14, 682, 15, 715, 16, 748, 17, 791, 18, 824, 19, 867, 20, 910, 21, 943, 22, 966, 23, 979, 24, 1012, 25, 1045, 26, 1078, 27, 1111, 28, 1144, 29, 1177, 30, 1200, 31, 1233, 32, 1282, 33, 1295, 34, 1338, 35, 1351, 36, 1384, 37, 1407, 38, 1440, 39, 1473, 40, 1516, 41, 1549, 42, 1582]) (by decide +kernel) ?_
      refine ⟨fun _ => ?_, fun _ => ?_⟩
      · show zwW _ _ _ 220 _ _ _ _
        exact zl_220 h C A W E (by omega) hin (6 * j) (by first | omega | exact ⟨by omega, by omega⟩) hs K
      refine ⟨fun _ => ?_, fun _ => ?_⟩
      · show zwW _ _ _ 263 _ _ _ _
        exact zl_263 h C A W E (by omega) hin (6 * j) (by first | omega | exact ⟨by omega, by omega⟩) hs K
      refine ⟨fun _ => ?_, fun _ => ?_⟩
      · show zwW _ _ _ 306 _ _ _ _
        exact zl_306 h C A W E (by omega) hin (6 * j) (by first | omega | exact ⟨by omega, by omega⟩) hs K
      refine ⟨fun _ => ?_, fun _ => ?_⟩
      · show zwW _ _ _ 339 _ _ _ _
        exact zl_339 h C A W E (by omega) hin (6 * j) (by first | omega | exact ⟨by omega, by omega⟩) hs K
      refine ⟨fun _ => ?_, fun _ => ?_⟩
      · show zwW _ _ _ 372 _ _ _ _
        exact zl_372 h C A W E (by omega) hin (6 * j) (by first | omega | exact ⟨by omega, by omega⟩) hs K
      refine ⟨fun _ => ?_, fun _ => ?_⟩
      · show zwW _ _ _ 415 _ _ _ _
        exact zl_415 h C A W E (by omega) hin (6 * j) (by first | omega | exact ⟨by omega, by omega⟩) hs K
      refine ⟨fun _ => ?_, fun _ => ?_⟩
      · show zwW _ _ _ 448 _ _ _ _
        exact zl_448 h C A W E (by omega) hin (6 * j) (by first | omega | exact ⟨by omega, by omega⟩) hs K
      refine ⟨fun _ => ?_, fun _ => ?_⟩
      · show zwW _ _ _ 481 _ _ _ _
        exact zl_481 h C A W E (by omega) hin (6 * j) (by first | omega | exact ⟨by omega, by omega⟩) hs K
      refine ⟨fun _ => ?_, fun _ => ?_⟩
      · show zwW _ _ _ 514 _ _ _ _
        exact zl_514 h C A W E (by omega) hin (6 * j) (by first | omega | exact ⟨by omega, by omega⟩) hs K
      refine ⟨fun _ => ?_, fun _ => ?_⟩
      · show zwW _ _ _ 537 _ _ _ _
        exact zl_537 h C A W E (by omega) hin (6 * j) (by first | omega | exact ⟨by omega, by omega⟩) hs K
      refine ⟨fun _ => ?_, fun _ => ?_⟩
      · show zwW _ _ _ 570 _ _ _ _
        exact zl_570 h C A W E (by omega) hin (6 * j) (by first | omega | exact ⟨by omega, by omega⟩) hs K
      refine ⟨fun _ => ?_, fun _ => ?_⟩
      · show zwW _ _ _ 633 _ _ _ _
        exact zl_633 h C A W E (by omega) hin (6 * j) (by first | omega | exact ⟨by omega, by omega⟩) hs K
      refine ⟨fun _ => ?_, fun _ => ?_⟩
      · show zwW _ _ _ 656 _ _ _ _
        exact zl_656 h C A W E (by omega) hin (6 * j) (by first | omega | exact ⟨by omega, by omega⟩) hs K
      refine ⟨fun _ => ?_, fun _ => ?_⟩
      · show zwW _ _ _ 669 _ _ _ _
        exact zl_669 h C A W E (by omega) hin (6 * j) (by first | omega | exact ⟨by omega, by omega⟩) hs K
      refine ⟨fun _ => ?_, fun _ => ?_⟩
      · show zwW _ _ _ 682 _ _ _ _
        exact zl_682 h C A W E (by omega) hin (6 * j) (by first | omega | exact ⟨by omega, by omega⟩) hs K
      refine ⟨fun _ => ?_, fun _ => ?_⟩
      · show zwW _ _ _ 715 _ _ _ _
        exact zl_715 h C A W E (by omega) hin (6 * j) (by first | omega | exact ⟨by omega, by omega⟩) hs K
      refine ⟨fun _ => ?_, fun _ => ?_⟩
      · show zwW _ _ _ 748 _ _ _ _
        exact zl_748 h C A W E (by omega) hin (6 * j) (by first | omega | exact ⟨by omega, by omega⟩) hs K
      refine ⟨fun _ => ?_, fun _ => ?_⟩
      · show zwW _ _ _ 791 _ _ _ _
        exact zl_791 h C A W E (by omega) hin (6 * j) (by first | omega | exact ⟨by omega, by omega⟩) hs K
      refine ⟨fun _ => ?_, fun _ => ?_⟩
      · show zwW _ _ _ 824 _ _ _ _
        exact zl_824 h C A W E (by omega) hin (6 * j) (by first | omega | exact ⟨by omega, by omega⟩) hs K
      refine ⟨fun _ => ?_, fun _ => ?_⟩
      · show zwW _ _ _ 867 _ _ _ _
        exact zl_867 h C A W E (by omega) hin (6 * j) (by first | omega | exact ⟨by omega, by omega⟩) hs K
      refine ⟨fun _ => ?_, fun _ => ?_⟩
      · show zwW _ _ _ 910 _ _ _ _
        exact zl_910 h C A W E (by omega) hin (6 * j) (by first | omega | exact ⟨by omega, by omega⟩) hs K
      refine ⟨fun _ => ?_, fun _ => ?_⟩
      · show zwW _ _ _ 943 _ _ _ _
        exact zl_943 h C A W E (by omega) hin (6 * j) (by first | omega | exact ⟨by omega, by omega⟩) hs K
      refine ⟨fun _ => ?_, fun _ => ?_⟩
      · show zwW _ _ _ 966 _ _ _ _
        exact zl_966 h C A W E (by omega) hin (6 * j) (by first | omega | exact ⟨by omega, by omega⟩) hs K
      refine ⟨fun _ => ?_, fun _ => ?_⟩
      · show zwW _ _ _ 979 _ _ _ _
        exact zl_979 h C A W E (by omega) hin (6 * j) (by first | omega | exact ⟨by omega, by omega⟩) hs K
      refine ⟨fun _ => ?_, fun _ => ?_⟩
      · show zwW _ _ _ 1012 _ _ _ _
        exact zl_1012 h C A W E (by omega) hin (6 * j) (by first | omega | exact ⟨by omega, by omega⟩) hs K
      refine ⟨fun _ => ?_, fun _ => ?_⟩
      · show zwW _ _ _ 1045 _ _ _ _
        exact zl_1045 h C A W E (by omega) hin (6 * j) (by first | omega | exact ⟨by omega, by omega⟩) hs K
      refine ⟨fun _ => ?_, fun _ => ?_⟩
      · show zwW _ _ _ 1078 _ _ _ _
        exact zl_1078 h C A W E (by omega) hin (6 * j) (by first | omega | exact ⟨by omega, by omega⟩) hs K
      refine ⟨fun _ => ?_, fun _ => ?_⟩
      · show zwW _ _ _ 1111 _ _ _ _
        exact zl_1111 h C A W E (by omega) hin (6 * j) (by first | omega | exact ⟨by omega, by omega⟩) hs K
      refine ⟨fun _ => ?_, fun _ => ?_⟩
      · show zwW _ _ _ 1144 _ _ _ _
        exact zl_1144 h C A W E (by omega) hin (6 * j) (by first | omega | exact ⟨by omega, by omega⟩) hs K
      refine ⟨fun _ => ?_, fun _ => ?_⟩
      · show zwW _ _ _ 1177 _ _ _ _
        exact zl_1177 h C A W E (by omega) hin (6 * j) (by first | omega | exact ⟨by omega, by omega⟩) hs K
      refine ⟨fun _ => ?_, fun _ => ?_⟩
      · show zwW _ _ _ 1200 _ _ _ _
        exact zl_1200 h C A W E (by omega) hin (6 * j) (by first | omega | exact ⟨by omega, by omega⟩) hs K
      refine ⟨fun _ => ?_, fun _ => ?_⟩
      · show zwW _ _ _ 1233 _ _ _ _
        exact zl_1233 h C A W E (by omega) hin (6 * j) (by first | omega | exact ⟨by omega, by omega⟩) hs K
      refine ⟨fun _ => ?_, fun _ => ?_⟩
      · show zwW _ _ _ 1282 _ _ _ _
        exact zl_1282 h C A W E (by omega) hin (6 * j) (by first | omega | exact ⟨by omega, by omega⟩) hs K
      refine ⟨fun _ => ?_, fun _ => ?_⟩
      · show zwW _ _ _ 1295 _ _ _ _
        exact zl_1295 h C A W E (by omega) hin (6 * j) (by first | omega | exact ⟨by omega, by omega⟩) hs K
      refine ⟨fun _ => ?_, fun _ => ?_⟩
      · show zwW _ _ _ 1338 _ _ _ _
        exact zl_1338 h C A W E (by omega) hin (6 * j) (by first | omega | exact ⟨by omega, by omega⟩) hs K
      refine ⟨fun _ => ?_, fun _ => ?_⟩
      · show zwW _ _ _ 1351 _ _ _ _
        exact zl_1351 h C A W E (by omega) hin (6 * j) (by first | omega | exact ⟨by omega, by omega⟩) hs K
      refine ⟨fun _ => ?_, fun _ => ?_⟩
      · show zwW _ _ _ 1384 _ _ _ _
        exact zl_1384 h C A W E (by omega) hin (6 * j) (by first | omega | exact ⟨by omega, by omega⟩) hs K
      refine ⟨fun _ => ?_, fun _ => ?_⟩
      · show zwW _ _ _ 1407 _ _ _ _
        exact zl_1407 h C A W E (by omega) hin (6 * j) (by first | omega | exact ⟨by omega, by omega⟩) hs K
      refine ⟨fun _ => ?_, fun _ => ?_⟩
      · show zwW _ _ _ 1440 _ _ _ _
        exact zl_1440 h C A W E (by omega) hin (6 * j) (by first | omega | exact ⟨by omega, by omega⟩) hs K
      refine ⟨fun _ => ?_, fun _ => ?_⟩
      · show zwW _ _ _ 1473 _ _ _ _
        exact zl_1473 h C A W E (by omega) hin (6 * j) (by first | omega | exact ⟨by omega, by omega⟩) hs K
      refine ⟨fun _ => ?_, fun _ => ?_⟩
      · show zwW _ _ _ 1516 _ _ _ _
        exact zl_1516 h C A W E (by omega) hin (6 * j) (by first | omega | exact ⟨by omega, by omega⟩) hs K
      refine ⟨fun _ => ?_, fun _ => ?_⟩
      · show zwW _ _ _ 1549 _ _ _ _
        exact zl_1549 h C A W E (by omega) hin (6 * j) (by first | omega | exact ⟨by omega, by omega⟩) hs K
      refine ⟨fun _ => ?_, fun _ => ?_⟩
      · show zwW _ _ _ 1582 _ _ _ _
        exact zl_1582 h C A W E (by omega) hin (6 * j) (by first | omega | exact ⟨by omega, by omega⟩) hs K
      show zwW _ _ _ 1605 _ _ _ _
      exact K h ⟨C, A, W, E, [], (zXR.rf [] h).le (by decide) (by decide)⟩
