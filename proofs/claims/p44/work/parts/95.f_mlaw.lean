/-! the law answers 1 for every script -/
set_option maxRecDepth 100000 in
theorem zbK_2 : zbK ukE = true := by decide +kernel
set_option maxRecDepth 100000 in
theorem zbK_3 : zbK wkD = true := by decide +kernel
noncomputable def zbG : Bool := match bx 1500 9 1 0 [(2, 1)] [] [(12, List.replicate 13 0)] with
  | some (_, h1) => Nat.beq h1.length 36
  | none => false
set_option maxRecDepth 100000 in
theorem zbK_g : zbG = true := by decide +kernel
theorem zwW_upD {sc : List Int} {D D' y pc : Nat} {ls st : List Vl} {h : Hp} {Q : Option Vl → Hp → Prop} (hD : D' ≤ D) (W : zwW sc D' y pc ls st h Q) : zwW sc D y pc ls st h Q := by
  obtain ⟨n, r, h', hx, hq⟩ := W
  refine ⟨n, r, h', zw_mono (fun y as hp r h hx => ?_) _ _ _ _ _ _ _ hx, hq⟩
  have := zw_up hx (D - D')
  rwa [show D' + (D - D') = D by omega] at this
theorem ulaw0 {sc : List Int} (hl : sc.length ≤ 3072) (hin : ∀ x ∈ sc, in32 x) : zwW sc 400 0 0 [(2, -1), (9, 0), (9, 0), (9, 0)] [] [] (zwRt 0 (fun x g => x = 1 ∧ g.length ≤ 600000 ∧ sz g ≤ 7302250)) := by
  have e := zbK_A
  unfold zbK at e
  split at e
  · rename_i h1 k1
    split at e
    · rename_i h2 k2
      obtain ⟨C, A, W, _, g1, g2⟩ := zkA_ok e
      have E : uF h2 := by
        have w := zbK_2
        unfold zbK at w
        rw [k1] at w
        dsimp only at w
        rw [k2] at w
        have w3 := zbK_3
        unfold zbK at w3
        rw [k1] at w3
        dsimp only at w3
        rw [k2] at w3
        exact ⟨ukE_ok w, wkD_ok w3⟩
      refine zwW_new (kd := 12) (n := 13) (nx := 3) (by decide +kernel) rfl rfl ?_
      rintro _ _ rfl rfl
      refine zwW_p [(12, 0, 0)] (q := 4) (ls' := [(2, -1), (9, 0), (9, 0), (9, 0)]) (st' := [(2, 1), (2, 1)]) (by decide +kernel) rfl ?_
      obtain ⟨a1, a2, a3⟩ := zkCall_of (y := 0) (pc := 4) (nx := 7) (op := 62) (k := 1) (n := 0) (by decide +kernel)
      refine zwW_c1 (as := [(2, 1)]) (st' := [(2, 1)]) a1 a2 a3 rfl ?_ (zwC_of (D := 9) 1 (by decide +kernel) rfl (ls := [(2, 1)]) rfl (bx_ok 1500 9 1 0 [(2, 1)] [] _ _ _ k1 9 (Nat.le_refl _))) (by decide) ?_
      · rw [show mK 1 = 12 by decide +kernel]
        exact rcv_sh (n := 13) rfl
      rintro r g ⟨rfl, rfl⟩
      refine zwW_p [(2, 1, 2)] (q := 8) (ls' := [(2, -1), (2, 1), (9, 0), (9, 0)]) (st' := []) (by decide +kernel) rfl ?_
      refine zwW_new (kd := 13) (n := 97) (nx := 11) (by decide +kernel) rfl rfl ?_
      rintro _ _ rfl rfl
      refine zwW_p [(12, 0, 0)] (q := 12) (ls' := [(2, -1), (2, 1), (9, 0), (9, 0)]) (st' := [(2, ((g.length + 1 : Nat) : Int)), (2, ((g.length + 1 : Nat) : Int))]) (by decide +kernel) rfl ?_
      obtain ⟨b1, b2, b3⟩ := zkCall_of (y := 0) (pc := 12) (nx := 15) (op := 62) (k := 2) (n := 0) (by decide +kernel)
      refine zwW_c1 (as := [(2, ((g.length + 1 : Nat) : Int))]) (st' := [(2, ((g.length + 1 : Nat) : Int))]) b1 b2 b3 rfl ?_ (zwC_of (D := 9) 1 (by decide +kernel) rfl (ls := [(2, ((g.length + 1 : Nat) : Int))]) rfl (bx_ok 1500 9 2 0 _ [] _ _ _ k2 9 (Nat.le_refl _))) (by decide) ?_
      · rw [show mK 2 = 13 by decide +kernel]
        exact rcv_sh (sh_new _ _)
      rintro r h ⟨rfl, rfl⟩
      have hg : ((g.length + 1 : Nat) : Int) = 37 := by
        have := zbK_g
        unfold zbG at this
        rw [k1] at this
        have := Nat.eq_of_beq_eq_true this
        omega
      rw [hg]
      refine zwW_p [(2, 2, 2), (0, 0, 0), (2, 3, 0)] (q := 18) (ls' := [(2, -1), (2, 1), (2, 37), (0, 0)]) (st' := []) (by decide +kernel) rfl ?_
      exact ul_loop hl hin _ 0 h rfl (by decide) (by omega) C A W E (by omega) (by omega)
    · cases e
  · cases e
theorem MLaw_ok : MLaw := by
  intro sc hl hin
  obtain ⟨n, r, h, hx, x, rfl, rfl, h1, h2⟩ := zwW_upD (D := 1000) (by decide) (ulaw0 hl hin)
  exact ⟨n, h, hx, h1, h2⟩
