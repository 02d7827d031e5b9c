/-! the lists one by one -/
section ZQ
variable {sc : List Int} {h : Hp}
theorem kept24 {r : Int} (G : gS h r) : kept h 24 (2, r) = some r := by
  obtain ⟨l, hc, -⟩ := sh_cel G.2.1
  unfold kept
  rw [if_neg (by decide), if_neg (by decide), if_neg (by decide), if_neg (by decide), if_pos rfl, if_pos rfl, hc]
  rfl
theorem zLb_2 (C : CI h) : 0 ≤ fld h 2 2 ∧ fld h 2 2 ≤ 8 := zLis_b C (A := 2) (by decide)
theorem x96_2 (C : CI h) : zwC sc 1 96 [(2, 2)] h (zwRt 0 (fun x g => h = g ∧ x = fld h 2 2)) := x96 C (A := 2) (by decide)
theorem x123_2 (C : CI h) {i : Int} (hi : 0 ≤ i ∧ i < fld h 2 2) : zwC sc 4 123 [(2, 2), (0, i)] h (zwRt 2 (fun x g => h = g ∧ gV h x ∧ x = fld h (fld h 2 1) i.toNat)) := x123 C (A := 2) (by decide) hi
theorem x100_2 (C : CI h) {r : Int} (G : gV h r) (hm : fld h 2 2 < 8) (hl : h.length ≤ 2000000000) : zwC sc 6 100 [(2, 2), (2, r)] h (zwRt 0 (fun x g => x = 1 ∧ zAdded h 2 r g)) := x100 C (A := 2) (by decide) G hm hl
theorem zLb_3 (C : CI h) : 0 ≤ fld h 3 2 ∧ fld h 3 2 ≤ 20 := zLis_b C (A := 3) (by decide)
theorem x96_3 (C : CI h) : zwC sc 1 96 [(2, 3)] h (zwRt 0 (fun x g => h = g ∧ x = fld h 3 2)) := x96 C (A := 3) (by decide)
theorem x123_3 (C : CI h) {i : Int} (hi : 0 ≤ i ∧ i < fld h 3 2) : zwC sc 4 123 [(2, 3), (0, i)] h (zwRt 2 (fun x g => h = g ∧ gH h x ∧ x = fld h (fld h 3 1) i.toNat)) := x123 C (A := 3) (by decide) hi
theorem x100_3 (C : CI h) {r : Int} (G : gH h r) (hm : fld h 3 2 < 20) (hl : h.length ≤ 2000000000) : zwC sc 6 100 [(2, 3), (2, r)] h (zwRt 0 (fun x g => x = 1 ∧ zAdded h 3 r g)) := x100 C (A := 3) (by decide) G hm hl
theorem zLb_4 (C : CI h) : 0 ≤ fld h 4 2 ∧ fld h 4 2 ≤ 300 := zLis_b C (A := 4) (by decide)
theorem x96_4 (C : CI h) : zwC sc 1 96 [(2, 4)] h (zwRt 0 (fun x g => h = g ∧ x = fld h 4 2)) := x96 C (A := 4) (by decide)
theorem x123_4 (C : CI h) {i : Int} (hi : 0 ≤ i ∧ i < fld h 4 2) : zwC sc 4 123 [(2, 4), (0, i)] h (zwRt 2 (fun x g => h = g ∧ gL h x ∧ x = fld h (fld h 4 1) i.toNat)) := x123 C (A := 4) (by decide) hi
theorem x100_4 (C : CI h) {r : Int} (G : gL h r) (hm : fld h 4 2 < 300) (hl : h.length ≤ 2000000000) : zwC sc 6 100 [(2, 4), (2, r)] h (zwRt 0 (fun x g => x = 1 ∧ zAdded h 4 r g)) := x100 C (A := 4) (by decide) G hm hl
theorem zLb_5 (C : CI h) : 0 ≤ fld h 5 2 ∧ fld h 5 2 ≤ 200 := zLis_b C (A := 5) (by decide)
theorem x96_5 (C : CI h) : zwC sc 1 96 [(2, 5)] h (zwRt 0 (fun x g => h = g ∧ x = fld h 5 2)) := x96 C (A := 5) (by decide)
theorem x123_5 (C : CI h) {i : Int} (hi : 0 ≤ i ∧ i < fld h 5 2) : zwC sc 4 123 [(2, 5), (0, i)] h (zwRt 2 (fun x g => h = g ∧ gC h x ∧ x = fld h (fld h 5 1) i.toNat)) := x123 C (A := 5) (by decide) hi
theorem x100_5 (C : CI h) {r : Int} (G : gC h r) (hm : fld h 5 2 < 200) (hl : h.length ≤ 2000000000) : zwC sc 6 100 [(2, 5), (2, r)] h (zwRt 0 (fun x g => x = 1 ∧ zAdded h 5 r g)) := x100 C (A := 5) (by decide) G hm hl
theorem zLb_14 (C : CI h) : 0 ≤ fld h 14 2 ∧ fld h 14 2 ≤ 8 := zLis_b C (A := 14) (by decide)
theorem x96_14 (C : CI h) : zwC sc 1 96 [(2, 14)] h (zwRt 0 (fun x g => h = g ∧ x = fld h 14 2)) := x96 C (A := 14) (by decide)
theorem x123_14 (C : CI h) {i : Int} (hi : 0 ≤ i ∧ i < fld h 14 2) : zwC sc 4 123 [(2, 14), (0, i)] h (zwRt 2 (fun x g => h = g ∧ gS h x ∧ x = fld h (fld h 14 1) i.toNat)) := x123 C (A := 14) (by decide) hi
theorem x100_14 (C : CI h) {r : Int} (G : gS h r) (hm : fld h 14 2 < 8) (hl : h.length ≤ 2000000000) : zwC sc 6 100 [(2, 14), (2, r)] h (zwRt 0 (fun x g => x = 1 ∧ zAdded h 14 r g)) := x100 C (A := 14) (by decide) G hm hl
theorem zLb_20 (C : CI h) : 0 ≤ fld h 20 2 ∧ fld h 20 2 ≤ 6 := zLis_b C (A := 20) (by decide)
theorem x96_20 (C : CI h) : zwC sc 1 96 [(2, 20)] h (zwRt 0 (fun x g => h = g ∧ x = fld h 20 2)) := x96 C (A := 20) (by decide)
theorem x123_20 (C : CI h) {i : Int} (hi : 0 ≤ i ∧ i < fld h 20 2) : zwC sc 4 123 [(2, 20), (0, i)] h (zwRt 2 (fun x g => h = g ∧ gL h x ∧ x = fld h (fld h 20 1) i.toNat)) := x123 C (A := 20) (by decide) hi
theorem x100_20 (C : CI h) {r : Int} (G : gL h r) (hm : fld h 20 2 < 6) (hl : h.length ≤ 2000000000) : zwC sc 6 100 [(2, 20), (2, r)] h (zwRt 0 (fun x g => x = 1 ∧ zAdded h 20 r g)) := x100 C (A := 20) (by decide) G hm hl
theorem x141_20 (C : CI h) : zwC sc 1 141 [(2, 20)] h (zwRv (zClr h 20)) := x141 C (A := 20) (by decide) (by decide)
theorem zLb_21 (C : CI h) : 0 ≤ fld h 21 2 ∧ fld h 21 2 ≤ 6 := zLis_b C (A := 21) (by decide)
theorem x96_21 (C : CI h) : zwC sc 1 96 [(2, 21)] h (zwRt 0 (fun x g => h = g ∧ x = fld h 21 2)) := x96 C (A := 21) (by decide)
theorem x123_21 (C : CI h) {i : Int} (hi : 0 ≤ i ∧ i < fld h 21 2) : zwC sc 4 123 [(2, 21), (0, i)] h (zwRt 2 (fun x g => h = g ∧ gH h x ∧ x = fld h (fld h 21 1) i.toNat)) := x123 C (A := 21) (by decide) hi
theorem x100_21 (C : CI h) {r : Int} (G : gH h r) (hm : fld h 21 2 < 6) (hl : h.length ≤ 2000000000) : zwC sc 6 100 [(2, 21), (2, r)] h (zwRt 0 (fun x g => x = 1 ∧ zAdded h 21 r g)) := x100 C (A := 21) (by decide) G hm hl
theorem x141_21 (C : CI h) : zwC sc 1 141 [(2, 21)] h (zwRv (zClr h 21)) := x141 C (A := 21) (by decide) (by decide)
end ZQ
