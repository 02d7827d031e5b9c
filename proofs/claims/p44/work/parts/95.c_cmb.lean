/-! two contracts of a call as one: all tables -/
theorem x3_d {sc : List Int} (h : Hp) (C : CI h) (a b c : Int) (q_a : -2147483648 ≤ a ∧ a ≤ 2147483647) (q_b : -2147483648 ≤ b ∧ b ≤ 2147483647) (q_c : -2147483648 ≤ c ∧ c ≤ 2147483647) (J : yR h) (PD : zPd h) (hl : h.length ≤ 999930000) : zwC sc (max 7 7) 3 [(2, 1), (0, a), (0, b), (0, c)] h (zwRt 0 (fun x g => CI g ∧ zXR msx3 (3) (1174) h g ∧ (-2147483648 ≤ x ∧ x ≤ 2147483647) ∧ (zPd g) ∧ (x = yVilA (yC h) a b c) ∧ (yC g = yVilF (yC h) a b c) ∧ (yR g) ∧ (((x = fld h 2 2) ∧ (x < 8) ∧ (fld g 2 2 = fld h 2 2 + 1) ∧ (0 ≤ a ∧ a / 1000000 ≤ 40 ∧ a / 10000 % 100 ≤ 40 ∧ a / 100 % 100 ≤ 40 ∧ a % 100 ≤ 40 ∧ 1 ≤ b ∧ b ≤ 9 ∧ 0 ≤ c ∧ c ≤ 9999) ∧ (∃ q : Int, (365 < q ∧ sh g q = some (20, 157) ∧ ∀ j : Nat, j < 157 → fld g q j = 10) ∧ (∃ rr : Int, (365 < rr ∧ gV g rr) ∧ (∀ i : Nat, (i : Int) < fld h 2 2 → fld g (fld g 2 1) i = fld h (fld h 2 1) i) ∧ fld g (fld g 2 1) (fld h 2 2).toNat = rr ∧ (∀ j : Nat, fld g rr j = ([fld h 2 2, a, b, c, 0, 0, 0, 0, 20, 10, 0, 0, 0, 0, 0, 0, q] : List Int).getD j 0)))) ∨ ((x = -1) ∧ (g = h) ∧ (8 ≤ fld h 2 2 ∨ a < 0 ∨ 40 < a / 1000000 ∨ 40 < a / 10000 % 100 ∨ 40 < a / 100 % 100 ∨ 40 < a % 100 ∨ b < 1 ∨ 9 < b ∨ c < 0 ∨ 9999 < c))))) := by
  refine zwC_to (zwC_an2 (x3 h C a b c q_a q_b q_c (by omega)) (x3_z h C a b c q_a q_b q_c J PD (by omega))) ?_
  rintro r g ⟨x, e, ⟨Ca, Ra, a0, a1⟩, ⟨_, _, _, b1, b2, b3, b4⟩⟩
  exact ⟨x, e, Ca, Ra, a0, b1, b2, b3, b4, a1⟩
theorem m4_d {sc : List Int} (h : Hp) (I : zI h) (a b c : Int) (q_a : -2147483648 ≤ a ∧ a ≤ 2147483647) : zwC sc (max 2 2) 4 [(2, 37), (0, a), (0, b), (0, c)] h (zwRt 0 (fun x g => zI g ∧ zMR ms4 h g ∧ (-2147483648 ≤ x ∧ x ≤ 2147483647) ∧ (x = yVilA (yM h) a b c) ∧ (yM g = yVilF (yM h) a b c) ∧ (((x = fld h 37 1) ∧ (x < 8) ∧ (fld g 37 1 = fld h 37 1 + 1) ∧ (0 ≤ a ∧ a / 1000000 ≤ 40 ∧ a / 10000 % 100 ≤ 40 ∧ a / 100 % 100 ≤ 40 ∧ a % 100 ≤ 40 ∧ 1 ≤ b ∧ b ≤ 9 ∧ 0 ≤ c ∧ c ≤ 9999) ∧ (∀ j : Nat, fld g 65 j = if j = (fld h 37 1).toNat then b else fld h 65 j) ∧ (∀ j : Nat, fld g 66 j = if j = (fld h 37 1).toNat then c else fld h 66 j) ∧ (∀ j : Nat, fld g 70 j = if j = (fld h 37 1).toNat then 20 else fld h 70 j) ∧ (∀ j : Nat, fld g 71 j = if j = (fld h 37 1).toNat then 10 else fld h 71 j) ∧ (∀ u s : Nat, u < 8 → s < 4 → fld g (39 + (u : Int)) s = if u = (fld h 37 1).toNat then zid a s else fld h (39 + (u : Int)) s)) ∨ ((x = -1) ∧ (g = h) ∧ (8 ≤ fld h 37 1 ∨ a < 0 ∨ 40 < a / 1000000 ∨ 40 < a / 10000 % 100 ∨ 40 < a / 100 % 100 ∨ 40 < a % 100 ∨ b < 1 ∨ 9 < b ∨ c < 0 ∨ 9999 < c))))) := by
  refine zwC_to (zwC_an2 (m4 h I a b c q_a) (m4_z h I a b c q_a)) ?_
  rintro r g ⟨x, e, ⟨Ia, Ra, a0, a1⟩, ⟨_, _, _, b1, b2⟩⟩
  exact ⟨x, e, Ia, Ra, a0, b1, b2, a1⟩
theorem x9_d {sc : List Int} (h : Hp) (C : CI h) (a b : Int) (q_a : -2147483648 ≤ a ∧ a ≤ 2147483647) (q_b : -2147483648 ≤ b ∧ b ≤ 2147483647) (J : yR h) (hl : h.length ≤ 999930000) : zwC sc (max 7 7) 9 [(2, 1), (0, a), (0, b)] h (zwRt 0 (fun x g => CI g ∧ zXR msx9 (2) (1019) h g ∧ (-2147483648 ≤ x ∧ x ≤ 2147483647) ∧ (x = yHouA (yC h) a b) ∧ (yC g = yHouF (yC h) a b) ∧ (yR g) ∧ (((x = fld h 3 2) ∧ (fld g 3 2 = fld h 3 2 + 1) ∧ (0 ≤ a ∧ a < fld h 2 2 ∧ 0 ≤ b ∧ b / 1000 ≤ 5 ∧ 1 ≤ b / 100 % 10 ∧ b / 10 % 10 ≤ 5 ∧ 1 ≤ b % 10 ∧ fld h 3 2 < 20 ∧ fld h 1 0 < 156) ∧ (∃ rr : Int, (365 < rr ∧ gH g rr) ∧ (∀ i : Nat, (i : Int) < fld h 3 2 → fld g (fld g 3 1) i = fld h (fld h 3 1) i) ∧ fld g (fld g 3 1) (fld h 3 2).toNat = rr ∧ (∀ j : Nat, fld g rr j = ([fld h 3 2, fld h (fld h 2 1) a.toNat, b / 1000, b / 100 % 10, b / 10 % 10, b % 10, 0, 10, 0, 0, 0, 0, 0, 0, 0, 0, 0, 0, 0] : List Int).getD j 0))) ∨ ((x = -1) ∧ (g = h) ∧ (a < 0 ∨ fld h 2 2 ≤ a ∨ b < 0 ∨ 5 < b / 1000 ∨ b / 100 % 10 < 1 ∨ 5 < b / 10 % 10 ∨ b % 10 < 1 ∨ 20 ≤ fld h 3 2 ∨ 156 ≤ fld h 1 0))))) := by
  refine zwC_to (zwC_an2 (x9 h C a b q_a q_b (by omega)) (x9_z h C a b q_a q_b J (by omega))) ?_
  rintro r g ⟨x, e, ⟨Ca, Ra, a0, a1⟩, ⟨_, _, _, b1, b2, b3⟩⟩
  exact ⟨x, e, Ca, Ra, a0, b1, b2, b3, a1⟩
theorem m10_d {sc : List Int} (h : Hp) (I : zI h) (a b : Int) (q_b : -2147483648 ≤ b ∧ b ≤ 2147483647) (hA : zAM h) : zwC sc (max 3 3) 10 [(2, 37), (0, a), (0, b)] h (zwRt 0 (fun x g => zI g ∧ zMR ms10 h g ∧ (-2147483648 ≤ x ∧ x ≤ 2147483647) ∧ ((x = fld h 37 2 ∧ fld g 37 2 = fld h 37 2 + 1 ∧ (0 ≤ a ∧ a < fld h 37 1 ∧ 0 ≤ b ∧ b / 1000 ≤ 5 ∧ 1 ≤ b / 100 % 10 ∧ b / 10 % 10 ≤ 5 ∧ 1 ≤ b % 10 ∧ fld h 37 2 < 20 ∧ fld h 37 0 < 156) ∧ (∀ j : Nat, fld g 79 j = if j = (fld h 37 2).toNat then a else fld h 79 j) ∧ (∀ j : Nat, fld g 80 j = if j = (fld h 37 2).toNat then b / 1000 else fld h 80 j) ∧ (∀ j : Nat, fld g 81 j = if j = (fld h 37 2).toNat then b / 100 % 10 else fld h 81 j) ∧ (∀ j : Nat, fld g 82 j = if j = (fld h 37 2).toNat then b / 10 % 10 else fld h 82 j) ∧ (∀ j : Nat, fld g 83 j = if j = (fld h 37 2).toNat then b % 10 else fld h 83 j) ∧ (∀ j : Nat, fld g 85 j = if j = (fld h 37 2).toNat then 10 else fld h 85 j)) ∨ (x = -1 ∧ g = h ∧ (a < 0 ∨ fld h 37 1 ≤ a ∨ b < 0 ∨ 5 < b / 1000 ∨ b / 100 % 10 < 1 ∨ 5 < b / 10 % 10 ∨ b % 10 < 1 ∨ 20 ≤ fld h 37 2 ∨ 156 ≤ fld h 37 0))) ∧ (x = yHouA (yM h) a b) ∧ (yM g = yHouF (yM h) a b) ∧ (zAM g))) := by
  refine zwC_to (zwC_an2 (m10 h I a b q_b hA) (m10_z h I a b q_b)) ?_
  rintro r g ⟨x, e, ⟨Ia, Ra, a0, a1, a2⟩, ⟨_, _, _, b1, b2⟩⟩
  exact ⟨x, e, Ia, Ra, a0, a1, b1, b2, a2⟩
theorem x11_d {sc : List Int} (h : Hp) (C : CI h) (a b c : Int) (q_a : -2147483648 ≤ a ∧ a ≤ 2147483647) (q_b : -2147483648 ≤ b ∧ b ≤ 2147483647) (q_c : -2147483648 ≤ c ∧ c ≤ 2147483647) (J : yR h) : zwC sc (max 6 6) 11 [(2, 1), (0, a), (0, b), (0, c)] h (zwRt 0 (fun x g => CI g ∧ zXR msx11 (0) (0) h g ∧ (0 ≤ x ∧ x ≤ 1) ∧ (0 ≤ x ∧ x ≤ 1) ∧ (x = yLoomA (yC h) a b c) ∧ (yC g = yLoom (yC h) a b c) ∧ (yR g) ∧ (((x = 1) ∧ (0 ≤ a ∧ a < fld h 3 2 ∧ fld h (fld h (fld h 3 1) a.toNat) 13 ≤ 0 ∧ 0 ≤ b ∧ 4 ≤ b / 100 ∧ b / 100 ≤ b % 100 ∧ b % 100 ≤ 60 ∧ 1 ≤ c ∧ c ≤ 40) ∧ (∀ (rr : Int) (nn : Nat), 365 < rr → sh h rr = some (4, nn) → fld g rr 11 = if rr = fld h (fld h 3 1) a.toNat then b / 100 else fld h rr 11) ∧ (∀ (rr : Int) (nn : Nat), 365 < rr → sh h rr = some (4, nn) → fld g rr 12 = if rr = fld h (fld h 3 1) a.toNat then b % 100 else fld h rr 12) ∧ (∀ (rr : Int) (nn : Nat), 365 < rr → sh h rr = some (4, nn) → fld g rr 13 = if rr = fld h (fld h 3 1) a.toNat then c else fld h rr 13)) ∨ ((x = 0) ∧ (g = h) ∧ (a < 0 ∨ fld h 3 2 ≤ a ∨ 0 < fld h (fld h (fld h 3 1) a.toNat) 13 ∨ b < 0 ∨ b / 100 < 4 ∨ b % 100 < b / 100 ∨ 60 < b % 100 ∨ c < 1 ∨ 40 < c))))) := by
  refine zwC_to (zwC_an2 (x11 h C a b c q_a q_b q_c) (x11_z h C a b c q_a q_b q_c J)) ?_
  rintro r g ⟨x, e, ⟨Ca, Ra, a0, a1⟩, ⟨_, _, b0, b1, b2, b3⟩⟩
  exact ⟨x, e, Ca, Ra, a0, b0, b1, b2, b3, a1⟩
theorem m12_d {sc : List Int} (h : Hp) (I : zI h) (a b c : Int) (q_b : -2147483648 ≤ b ∧ b ≤ 2147483647) : zwC sc (max 3 3) 12 [(2, 37), (0, a), (0, b), (0, c)] h (zwRt 0 (fun x g => zI g ∧ zMR ms12 h g ∧ (-2147483648 ≤ x ∧ x ≤ 2147483647) ∧ (x = 0 ∨ x = 1) ∧ (x = yLoomA (yM h) a b c) ∧ (yM g = yLoom (yM h) a b c) ∧ (((x = 1) ∧ (0 ≤ a ∧ a < fld h 37 2 ∧ fld h 91 a.toNat ≤ 0 ∧ 0 ≤ b ∧ 4 ≤ b / 100 ∧ b / 100 ≤ b % 100 ∧ b % 100 ≤ 60 ∧ 1 ≤ c ∧ c ≤ 40) ∧ (∀ j : Nat, fld g 89 j = if j = a.toNat then b / 100 else fld h 89 j) ∧ (∀ j : Nat, fld g 90 j = if j = a.toNat then b % 100 else fld h 90 j) ∧ (∀ j : Nat, fld g 91 j = if j = a.toNat then c else fld h 91 j)) ∨ ((x = 0) ∧ (g = h) ∧ (a < 0 ∨ fld h 37 2 ≤ a ∨ 0 < fld h 91 a.toNat ∨ b < 0 ∨ b / 100 < 4 ∨ b % 100 < b / 100 ∨ 60 < b % 100 ∨ c < 1 ∨ 40 < c))))) := by
  refine zwC_to (zwC_an2 (m12 h I a b c q_b) (m12_z h I a b c q_b)) ?_
  rintro r g ⟨x, e, ⟨Ia, Ra, a0, a1, a2⟩, ⟨_, _, _, b1, b2⟩⟩
  exact ⟨x, e, Ia, Ra, a0, a1, b1, b2, a2⟩
theorem x13_d {sc : List Int} (h : Hp) (C : CI h) (a b : Int) (q_a : -2147483648 ≤ a ∧ a ≤ 2147483647) (q_b : -2147483648 ≤ b ∧ b ≤ 2147483647) (J : yR h) : zwC sc (max 6 6) 13 [(2, 1), (0, a), (0, b)] h (zwRt 0 (fun x g => CI g ∧ zXR msx13 (0) (0) h g ∧ (0 ≤ x ∧ x ≤ 1) ∧ (0 ≤ x ∧ x ≤ 1) ∧ (x = yAimA (yC h) a b) ∧ (yC g = yAim (yC h) a b) ∧ (yR g) ∧ (((x = 1) ∧ (0 ≤ a ∧ a < fld h 3 2 ∧ 4 ≤ b ∧ b ≤ 60) ∧ (∀ (rr : Int) (nn : Nat), 365 < rr → sh h rr = some (4, nn) → fld g rr 7 = if rr = fld h (fld h 3 1) a.toNat then b else fld h rr 7)) ∨ ((x = 0) ∧ (g = h) ∧ (a < 0 ∨ fld h 3 2 ≤ a ∨ b < 4 ∨ 60 < b))))) := by
  refine zwC_to (zwC_an2 (x13 h C a b q_a q_b) (x13_z h C a b q_a q_b J)) ?_
  rintro r g ⟨x, e, ⟨Ca, Ra, a0, a1⟩, ⟨_, _, b0, b1, b2, b3⟩⟩
  exact ⟨x, e, Ca, Ra, a0, b0, b1, b2, b3, a1⟩
theorem m14_d {sc : List Int} (h : Hp) (I : zI h) (a b : Int) (hA : zAM h) : zwC sc (max 3 3) 14 [(2, 37), (0, a), (0, b)] h (zwRt 0 (fun x g => zI g ∧ zMR ms14 h g ∧ (-2147483648 ≤ x ∧ x ≤ 2147483647) ∧ ((x = 1 ∧ (0 ≤ a ∧ a < fld h 37 2 ∧ 4 ≤ b ∧ b ≤ 60) ∧ (∀ j : Nat, fld g 85 j = if j = a.toNat then b else fld h 85 j)) ∨ (x = 0 ∧ g = h ∧ (a < 0 ∨ fld h 37 2 ≤ a ∨ b < 4 ∨ 60 < b))) ∧ (x = yAimA (yM h) a b) ∧ (yM g = yAim (yM h) a b) ∧ (zAM g))) := by
  refine zwC_to (zwC_an2 (m14 h I a b hA) (m14_z h I a b)) ?_
  rintro r g ⟨x, e, ⟨Ia, Ra, a0, a1, a2⟩, ⟨_, _, _, b1, b2⟩⟩
  exact ⟨x, e, Ia, Ra, a0, a1, b1, b2, a2⟩
theorem x15_d {sc : List Int} (h : Hp) (C : CI h) (a b : Int) (q_a : -2147483648 ≤ a ∧ a ≤ 2147483647) (q_b : -2147483648 ≤ b ∧ b ≤ 2147483647) (J : yR h) : zwC sc (max 6 6) 15 [(2, 1), (0, a), (0, b)] h (zwRt 0 (fun x g => CI g ∧ zXR msx15 (0) (0) h g ∧ (x = yCoinA (yC h) a b) ∧ (yC g = yCoin (yC h) a b) ∧ (yR g) ∧ (-2147483648 ≤ x ∧ x ≤ 2147483647))) := by
  refine zwC_to (zwC_an2 (x15 h C a b q_a q_b) (x15_z h C a b q_a q_b J)) ?_
  rintro r g ⟨x, e, ⟨Ca, Ra, a0⟩, ⟨_, _, _, b1, b2, b3⟩⟩
  exact ⟨x, e, Ca, Ra, b1, b2, b3, a0⟩
theorem m16_d {sc : List Int} (h : Hp) (I : zI h) (a b : Int) : zwC sc (max 3 3) 16 [(2, 37), (0, a), (0, b)] h (zwRt 0 (fun x g => zI g ∧ zMR ms16 h g ∧ (x = yCoinA (yM h) a b) ∧ (yM g = yCoin (yM h) a b) ∧ (-2147483648 ≤ x ∧ x ≤ 2147483647))) := by
  refine zwC_to (zwC_an2 (m16 h I a b) (m16_z h I a b)) ?_
  rintro r g ⟨x, e, ⟨Ia, Ra, a0⟩, ⟨_, _, _, b1, b2⟩⟩
  exact ⟨x, e, Ia, Ra, b1, b2, a0⟩
theorem x17_d {sc : List Int} (h : Hp) (C : CI h) (a b : Int) (q_a : -2147483648 ≤ a ∧ a ≤ 2147483647) (q_b : -2147483648 ≤ b ∧ b ≤ 2147483647) (J : yR h) : zwC sc (max 6 6) 17 [(2, 1), (0, a), (0, b)] h (zwRt 0 (fun x g => CI g ∧ zXR msx17 (0) (0) h g ∧ (-2147483648 ≤ x ∧ x ≤ 2147483647) ∧ (x = yCottA (yC h) a b) ∧ (yC g = yCott (yC h) a b) ∧ (yR g) ∧ (((x = w32 (fld h (fld h (fld h 2 1) a.toNat) 3 + b)) ∧ (0 ≤ a ∧ a < fld h 2 2 ∧ 1 ≤ b ∧ b ≤ 999 ∧ w32 (fld h (fld h (fld h 2 1) a.toNat) 3 + b) ≤ 9999) ∧ (∀ (rr : Int) (nn : Nat), 365 < rr → sh h rr = some (11, nn) → fld g rr 3 = if rr = fld h (fld h 2 1) a.toNat then w32 (fld h (fld h (fld h 2 1) a.toNat) 3 + b) else fld h rr 3)) ∨ ((x = -1) ∧ (g = h) ∧ (a < 0 ∨ fld h 2 2 ≤ a ∨ b < 1 ∨ 999 < b ∨ 9999 < w32 (fld h (fld h (fld h 2 1) a.toNat) 3 + b)))))) := by
  refine zwC_to (zwC_an2 (x17 h C a b q_a q_b) (x17_z h C a b q_a q_b J)) ?_
  rintro r g ⟨x, e, ⟨Ca, Ra, a0, a1⟩, ⟨_, _, _, b1, b2, b3⟩⟩
  exact ⟨x, e, Ca, Ra, a0, b1, b2, b3, a1⟩
theorem m18_d {sc : List Int} (h : Hp) (I : zI h) (a b : Int) (hC : zCb h) : zwC sc (max 3 3) 18 [(2, 37), (0, a), (0, b)] h (zwRt 0 (fun x g => zI g ∧ zMR ms18 h g ∧ (-2147483648 ≤ x ∧ x ≤ 2147483647) ∧ (x = yCottA (yM h) a b) ∧ (yM g = yCott (yM h) a b) ∧ (((x = fld h 66 a.toNat + b) ∧ (0 ≤ a ∧ a < fld h 37 1 ∧ 1 ≤ b ∧ b ≤ 999 ∧ fld h 66 a.toNat + b ≤ 9999) ∧ (∀ j : Nat, fld g 66 j = if j = a.toNat then fld h 66 a.toNat + b else fld h 66 j)) ∨ ((x = -1) ∧ (g = h) ∧ (a < 0 ∨ fld h 37 1 ≤ a ∨ b < 1 ∨ 999 < b ∨ 9999 < fld h 66 a.toNat + b))))) := by
  refine zwC_to (zwC_an2 (m18 h I a b hC) (m18_z h I a b)) ?_
  rintro r g ⟨x, e, ⟨Ia, Ra, a0, a1⟩, ⟨_, _, _, b1, b2⟩⟩
  exact ⟨x, e, Ia, Ra, a0, b1, b2, a1⟩
theorem x19_d {sc : List Int} (h : Hp) (C : CI h) (a : Int) (S : zT) (q : qT) (q_a : -2147483648 ≤ a ∧ a ≤ 2147483647) (J : yR h) (X0 : zX h S) (B0 : zBs S) (V : zRq q h) (K : yInv (yC h)) (W : zLw h) (PD : zPd h) (hl : h.length ≤ 999910000) : zwC sc (max 9 9) 19 [(2, 1), (0, a)] h (zwRt 0 (fun x g => CI g ∧ zXR msx19_s (0) (0) h g ∧ (-2147483648 ≤ x ∧ x ≤ 2147483647) ∧ (zKw h g) ∧ (zRq q g) ∧ (x = yGoA q (yC h) a) ∧ (yC g = yGoF q (yC h) a) ∧ (yR g) ∧ ((0 ≤ a ∧ a ≤ 26 ∧ x = min 156 (fld h 1 0 + a) ∧ fld g 1 0 = x ∧ zX g (yGo S a.toNat) ∧ zPf h g) ∨ (x = -1 ∧ g = h ∧ (a < 0 ∨ 26 < a))))) := by
  refine zwC_to (zwC_an2 (x19_c h C a S q_a X0 B0 (by omega)) (x19_z h C a q q_a J V K W PD (by omega))) ?_
  rintro r g ⟨x, e, ⟨Ca, Ra, a0, a1, a2⟩, ⟨_, _, _, b1, b2, b3, b4⟩⟩
  exact ⟨x, e, Ca, Ra, a0, a1, b1, b2, b3, b4, a2⟩
theorem m20_d {sc : List Int} (h : Hp) (I : zI h) (a : Int) (q : qT) (hA : zAM h) (hW : zCW h) (BO : zBs (zSt h)) (V : mRq q h) (K : yInv (yM h)) : zwC sc (max 9 9) 20 [(2, 37), (0, a)] h (zwRt 0 (fun x g => zI g ∧ zMR ms20 h g ∧ (-2147483648 ≤ x ∧ x ≤ 2147483647) ∧ (x = yGoA q (yM h) a) ∧ (yM g = yGoF q (yM h) a) ∧ ((0 ≤ a ∧ a ≤ 26 ∧ x = min 156 (fld h 37 0 + a) ∧ fld g 37 0 = x ∧ zAg (zSt g) (yGo (zSt h) a.toNat)) ∨ (x = -1 ∧ g = h ∧ (a < 0 ∨ 26 < a))))) := by
  refine zwC_to (zwC_an2 (m20_s h I a hA hW BO) (m20_z h I a q hA V K)) ?_
  rintro r g ⟨x, e, ⟨Ia, Ra, a0, a1⟩, ⟨_, _, _, b1, b2⟩⟩
  exact ⟨x, e, Ia, Ra, a0, b1, b2, a1⟩
theorem x21_d {sc : List Int} (h : Hp) (C : CI h) (a b : Int) (q_a : -2147483648 ≤ a ∧ a ≤ 2147483647) (q_b : -2147483648 ≤ b ∧ b ≤ 2147483647) (J : yR h) : zwC sc (max 6 6) 21 [(2, 1), (0, a), (0, b)] h (zwRt 0 (fun x g => h = g ∧ (x = yLotA (yC h) a b) ∧ (-2147483648 ≤ x ∧ x ≤ 2147483647))) := by
  refine zwC_to (zwC_an2 (x21 h C a b q_a q_b) (x21_z h C a b q_a q_b J)) ?_
  rintro r g ⟨x, e, ⟨ga, a0⟩, ⟨_, _, b1⟩⟩
  exact ⟨x, e, ga, b1, a0⟩
theorem m22_d {sc : List Int} (h : Hp) (I : zI h) (a b : Int) : zwC sc (max 3 3) 22 [(2, 37), (0, a), (0, b)] h (zwRt 0 (fun x g => h = g ∧ (x = yLotA (yM h) a b) ∧ (-2147483648 ≤ x ∧ x ≤ 2147483647))) := by
  refine zwC_to (zwC_an2 (m22 h I a b) (m22_z h I a b)) ?_
  rintro r g ⟨x, e, ⟨ga, a0⟩, ⟨_, _, b1⟩⟩
  exact ⟨x, e, ga, b1, a0⟩
theorem x35_d {sc : List Int} (h : Hp) (C : CI h) (a b c : Int) (q_a : -2147483648 ≤ a ∧ a ≤ 2147483647) (q_b : -2147483648 ≤ b ∧ b ≤ 2147483647) (q_c : -2147483648 ≤ c ∧ c ≤ 2147483647) (J : yR h) : zwC sc (max 6 6) 35 [(2, 1), (0, a), (0, b), (0, c)] h (zwRt 0 (fun x g => CI g ∧ zXR msx35 (0) (0) h g ∧ (x = yPayA (yC h) a b c) ∧ (yC g = yPay (yC h) a b c) ∧ (yR g) ∧ (-2147483648 ≤ x ∧ x ≤ 2147483647))) := by
  refine zwC_to (zwC_an2 (x35 h C a b c q_a q_b q_c) (x35_z h C a b c q_a q_b q_c J)) ?_
  rintro r g ⟨x, e, ⟨Ca, Ra, a0⟩, ⟨_, _, _, b1, b2, b3⟩⟩
  exact ⟨x, e, Ca, Ra, b1, b2, b3, a0⟩
theorem m36_d {sc : List Int} (h : Hp) (I : zI h) (a b c : Int) : zwC sc (max 3 3) 36 [(2, 37), (0, a), (0, b), (0, c)] h (zwRt 0 (fun x g => zI g ∧ zMR ms36 h g ∧ (x = yPayA (yM h) a b c) ∧ (yM g = yPay (yM h) a b c) ∧ (-2147483648 ≤ x ∧ x ≤ 2147483647))) := by
  refine zwC_to (zwC_an2 (m36 h I a b c) (m36_z h I a b c)) ?_
  rintro r g ⟨x, e, ⟨Ia, Ra, a0⟩, ⟨_, _, _, b1, b2⟩⟩
  exact ⟨x, e, Ia, Ra, b1, b2, a0⟩
theorem x37_d {sc : List Int} (h : Hp) (C : CI h) (a b : Int) (q_a : -2147483648 ≤ a ∧ a ≤ 2147483647) (q_b : -2147483648 ≤ b ∧ b ≤ 2147483647) (J : yR h) : zwC sc (max 6 6) 37 [(2, 1), (0, a), (0, b)] h (zwRt 0 (fun x g => h = g ∧ (x = yDueA (yC h) a b) ∧ (-2147483648 ≤ x ∧ x ≤ 2147483647))) := by
  refine zwC_to (zwC_an2 (x37 h C a b q_a q_b) (x37_z h C a b q_a q_b J)) ?_
  rintro r g ⟨x, e, ⟨ga, a0⟩, ⟨_, _, b1⟩⟩
  exact ⟨x, e, ga, b1, a0⟩
theorem m38_d {sc : List Int} (h : Hp) (I : zI h) (a b : Int) : zwC sc (max 3 3) 38 [(2, 37), (0, a), (0, b)] h (zwRt 0 (fun x g => h = g ∧ (x = yDueA (yM h) a b) ∧ (-2147483648 ≤ x ∧ x ≤ 2147483647))) := by
  refine zwC_to (zwC_an2 (m38 h I a b) (m38_z h I a b)) ?_
  rintro r g ⟨x, e, ⟨ga, a0⟩, ⟨_, _, b1⟩⟩
  exact ⟨x, e, ga, b1, a0⟩
theorem x39_d {sc : List Int} (h : Hp) (C : CI h) (a b c : Int) (q : qT) (q_a : -2147483648 ≤ a ∧ a ≤ 2147483647) (q_b : -2147483648 ≤ b ∧ b ≤ 2147483647) (q_c : -2147483648 ≤ c ∧ c ≤ 2147483647) (J : yR h) (V : zRq q h) (ok : yOK (yC h)) (PF8 : yF8 (yC h)) : zwC sc (max 7 7) 39 [(2, 1), (0, a), (0, b), (0, c)] h (zwRt 0 (fun x g => CI g ∧ zXR msx39 (0) (0) h g ∧ (x = yBarA q (yC h) a b c) ∧ (yR g) ∧ (-2147483648 ≤ x ∧ x ≤ 2147483647))) := by
  refine zwC_to (zwC_an2 (x39 h C a b c q_a q_b q_c) (x39_z h C a b c q q_a q_b q_c J V ok PF8)) ?_
  rintro r g ⟨x, e, ⟨Ca, Ra, a0⟩, ⟨_, _, _, b1, b2⟩⟩
  exact ⟨x, e, Ca, Ra, b1, b2, a0⟩
theorem m40_d {sc : List Int} (h : Hp) (I : zI h) (a b c : Int) (q : qT) (q_c : -2147483648 ≤ c ∧ c ≤ 2147483647) (hW : zCW h) (V : mRq q h) (ok : yOK (yM h)) (PF8 : yF8 (yM h)) (hR : zRO h) : zwC sc (max 8 8) 40 [(2, 37), (0, a), (0, b), (0, c)] h (zwRt 0 (fun x g => zI g ∧ zMR ms40 h g ∧ (x = yBarA q (yM h) a b c) ∧ (-2147483648 ≤ x ∧ x ≤ 2147483647))) := by
  refine zwC_to (zwC_an2 (m40 h I a b c q_c hW) (m40_z h I a b c q q_c V ok PF8 hR)) ?_
  rintro r g ⟨x, e, ⟨Ia, Ra, a0⟩, ⟨_, _, _, b1⟩⟩
  exact ⟨x, e, Ia, Ra, b1, a0⟩
theorem x41_d {sc : List Int} (h : Hp) (C : CI h) (a b c : Int) (q : qT) (q_a : -2147483648 ≤ a ∧ a ≤ 2147483647) (q_b : -2147483648 ≤ b ∧ b ≤ 2147483647) (q_c : -2147483648 ≤ c ∧ c ≤ 2147483647) (J : yR h) (V : zRq q h) (ok : yOK (yC h)) (PF8 : yF8 (yC h)) (hl : h.length ≤ 999930000) : zwC sc (max 7 7) 41 [(2, 1), (0, a), (0, b), (0, c)] h (zwRt 0 (fun x g => CI g ∧ zXR msx41 (2) (1006) h g ∧ (x = yWvA q (yC h) a b c) ∧ (yC g = yWvF q (yC h) a b c) ∧ (yR g) ∧ (-2147483648 ≤ x ∧ x ≤ 2147483647))) := by
  refine zwC_to (zwC_an2 (x41 h C a b c q_a q_b q_c (by omega)) (x41_z h C a b c q q_a q_b q_c J V ok PF8 (by omega))) ?_
  rintro r g ⟨x, e, ⟨Ca, Ra, a0⟩, ⟨_, _, _, b1, b2, b3⟩⟩
  exact ⟨x, e, Ca, Ra, b1, b2, b3, a0⟩
theorem m42_d {sc : List Int} (h : Hp) (I : zI h) (a b c : Int) (q : qT) (q_c : -2147483648 ≤ c ∧ c ≤ 2147483647) (hW : zCW h) (V : mRq q h) (ok : yOK (yM h)) (PF8 : yF8 (yM h)) (hR : zRO h) : zwC sc (max 8 8) 42 [(2, 37), (0, a), (0, b), (0, c)] h (zwRt 0 (fun x g => zI g ∧ zMR ms42 h g ∧ (x = yWvA q (yM h) a b c) ∧ (yM g = yWvF q (yM h) a b c) ∧ (-2147483648 ≤ x ∧ x ≤ 2147483647))) := by
  refine zwC_to (zwC_an2 (m42 h I a b c q_c hW) (m42_z h I a b c q q_c V ok PF8 hR)) ?_
  rintro r g ⟨x, e, ⟨Ia, Ra, a0⟩, ⟨_, _, _, b1, b2⟩⟩
  exact ⟨x, e, Ia, Ra, b1, b2, a0⟩
theorem x43_d {sc : List Int} (h : Hp) (C : CI h) (a b : Int) (q_a : -2147483648 ≤ a ∧ a ≤ 2147483647) (q_b : -2147483648 ≤ b ∧ b ≤ 2147483647) (J : yR h) (hS : ∀ i : Nat, 0 ≤ yC h 185 i ∧ yC h 185 i ≤ 1) : zwC sc (max 6 6) 43 [(2, 1), (0, a), (0, b)] h (zwRt 0 (fun x g => h = g ∧ (x = yClotA (yC h) a b) ∧ (-2147483648 ≤ x ∧ x ≤ 2147483647))) := by
  refine zwC_to (zwC_an2 (x43 h C a b q_a q_b) (x43_z h C a b q_a q_b J hS)) ?_
  rintro r g ⟨x, e, ⟨ga, a0⟩, ⟨_, _, b1⟩⟩
  exact ⟨x, e, ga, b1, a0⟩
theorem m44_d {sc : List Int} (h : Hp) (I : zI h) (a b : Int) : zwC sc (max 3 3) 44 [(2, 37), (0, a), (0, b)] h (zwRt 0 (fun x g => h = g ∧ (x = yClotA (yM h) a b) ∧ (-2147483648 ≤ x ∧ x ≤ 2147483647))) := by
  refine zwC_to (zwC_an2 (m44 h I a b) (m44_z h I a b)) ?_
  rintro r g ⟨x, e, ⟨ga, a0⟩, ⟨_, _, b1⟩⟩
  exact ⟨x, e, ga, b1, a0⟩
theorem x51_d {sc : List Int} (h : Hp) (C : CI h) (a b : Int) (q_a : -2147483648 ≤ a ∧ a ≤ 2147483647) (q_b : -2147483648 ≤ b ∧ b ≤ 2147483647) (J : yR h) (PF8 : yF8 (yC h)) (ok : yOK (yC h)) (RM : yRm (yC h)) : zwC sc (max 6 6) 51 [(2, 1), (0, a), (0, b)] h (zwRt 0 (fun x g => CI g ∧ zXR msx51 (0) (0) h g ∧ (x = yBrA (yC h) a b) ∧ (yC g = yBrF (yC h) a b) ∧ (yR g) ∧ (-2147483648 ≤ x ∧ x ≤ 2147483647))) := by
  refine zwC_to (zwC_an2 (x51 h C a b q_a q_b) (x51_z h C a b q_a q_b J PF8 ok RM)) ?_
  rintro r g ⟨x, e, ⟨Ca, Ra, a0⟩, ⟨_, _, _, b1, b2, b3⟩⟩
  exact ⟨x, e, Ca, Ra, b1, b2, b3, a0⟩
theorem m52_d {sc : List Int} (h : Hp) (I : zI h) (a b : Int) (ok : yOK (yM h)) (RM : yRm (yM h)) (hB : ∀ u : Nat, (u : Int) < yM h 37 78 → 0 ≤ yM h 181 u ∧ yM h 181 u < yM h 37 2) (hR : zRO h) : zwC sc (max 3 3) 52 [(2, 37), (0, a), (0, b)] h (zwRt 0 (fun x g => zI g ∧ zMR ms52 h g ∧ (x = yBrA (yM h) a b) ∧ (yM g = yBrF (yM h) a b) ∧ (-2147483648 ≤ x ∧ x ≤ 2147483647))) := by
  refine zwC_to (zwC_an2 (m52 h I a b) (m52_z h I a b ok RM hB hR)) ?_
  rintro r g ⟨x, e, ⟨Ia, Ra, a0⟩, ⟨_, _, _, b1, b2⟩⟩
  exact ⟨x, e, Ia, Ra, b1, b2, a0⟩
theorem x53_d {sc : List Int} (h : Hp) (C : CI h) (a b : Int) (q_a : -2147483648 ≤ a ∧ a ≤ 2147483647) (q_b : -2147483648 ≤ b ∧ b ≤ 2147483647) (J : yR h) : zwC sc (max 6 6) 53 [(2, 1), (0, a), (0, b)] h (zwRt 0 (fun x g => CI g ∧ zXR msx53 (0) (0) h g ∧ (x = yMillA (yC h) a b) ∧ (yC g = yMill (yC h) a b) ∧ (yR g) ∧ (-2147483648 ≤ x ∧ x ≤ 2147483647))) := by
  refine zwC_to (zwC_an2 (x53 h C a b q_a q_b) (x53_z h C a b q_a q_b J)) ?_
  rintro r g ⟨x, e, ⟨Ca, Ra, a0⟩, ⟨_, _, _, b1, b2, b3⟩⟩
  exact ⟨x, e, Ca, Ra, b1, b2, b3, a0⟩
theorem m54_d {sc : List Int} (h : Hp) (I : zI h) (a b : Int) : zwC sc (max 3 3) 54 [(2, 37), (0, a), (0, b)] h (zwRt 0 (fun x g => zI g ∧ zMR ms54 h g ∧ (x = yMillA (yM h) a b) ∧ (yM g = yMill (yM h) a b) ∧ (-2147483648 ≤ x ∧ x ≤ 2147483647))) := by
  refine zwC_to (zwC_an2 (m54 h I a b) (m54_z h I a b)) ?_
  rintro r g ⟨x, e, ⟨Ia, Ra, a0⟩, ⟨_, _, _, b1, b2⟩⟩
  exact ⟨x, e, Ia, Ra, b1, b2, a0⟩
theorem x55_d {sc : List Int} (h : Hp) (C : CI h) (a b : Int) (q_a : -2147483648 ≤ a ∧ a ≤ 2147483647) (q_b : -2147483648 ≤ b ∧ b ≤ 2147483647) (J : yR h) : zwC sc (max 6 6) 55 [(2, 1), (0, a), (0, b)] h (zwRt 0 (fun x g => CI g ∧ zXR msx55 (0) (0) h g ∧ (0 ≤ x ∧ x ≤ 1) ∧ (0 ≤ x ∧ x ≤ 1) ∧ (x = yPricA (yC h) a b) ∧ (yC g = yPric (yC h) a b) ∧ (yR g) ∧ ((x = 1 ∧ 0 ≤ a ∧ a < fld h 2 2 ∧ 0 ≤ b ∧ 1 ≤ b / 100 ∧ b / 100 ≤ 99 ∧ 1 ≤ b % 100) ∨ (x = 0 ∧ (a < 0 ∨ fld h 2 2 ≤ a ∨ b < 0 ∨ b / 100 < 1 ∨ 99 < b / 100 ∨ b % 100 < 1))))) := by
  refine zwC_to (zwC_an2 (x55 h C a b q_a q_b) (x55_z h C a b q_a q_b J)) ?_
  rintro r g ⟨x, e, ⟨Ca, Ra, a0, a1⟩, ⟨_, _, b0, b1, b2, b3⟩⟩
  exact ⟨x, e, Ca, Ra, a0, b0, b1, b2, b3, a1⟩
theorem m56_d {sc : List Int} (h : Hp) (I : zI h) (a b : Int) (q_b : -2147483648 ≤ b ∧ b ≤ 2147483647) : zwC sc (max 3 3) 56 [(2, 37), (0, a), (0, b)] h (zwRt 0 (fun x g => zI g ∧ zMR ms56 h g ∧ (-2147483648 ≤ x ∧ x ≤ 2147483647) ∧ (x = yPricA (yM h) a b) ∧ (yM g = yPric (yM h) a b) ∧ ((x = 1 ∧ 0 ≤ a ∧ a < fld h 37 1 ∧ 0 ≤ b ∧ 1 ≤ b / 100 ∧ b / 100 ≤ 99 ∧ 1 ≤ b % 100) ∨ (x = 0 ∧ (a < 0 ∨ fld h 37 1 ≤ a ∨ b < 0 ∨ b / 100 < 1 ∨ 99 < b / 100 ∨ b % 100 < 1))))) := by
  refine zwC_to (zwC_an2 (m56 h I a b q_b) (m56_z h I a b q_b)) ?_
  rintro r g ⟨x, e, ⟨Ia, Ra, a0, a1⟩, ⟨_, _, _, b1, b2⟩⟩
  exact ⟨x, e, Ia, Ra, a0, b1, b2, a1⟩
theorem x57_d {sc : List Int} (h : Hp) (C : CI h) (a b : Int) (q_a : -2147483648 ≤ a ∧ a ≤ 2147483647) (q_b : -2147483648 ≤ b ∧ b ≤ 2147483647) (J : yR h) : zwC sc (max 6 6) 57 [(2, 1), (0, a), (0, b)] h (zwRt 0 (fun x g => CI g ∧ zXR msx57 (0) (0) h g ∧ (-2147483648 ≤ x ∧ x ≤ 2147483647) ∧ (x = yTalkA (yC h) a b) ∧ (yC g = yTalk (yC h) a b) ∧ (yR g) ∧ ((x = b ∧ 0 ≤ a ∧ a < fld h 2 2 ∧ 0 ≤ b ∧ b ≤ 20) ∨ (x = -1 ∧ (a < 0 ∨ fld h 2 2 ≤ a ∨ b < 0 ∨ 20 < b))))) := by
  refine zwC_to (zwC_an2 (x57 h C a b q_a q_b) (x57_z h C a b q_a q_b J)) ?_
  rintro r g ⟨x, e, ⟨Ca, Ra, a0, a1⟩, ⟨_, _, _, b1, b2, b3⟩⟩
  exact ⟨x, e, Ca, Ra, a0, b1, b2, b3, a1⟩
theorem m58_d {sc : List Int} (h : Hp) (I : zI h) (a b : Int) : zwC sc (max 3 3) 58 [(2, 37), (0, a), (0, b)] h (zwRt 0 (fun x g => zI g ∧ zMR ms58 h g ∧ (-2147483648 ≤ x ∧ x ≤ 2147483647) ∧ (x = yTalkA (yM h) a b) ∧ (yM g = yTalk (yM h) a b) ∧ ((x = b ∧ 0 ≤ a ∧ a < fld h 37 1 ∧ 0 ≤ b ∧ b ≤ 20) ∨ (x = -1 ∧ (a < 0 ∨ fld h 37 1 ≤ a ∨ b < 0 ∨ 20 < b))))) := by
  refine zwC_to (zwC_an2 (m58 h I a b) (m58_z h I a b)) ?_
  rintro r g ⟨x, e, ⟨Ia, Ra, a0, a1⟩, ⟨_, _, _, b1, b2⟩⟩
  exact ⟨x, e, Ia, Ra, a0, b1, b2, a1⟩
theorem x61_d {sc : List Int} (h : Hp) (C : CI h) (a : Int) (q : qT) (q_a : -2147483648 ≤ a ∧ a ≤ 2147483647) (J : yR h) (V : zRq q h) (ok : yOK (yC h)) : zwC sc (max 6 6) 61 [(2, 1), (0, a)] h (zwRt 0 (fun x g => CI g ∧ zXR msx61 (0) (0) h g ∧ (x = yLikA q (yC h) a) ∧ (yR g) ∧ (-2147483648 ≤ x ∧ x ≤ 2147483647))) := by
  refine zwC_to (zwC_an2 (x61 h C a q_a) (x61_z h C a q q_a J V ok)) ?_
  rintro r g ⟨x, e, ⟨Ca, Ra, a0⟩, ⟨_, _, _, b1, b2⟩⟩
  exact ⟨x, e, Ca, Ra, b1, b2, a0⟩
theorem m62_d {sc : List Int} (h : Hp) (I : zI h) (a : Int) (q : qT) (hW : zCW h) (V : mRq q h) (ok : yOK (yM h)) : zwC sc (max 6 6) 62 [(2, 37), (0, a)] h (zwRt 0 (fun x g => zI g ∧ zMR ms62 h g ∧ (-2147483648 ≤ x ∧ x ≤ 2147483647) ∧ (-1 ≤ x ∧ x ≤ 1) ∧ (x = yLikA q (yM h) a) ∧ (-1 ≤ x ∧ x ≤ 1))) := by
  refine zwC_to (zwC_an2 (m62 h I a hW) (m62_z h I a q V ok)) ?_
  rintro r g ⟨x, e, ⟨Ia, Ra, a0, a1⟩, ⟨_, _, _, b1, b2⟩⟩
  exact ⟨x, e, Ia, Ra, a0, b1, b2, a1⟩
theorem x63_d {sc : List Int} (h : Hp) (C : CI h) (a b : Int) (q_a : -2147483648 ≤ a ∧ a ≤ 2147483647) (q_b : -2147483648 ≤ b ∧ b ≤ 2147483647) (J : yR h) (hB : ∀ i : Nat, 0 ≤ yC h 74 i ∧ yC h 74 i ≤ 9999) : zwC sc (max 6 6) 63 [(2, 1), (0, a), (0, b)] h (zwRt 0 (fun x g => CI g ∧ zXR msx63 (0) (0) h g ∧ (-2147483648 ≤ x ∧ x ≤ 2147483647) ∧ (x = ySoldA (yC h) a b) ∧ (yC g = ySold (yC h) a b) ∧ (yR g) ∧ (((x = w32 (fld h (fld h (fld h 2 1) a.toNat) 11 + b)) ∧ (0 ≤ a ∧ a < fld h 2 2 ∧ 1 ≤ b ∧ b ≤ 999 ∧ w32 (fld h (fld h (fld h 2 1) a.toNat) 11 + b) ≤ 9999) ∧ (∀ (rr : Int) (nn : Nat), 365 < rr → sh h rr = some (11, nn) → fld g rr 11 = if rr = fld h (fld h 2 1) a.toNat then w32 (fld h (fld h (fld h 2 1) a.toNat) 11 + b) else fld h rr 11)) ∨ ((x = -1) ∧ (g = h) ∧ (a < 0 ∨ fld h 2 2 ≤ a ∨ b < 1 ∨ 999 < b ∨ 9999 < w32 (fld h (fld h (fld h 2 1) a.toNat) 11 + b)))))) := by
  refine zwC_to (zwC_an2 (x63 h C a b q_a q_b) (x63_z h C a b q_a q_b J hB)) ?_
  rintro r g ⟨x, e, ⟨Ca, Ra, a0, a1⟩, ⟨_, _, _, b1, b2, b3⟩⟩
  exact ⟨x, e, Ca, Ra, a0, b1, b2, b3, a1⟩
theorem m64_d {sc : List Int} (h : Hp) (I : zI h) (a b : Int) : zwC sc (max 3 3) 64 [(2, 37), (0, a), (0, b)] h (zwRt 0 (fun x g => zI g ∧ zMR ms64 h g ∧ (-2147483648 ≤ x ∧ x ≤ 2147483647) ∧ (x = ySoldA (yM h) a b) ∧ (yM g = ySold (yM h) a b) ∧ (((x = fld h 74 a.toNat + b) ∧ (0 ≤ a ∧ a < fld h 37 1 ∧ 1 ≤ b ∧ b ≤ 999 ∧ fld h 74 a.toNat + b ≤ 9999) ∧ (∀ j : Nat, fld g 74 j = if j = a.toNat then fld h 74 a.toNat + b else fld h 74 j)) ∨ ((x = -1) ∧ (g = h) ∧ (a < 0 ∨ fld h 37 1 ≤ a ∨ b < 1 ∨ 999 < b ∨ 9999 < fld h 74 a.toNat + b))))) := by
  refine zwC_to (zwC_an2 (m64 h I a b) (m64_z h I a b)) ?_
  rintro r g ⟨x, e, ⟨Ia, Ra, a0, a1⟩, ⟨_, _, _, b1, b2⟩⟩
  exact ⟨x, e, Ia, Ra, a0, b1, b2, a1⟩
theorem x65_d {sc : List Int} (h : Hp) (C : CI h) (a b : Int) (q_a : -2147483648 ≤ a ∧ a ≤ 2147483647) (q_b : -2147483648 ≤ b ∧ b ≤ 2147483647) (J : yR h) : zwC sc (max 6 6) 65 [(2, 1), (0, a), (0, b)] h (zwRt 0 (fun x g => h = g ∧ (x = yWrngA (yC h) a b) ∧ (-2147483648 ≤ x ∧ x ≤ 2147483647))) := by
  refine zwC_to (zwC_an2 (x65 h C a b q_a q_b) (x65_z h C a b q_a q_b J)) ?_
  rintro r g ⟨x, e, ⟨ga, a0⟩, ⟨_, _, b1⟩⟩
  exact ⟨x, e, ga, b1, a0⟩
theorem m66_d {sc : List Int} (h : Hp) (I : zI h) (a b : Int) : zwC sc (max 3 3) 66 [(2, 37), (0, a), (0, b)] h (zwRt 0 (fun x g => h = g ∧ (x = yWrngA (yM h) a b) ∧ (-2147483648 ≤ x ∧ x ≤ 2147483647))) := by
  refine zwC_to (zwC_an2 (m66 h I a b) (m66_z h I a b)) ?_
  rintro r g ⟨x, e, ⟨ga, a0⟩, ⟨_, _, b1⟩⟩
  exact ⟨x, e, ga, b1, a0⟩
theorem x67_d {sc : List Int} (h : Hp) (C : CI h) (J : yR h) : zwC sc (max 5 5) 67 [(2, 1)] h (zwRt 0 (fun x g => h = g ∧ (x = yLookA (yC h)) ∧ (-2147483648 ≤ x ∧ x ≤ 2147483647))) := by
  refine zwC_to (zwC_an2 (x67 h C) (x67_z h C J)) ?_
  rintro r g ⟨x, e, ⟨ga, a0⟩, ⟨_, _, b1⟩⟩
  exact ⟨x, e, ga, b1, a0⟩
theorem m68_d {sc : List Int} (h : Hp) (I : zI h) : zwC sc (max 3 3) 68 [(2, 37)] h (zwRt 0 (fun x g => h = g ∧ (x = yLookA (yM h)) ∧ (-2147483648 ≤ x ∧ x ≤ 2147483647))) := by
  refine zwC_to (zwC_an2 (m68 h I) (m68_z h I)) ?_
  rintro r g ⟨x, e, ⟨ga, a0⟩, ⟨_, _, b1⟩⟩
  exact ⟨x, e, ga, b1, a0⟩
theorem x69_d {sc : List Int} (h : Hp) (C : CI h) (a b c : Int) (q_a : -2147483648 ≤ a ∧ a ≤ 2147483647) (q_b : -2147483648 ≤ b ∧ b ≤ 2147483647) (q_c : -2147483648 ≤ c ∧ c ≤ 2147483647) (J : yR h) : zwC sc (max 6 6) 69 [(2, 1), (0, a), (0, b), (0, c)] h (zwRt 0 (fun x g => CI g ∧ zXR msx69 (0) (0) h g ∧ (-2147483648 ≤ x ∧ x ≤ 2147483647) ∧ (x = yGiftA (yC h) a b c) ∧ (yC g = yGift (yC h) a b c) ∧ (yR g) ∧ ((x = fld h 27 0 ∧ fld g 27 0 = x + 1 ∧ 1 ≤ a ∧ a ≤ 99 ∧ 0 ≤ b ∧ b < fld h 3 2 ∧ 0 ≤ c ∧ c ≤ 2 ∧ x < 8) ∨ (x = -1 ∧ fld g 27 0 = fld h 27 0 ∧ (a < 1 ∨ 99 < a ∨ b < 0 ∨ fld h 3 2 ≤ b ∨ c < 0 ∨ 2 < c ∨ 8 ≤ fld h 27 0))))) := by
  refine zwC_to (zwC_an2 (x69 h C a b c q_a q_b q_c) (x69_z h C a b c q_a q_b q_c J)) ?_
  rintro r g ⟨x, e, ⟨Ca, Ra, a0, a1⟩, ⟨_, _, _, b1, b2, b3⟩⟩
  exact ⟨x, e, Ca, Ra, a0, b1, b2, b3, a1⟩
theorem m70_d {sc : List Int} (h : Hp) (I : zI h) (a b c : Int) : zwC sc (max 3 3) 70 [(2, 37), (0, a), (0, b), (0, c)] h (zwRt 0 (fun x g => zI g ∧ zMR ms70 h g ∧ (-2147483648 ≤ x ∧ x ≤ 2147483647) ∧ (x = yGiftA (yM h) a b c) ∧ (yM g = yGift (yM h) a b c) ∧ ((x = fld h 37 96 ∧ fld g 37 96 = x + 1 ∧ 1 ≤ a ∧ a ≤ 99 ∧ 0 ≤ b ∧ b < fld h 37 2 ∧ 0 ≤ c ∧ c ≤ 2 ∧ x < 8) ∨ (x = -1 ∧ fld g 37 96 = fld h 37 96 ∧ (a < 1 ∨ 99 < a ∨ b < 0 ∨ fld h 37 2 ≤ b ∨ c < 0 ∨ 2 < c ∨ 8 ≤ fld h 37 96))))) := by
  refine zwC_to (zwC_an2 (m70 h I a b c) (m70_z h I a b c)) ?_
  rintro r g ⟨x, e, ⟨Ia, Ra, a0, a1⟩, ⟨_, _, _, b1, b2⟩⟩
  exact ⟨x, e, Ia, Ra, a0, b1, b2, a1⟩
theorem x71_d {sc : List Int} (h : Hp) (C : CI h) (J : yR h) : zwC sc (max 1 1) 71 [(2, 1)] h (zwRt 0 (fun x g => CI g ∧ zXR msx71 (0) (0) h g ∧ (-2147483648 ≤ x ∧ x ≤ 2147483647) ∧ (x = yForgA (yC h)) ∧ (yC g = yForg (yC h)) ∧ (yR g) ∧ (x = fld h 27 0 ∧ fld g 27 0 = 0))) := by
  refine zwC_to (zwC_an2 (x71 h C) (x71_z h C J)) ?_
  rintro r g ⟨x, e, ⟨Ca, Ra, a0, a1⟩, ⟨_, _, _, b1, b2, b3⟩⟩
  exact ⟨x, e, Ca, Ra, a0, b1, b2, b3, a1⟩
theorem m72_d {sc : List Int} (h : Hp) (I : zI h) : zwC sc (max 1 1) 72 [(2, 37)] h (zwRt 0 (fun x g => zI g ∧ zMR ms72 h g ∧ (-2147483648 ≤ x ∧ x ≤ 2147483647) ∧ (x = yForgA (yM h)) ∧ (yM g = yForg (yM h)) ∧ (x = fld h 37 96 ∧ fld g 37 96 = 0))) := by
  refine zwC_to (zwC_an2 (m72 h I) (m72_z h I)) ?_
  rintro r g ⟨x, e, ⟨Ia, Ra, a0, a1⟩, ⟨_, _, _, b1, b2⟩⟩
  exact ⟨x, e, Ia, Ra, a0, b1, b2, a1⟩
theorem x75_d {sc : List Int} (h : Hp) (C : CI h) (a : Int) (q_a : -2147483648 ≤ a ∧ a ≤ 2147483647) (J : yR h) (hB : ∀ i : Nat, 0 ≤ yC h 83 i ∧ yC h 83 i ≤ 9) : zwC sc (max 5 5) 75 [(2, 1), (0, a)] h (zwRt 0 (fun x g => h = g ∧ (x = yHunA (yC h) a) ∧ (-2147483648 ≤ x ∧ x ≤ 2147483647))) := by
  refine zwC_to (zwC_an2 (x75 h C a q_a) (x75_z h C a q_a J hB)) ?_
  rintro r g ⟨x, e, ⟨ga, a0⟩, ⟨_, _, b1⟩⟩
  exact ⟨x, e, ga, b1, a0⟩
theorem m76_d {sc : List Int} (h : Hp) (I : zI h) (a : Int) : zwC sc (max 2 2) 76 [(2, 37), (0, a)] h (zwRt 0 (fun x g => h = g ∧ (x = yHunA (yM h) a) ∧ (-2147483648 ≤ x ∧ x ≤ 2147483647))) := by
  refine zwC_to (zwC_an2 (m76 h I a) (m76_z h I a)) ?_
  rintro r g ⟨x, e, ⟨ga, a0⟩, ⟨_, _, b1⟩⟩
  exact ⟨x, e, ga, b1, a0⟩
theorem x79_d {sc : List Int} (h : Hp) (C : CI h) (a b : Int) (q_a : -2147483648 ≤ a ∧ a ≤ 2147483647) (q_b : -2147483648 ≤ b ∧ b ≤ 2147483647) (J : yR h) : zwC sc (max 2 2) 79 [(2, 1), (0, a), (0, b)] h (zwRt 0 (fun x g => h = g ∧ (x = yToldA (yC h) a b) ∧ (-2147483648 ≤ x ∧ x ≤ 2147483647))) := by
  refine zwC_to (zwC_an2 (x79 h C a b q_a q_b) (x79_z h C a b q_a q_b J)) ?_
  rintro r g ⟨x, e, ⟨ga, a0⟩, ⟨_, _, b1⟩⟩
  exact ⟨x, e, ga, b1, a0⟩
theorem m80_d {sc : List Int} (h : Hp) (I : zI h) (a b : Int) : zwC sc (max 2 2) 80 [(2, 37), (0, a), (0, b)] h (zwRt 0 (fun x g => h = g ∧ (x = yToldA (yM h) a b) ∧ (-2147483648 ≤ x ∧ x ≤ 2147483647))) := by
  refine zwC_to (zwC_an2 (m80 h I a b) (m80_z h I a b)) ?_
  rintro r g ⟨x, e, ⟨ga, a0⟩, ⟨_, _, b1⟩⟩
  exact ⟨x, e, ga, b1, a0⟩
theorem x83_d {sc : List Int} (h : Hp) (C : CI h) (a b : Int) (q_a : -2147483648 ≤ a ∧ a ≤ 2147483647) (q_b : -2147483648 ≤ b ∧ b ≤ 2147483647) (J : yR h) : zwC sc (max 6 6) 83 [(2, 1), (0, a), (0, b)] h (zwRt 0 (fun x g => h = g ∧ (x = yIsA (yC h) a b) ∧ (-2147483648 ≤ x ∧ x ≤ 2147483647))) := by
  refine zwC_to (zwC_an2 (x83 h C a b q_a q_b) (x83_z h C a b q_a q_b J)) ?_
  rintro r g ⟨x, e, ⟨ga, a0⟩, ⟨_, _, b1⟩⟩
  exact ⟨x, e, ga, b1, a0⟩
theorem m84_d {sc : List Int} (h : Hp) (I : zI h) (a b : Int) : zwC sc (max 3 3) 84 [(2, 37), (0, a), (0, b)] h (zwRt 0 (fun x g => h = g ∧ (x = yIsA (yM h) a b) ∧ (-2147483648 ≤ x ∧ x ≤ 2147483647))) := by
  refine zwC_to (zwC_an2 (m84 h I a b) (m84_z h I a b)) ?_
  rintro r g ⟨x, e, ⟨ga, a0⟩, ⟨_, _, b1⟩⟩
  exact ⟨x, e, ga, b1, a0⟩
theorem x85_d {sc : List Int} (h : Hp) (C : CI h) (a b : Int) (q_a : -2147483648 ≤ a ∧ a ≤ 2147483647) (q_b : -2147483648 ≤ b ∧ b ≤ 2147483647) (J : yR h) : zwC sc (max 6 6) 85 [(2, 1), (0, a), (0, b)] h (zwRt 0 (fun x g => h = g ∧ (x = yHasA (yC h) a b) ∧ (-2147483648 ≤ x ∧ x ≤ 2147483647))) := by
  refine zwC_to (zwC_an2 (x85 h C a b q_a q_b) (x85_z h C a b q_a q_b J)) ?_
  rintro r g ⟨x, e, ⟨ga, a0⟩, ⟨_, _, b1⟩⟩
  exact ⟨x, e, ga, b1, a0⟩
theorem m86_d {sc : List Int} (h : Hp) (I : zI h) (a b : Int) : zwC sc (max 3 3) 86 [(2, 37), (0, a), (0, b)] h (zwRt 0 (fun x g => h = g ∧ (x = yHasA (yM h) a b) ∧ (-2147483648 ≤ x ∧ x ≤ 2147483647))) := by
  refine zwC_to (zwC_an2 (m86 h I a b) (m86_z h I a b)) ?_
  rintro r g ⟨x, e, ⟨ga, a0⟩, ⟨_, _, b1⟩⟩
  exact ⟨x, e, ga, b1, a0⟩
theorem x87_d {sc : List Int} (h : Hp) (C : CI h) (a : Int) (q_a : -2147483648 ≤ a ∧ a ≤ 2147483647) (J : yR h) : zwC sc (max 2 2) 87 [(2, 1), (0, a)] h (zwRt 0 (fun x g => h = g ∧ (x = yCntA (yC h) a) ∧ (-2147483648 ≤ x ∧ x ≤ 2147483647))) := by
  refine zwC_to (zwC_an2 (x87 h C a q_a) (x87_z h C a q_a J)) ?_
  rintro r g ⟨x, e, ⟨ga, a0⟩, ⟨_, _, b1⟩⟩
  exact ⟨x, e, ga, b1, a0⟩
theorem m88_d {sc : List Int} (h : Hp) (I : zI h) (a : Int) : zwC sc (max 1 1) 88 [(2, 37), (0, a)] h (zwRt 0 (fun x g => h = g ∧ (x = yCntA (yM h) a) ∧ (-2147483648 ≤ x ∧ x ≤ 2147483647))) := by
  refine zwC_to (zwC_an2 (m88 h I a) (m88_z h I a)) ?_
  rintro r g ⟨x, e, ⟨ga, a0⟩, ⟨_, _, b1⟩⟩
  exact ⟨x, e, ga, b1, a0⟩
