/-! what holds of the model's places beside the bounds: aims and heads of houses, what is spun, lines of hands, codes of sheets -/
section ZM
variable {sc : List Int} {D y pc nx : Nat} {ls st : List Vl} {h h' h1 h2 : Hp} {Q : Option Vl → Hp → Prop}
def zHide (p : Prop) : Prop := p
/-- a fact of every place of a row, over a write -/
theorem fld_all {r : Int} {i : Nat} {x : Int} {P : Nat → Int → Prop} (h0 : ∀ j, P j (fld h r j)) (hx : P i x) (e : h' = wr h r i x) : ∀ j, P j (fld h' r j) := by
  intro j
  subst e
  by_cases hj : j = i
  · subst hj
    rcases fld_wr2 (h := h) (r := r) (i := j) (x := x) with z | z
    · rw [z]; exact hx
    · rw [z]; exact h0 j
  · rw [fld_wr (Or.inr hj)]; exact h0 j
theorem fld_oth {r q : Int} {i j : Nat} {x : Int} (e : h' = wr h r i x) (hn : q ≠ r ∨ j ≠ i) : fld h' q j = fld h q j := by rw [e]; exact fld_wr hn
/-- houses have an aim and heads -/
def zAM (h : Hp) : Prop := ∀ j : Nat, (j : Int) < fld h 37 2 → 4 ≤ fld h 85 j ∧ 1 ≤ fld h 83 j
theorem zAM.mr {ms : Zms} (H : zAM h) (R : zMR ms h h') (e : (zqN ms 37 37 2 3 && (zqN ms 85 85 0 20 && zqN ms 83 83 0 20)) = true) (hb : fld h 37 2 ≤ 20) : zAM h' := by
  simp only [Bool.and_eq_true] at e
  obtain ⟨e1, e2, e3⟩ := e
  intro j hj
  rw [R.f e1 ⟨by decide, by decide⟩ ⟨by decide, by decide⟩] at hj
  rw [R.f e2 ⟨by decide, by decide⟩ ⟨by omega, by omega⟩, R.f e3 ⟨by decide, by decide⟩ ⟨by omega, by omega⟩]
  exact H j hj
/-- how many of the first n of a row aren't 0 -/
def zNZ (f : Nat → Int) : Nat → Int
  | 0 => 0
  | n + 1 => zNZ f n + (if f n = 0 then 0 else 1)
theorem zNZ_le (f : Nat → Int) : ∀ n k : Nat, zNZ f n ≤ zNZ f (n + k)
  | n, 0 => Int.le_refl _
  | n, k + 1 => by
    have := zNZ_le f n k
    show zNZ f n ≤ zNZ f (n + k) + (if f (n + k) = 0 then 0 else 1)
    split <;> omega
theorem zNZ_0 (f : Nat → Int) : ∀ n : Nat, 0 ≤ zNZ f n
  | 0 => Int.le_refl _
  | n + 1 => by
    have := zNZ_0 f n
    show 0 ≤ zNZ f n + (if f n = 0 then 0 else 1)
    split <;> omega
theorem zNZ_c {f g : Nat → Int} : ∀ n : Nat, (∀ j, j < n → f j = g j) → zNZ f n = zNZ g n
  | 0, _ => rfl
  | n + 1, hfg => by
    show zNZ f n + (if f n = 0 then 0 else 1) = zNZ g n + (if g n = 0 then 0 else 1)
    rw [zNZ_c n (fun j hj => hfg j (by omega)), hfg n (by omega)]
/-! codes of sheets: the depth of the stack ahead of step k -/
def zdp (f : Nat → Int) : Nat → Int
  | 0 => 0
  | k + 1 => if f (2 * k) = 110 ∨ f (2 * k) = 118 then zdp f k + 1 else if f (2 * k) = 33 then zdp f k else zdp f k - 1
def zst (f : Nat → Int) (k : Nat) : Prop := (f (2 * k) = 118 → 0 ≤ f (2 * k + 1) ∧ f (2 * k + 1) ≤ 12) ∧ (f (2 * k) = 110 ∨ f (2 * k) = 118 ∨ (f (2 * k) = 33 ∧ 1 ≤ zdp f k) ∨ (f (2 * k) ≠ 33 ∧ 2 ≤ zdp f k))
def zok (f : Nat → Int) (L : Nat) : Prop := zdp f L = 1 ∧ ∀ k : Nat, k < L → zst f k
def zCW (h : Hp) : Prop := (∀ (s c : Nat), (s : Int) < fld h 37 52 → c < 5 → 0 < fld h (155 + (s : Int)) c → zok (fld h (101 + 6 * (s : Int) + (c : Int))) (fld h (155 + (s : Int)) c).toNat) ∧ (∀ k : Nat, (k : Int) < fld h 37 53 → fld h 164 k < fld h 37 52)
theorem zdp_c {f g : Nat → Int} : ∀ n : Nat, (∀ j, j < 2 * n → f j = g j) → zdp f n = zdp g n
  | 0, _ => rfl
  | n + 1, hfg => by
    show (if f (2 * n) = 110 ∨ f (2 * n) = 118 then zdp f n + 1 else if f (2 * n) = 33 then zdp f n else zdp f n - 1) = (if g (2 * n) = 110 ∨ g (2 * n) = 118 then zdp g n + 1 else if g (2 * n) = 33 then zdp g n else zdp g n - 1)
    rw [zdp_c n (fun j hj => hfg j (by omega)), hfg (2 * n) (by omega)]
theorem zok_c {f g : Nat → Int} {n : Nat} (H : zok f n) (hfg : ∀ j, j < 2 * n → f j = g j) : zok g n := by
  refine ⟨by rw [← zdp_c n hfg]; exact H.1, fun k hk => ?_⟩
  have := H.2 k hk
  unfold zst at this ⊢
  rw [← zdp_c k (fun j hj => hfg j (by omega)), ← hfg (2 * k) (by omega), ← hfg (2 * k + 1) (by omega)]
  exact this
theorem zCW.mr {ms : Zms} (H : zCW h) (I : zI h) (R : zMR ms h h') (e : (zqN ms 37 37 52 54 && (zqN ms 155 162 0 5 && (zqN ms 101 147 0 840 && zqN ms 164 164 0 12))) = true) : zCW h' := by
  simp only [Bool.and_eq_true] at e
  obtain ⟨e1, e2, e3, e4⟩ := e
  have b1 := I.b (a1 := 37) (a2 := 37) (j1 := 52) (j2 := 53) (lo := 0) (hi := 8) (by decide +kernel) (r := 37) (j := 52) (by decide) (by decide) (by decide) (by decide)
  have b2 := I.b (a1 := 37) (a2 := 37) (j1 := 53) (j2 := 54) (lo := 0) (hi := 12) (by decide +kernel) (r := 37) (j := 53) (by decide) (by decide) (by decide) (by decide)
  refine ⟨fun s c hs hc hp => ?_, fun k hk => ?_⟩
  · rw [R.f e1 ⟨by decide, by decide⟩ ⟨by decide, by decide⟩] at hs
    have hq := R.f e2 (r := 155 + (s : Int)) (j := c) ⟨by omega, by omega⟩ ⟨by omega, by omega⟩
    rw [hq] at hp
    rw [hq]
    have b3 := I.b (a1 := 155) (a2 := 163) (j1 := 0) (j2 := 5) (lo := 0) (hi := 400) (by decide +kernel) (r := 155 + (s : Int)) (j := c) (by omega) (by omega) (by omega) (by omega)
    refine zok_c (H.1 s c hs hc hp) (fun j hj => ?_)
    exact (R.f e3 (r := 101 + 6 * (s : Int) + (c : Int)) (j := j) ⟨by omega, by omega⟩ ⟨by omega, by omega⟩).symm
  · rw [R.f e1 ⟨by decide, by decide⟩ ⟨by decide, by decide⟩] at hk
    rw [R.f e4 ⟨by decide, by decide⟩ ⟨by omega, by omega⟩, R.f e1 ⟨by decide, by decide⟩ ⟨by decide, by decide⟩]
    exact H.2 k hk
theorem zCW.mr1 {ms : Zms} (H : zCW h) (I : zI h) (R : zMR ms h h') (e : (zqN ms 37 37 52 53 && (zqN ms 155 162 0 5 && zqN ms 101 147 0 840)) = true) (h2 : ∀ k : Nat, (k : Int) < fld h' 37 53 → fld h' 164 k < fld h' 37 52) : zCW h' := by
  simp only [Bool.and_eq_true] at e
  obtain ⟨e1, e2, e3⟩ := e
  have b1 := I.b (a1 := 37) (a2 := 37) (j1 := 52) (j2 := 53) (lo := 0) (hi := 8) (by decide +kernel) (r := 37) (j := 52) (by decide) (by decide) (by decide) (by decide)
  refine ⟨fun s c hs hc hp => ?_, h2⟩
  rw [R.f e1 ⟨by decide, by decide⟩ ⟨by decide, by decide⟩] at hs
  have hq := R.f e2 (r := 155 + (s : Int)) (j := c) ⟨by omega, by omega⟩ ⟨by omega, by omega⟩
  rw [hq] at hp
  rw [hq]
  have b3 := I.b (a1 := 155) (a2 := 163) (j1 := 0) (j2 := 5) (lo := 0) (hi := 400) (by decide +kernel) (r := 155 + (s : Int)) (j := c) (by omega) (by omega) (by omega) (by omega)
  refine zok_c (H.1 s c hs hc hp) (fun j hj => ?_)
  exact (R.f e3 (r := 101 + 6 * (s : Int) + (c : Int)) (j := j) ⟨by omega, by omega⟩ ⟨by omega, by omega⟩).symm
theorem zMR.fa {ms : Zms} (R : zMR ms h h') {a : Nat} (e : ms.all (fun q => Nat.blt q.2.1 a || Nat.blt a q.1) = true) {r : Int} (hr : r = (a : Int)) : fld h' r = fld h r := by
  subst hr
  funext j
  refine R.2.2.2 a j (fun f hf hz => ?_)
  have e := List.all_eq_true.mp e f hf
  rw [Bool.or_eq_true] at e
  rcases e with e | e
  · have := Nat.le_of_ble_eq_true e
    omega
  · have := Nat.le_of_ble_eq_true e
    omega
/-! codes of any sheet -/
theorem zI.c2 (I : zI h) {s c : Int} (hs : 0 ≤ s ∧ s ≤ 8) (hc : 0 ≤ c ∧ c ≤ 4) : sh h (100 + 6 * s) = some (26, 5) ∧ fld h (100 + 6 * s) c.toNat = 101 + 6 * s + c ∧ sh h (101 + 6 * s + c) = some (20, 840) := by
  have e : s = 0 ∨ s = 1 ∨ s = 2 ∨ s = 3 ∨ s = 4 ∨ s = 5 ∨ s = 6 ∨ s = 7 ∨ s = 8 := by omega
  have hcc : ((c.toNat : Nat) : Int) = c := by omega
  rcases e with rfl | rfl | rfl | rfl | rfl | rfl | rfl | rfl | rfl
  · exact ⟨I.s (a1 := 100) (a2 := 100) (by decide +kernel) (by decide) (by decide), by have := I.rw (a := 100) (n := 5) (base := 101) (step := 1) (by decide +kernel) (j := c.toNat) (by omega); rw [show (100 : Int) + 6 * 0 = ((100 : Nat) : Int) from rfl, this]; omega, I.s (a1 := 101) (a2 := 105) (by decide +kernel) (by omega) (by omega)⟩
  · exact ⟨I.s (a1 := 106) (a2 := 106) (by decide +kernel) (by decide) (by decide), by have := I.rw (a := 106) (n := 5) (base := 107) (step := 1) (by decide +kernel) (j := c.toNat) (by omega); rw [show (100 : Int) + 6 * 1 = ((106 : Nat) : Int) from rfl, this]; omega, I.s (a1 := 107) (a2 := 111) (by decide +kernel) (by omega) (by omega)⟩
  · exact ⟨I.s (a1 := 112) (a2 := 112) (by decide +kernel) (by decide) (by decide), by have := I.rw (a := 112) (n := 5) (base := 113) (step := 1) (by decide +kernel) (j := c.toNat) (by omega); rw [show (100 : Int) + 6 * 2 = ((112 : Nat) : Int) from rfl, this]; omega, I.s (a1 := 113) (a2 := 117) (by decide +kernel) (by omega) (by omega)⟩
  · exact ⟨I.s (a1 := 118) (a2 := 118) (by decide +kernel) (by decide) (by decide), by have := I.rw (a := 118) (n := 5) (base := 119) (step := 1) (by decide +kernel) (j := c.toNat) (by omega); rw [show (100 : Int) + 6 * 3 = ((118 : Nat) : Int) from rfl, this]; omega, I.s (a1 := 119) (a2 := 123) (by decide +kernel) (by omega) (by omega)⟩
  · exact ⟨I.s (a1 := 124) (a2 := 124) (by decide +kernel) (by decide) (by decide), by have := I.rw (a := 124) (n := 5) (base := 125) (step := 1) (by decide +kernel) (j := c.toNat) (by omega); rw [show (100 : Int) + 6 * 4 = ((124 : Nat) : Int) from rfl, this]; omega, I.s (a1 := 125) (a2 := 129) (by decide +kernel) (by omega) (by omega)⟩
  · exact ⟨I.s (a1 := 130) (a2 := 130) (by decide +kernel) (by decide) (by decide), by have := I.rw (a := 130) (n := 5) (base := 131) (step := 1) (by decide +kernel) (j := c.toNat) (by omega); rw [show (100 : Int) + 6 * 5 = ((130 : Nat) : Int) from rfl, this]; omega, I.s (a1 := 131) (a2 := 135) (by decide +kernel) (by omega) (by omega)⟩
  · exact ⟨I.s (a1 := 136) (a2 := 136) (by decide +kernel) (by decide) (by decide), by have := I.rw (a := 136) (n := 5) (base := 137) (step := 1) (by decide +kernel) (j := c.toNat) (by omega); rw [show (100 : Int) + 6 * 6 = ((136 : Nat) : Int) from rfl, this]; omega, I.s (a1 := 137) (a2 := 141) (by decide +kernel) (by omega) (by omega)⟩
  · exact ⟨I.s (a1 := 142) (a2 := 142) (by decide +kernel) (by decide) (by decide), by have := I.rw (a := 142) (n := 5) (base := 143) (step := 1) (by decide +kernel) (j := c.toNat) (by omega); rw [show (100 : Int) + 6 * 7 = ((142 : Nat) : Int) from rfl, this]; omega, I.s (a1 := 143) (a2 := 147) (by decide +kernel) (by omega) (by omega)⟩
  · exact ⟨I.s (a1 := 148) (a2 := 148) (by decide +kernel) (by decide) (by decide), by have := I.rw (a := 148) (n := 5) (base := 149) (step := 1) (by decide +kernel) (j := c.toNat) (by omega); rw [show (100 : Int) + 6 * 8 = ((148 : Nat) : Int) from rfl, this]; omega, I.s (a1 := 149) (a2 := 153) (by decide +kernel) (by omega) (by omega)⟩
theorem zI.c3 (I : zI h) {s c x : Int} (hs : 0 ≤ s ∧ s ≤ 8) (hc : 0 ≤ c ∧ c ≤ 4) {j : Nat} (hj : j < 840) : (-2147483648 ≤ fld h (101 + 6 * s + c) j ∧ fld h (101 + 6 * s + c) j ≤ 2147483647) ∧ (-2147483648 ≤ x → x ≤ 2147483647 → zI (wr h (101 + 6 * s + c) j x)) := by
  have e : s = 0 ∨ s = 1 ∨ s = 2 ∨ s = 3 ∨ s = 4 ∨ s = 5 ∨ s = 6 ∨ s = 7 ∨ s = 8 := by omega
  rcases e with rfl | rfl | rfl | rfl | rfl | rfl | rfl | rfl | rfl
  · exact ⟨I.b (a1 := 101) (a2 := 105) (j1 := 0) (j2 := 840) (by decide +kernel) (by omega) (by omega) (by omega) hj, fun k1 k2 => I.w (a1 := 101) (a2 := 105) (j1 := 0) (j2 := 840) (lo := -2147483648) (hi := 2147483647) (by decide +kernel) (by omega) (by omega) (by omega) hj k1 k2⟩
  · exact ⟨I.b (a1 := 107) (a2 := 111) (j1 := 0) (j2 := 840) (by decide +kernel) (by omega) (by omega) (by omega) hj, fun k1 k2 => I.w (a1 := 107) (a2 := 111) (j1 := 0) (j2 := 840) (lo := -2147483648) (hi := 2147483647) (by decide +kernel) (by omega) (by omega) (by omega) hj k1 k2⟩
  · exact ⟨I.b (a1 := 113) (a2 := 117) (j1 := 0) (j2 := 840) (by decide +kernel) (by omega) (by omega) (by omega) hj, fun k1 k2 => I.w (a1 := 113) (a2 := 117) (j1 := 0) (j2 := 840) (lo := -2147483648) (hi := 2147483647) (by decide +kernel) (by omega) (by omega) (by omega) hj k1 k2⟩
  · exact ⟨I.b (a1 := 119) (a2 := 123) (j1 := 0) (j2 := 840) (by decide +kernel) (by omega) (by omega) (by omega) hj, fun k1 k2 => I.w (a1 := 119) (a2 := 123) (j1 := 0) (j2 := 840) (lo := -2147483648) (hi := 2147483647) (by decide +kernel) (by omega) (by omega) (by omega) hj k1 k2⟩
  · exact ⟨I.b (a1 := 125) (a2 := 129) (j1 := 0) (j2 := 840) (by decide +kernel) (by omega) (by omega) (by omega) hj, fun k1 k2 => I.w (a1 := 125) (a2 := 129) (j1 := 0) (j2 := 840) (lo := -2147483648) (hi := 2147483647) (by decide +kernel) (by omega) (by omega) (by omega) hj k1 k2⟩
  · exact ⟨I.b (a1 := 131) (a2 := 135) (j1 := 0) (j2 := 840) (by decide +kernel) (by omega) (by omega) (by omega) hj, fun k1 k2 => I.w (a1 := 131) (a2 := 135) (j1 := 0) (j2 := 840) (lo := -2147483648) (hi := 2147483647) (by decide +kernel) (by omega) (by omega) (by omega) hj k1 k2⟩
  · exact ⟨I.b (a1 := 137) (a2 := 141) (j1 := 0) (j2 := 840) (by decide +kernel) (by omega) (by omega) (by omega) hj, fun k1 k2 => I.w (a1 := 137) (a2 := 141) (j1 := 0) (j2 := 840) (lo := -2147483648) (hi := 2147483647) (by decide +kernel) (by omega) (by omega) (by omega) hj k1 k2⟩
  · exact ⟨I.b (a1 := 143) (a2 := 147) (j1 := 0) (j2 := 840) (by decide +kernel) (by omega) (by omega) (by omega) hj, fun k1 k2 => I.w (a1 := 143) (a2 := 147) (j1 := 0) (j2 := 840) (lo := -2147483648) (hi := 2147483647) (by decide +kernel) (by omega) (by omega) (by omega) hj k1 k2⟩
  · exact ⟨I.b (a1 := 149) (a2 := 153) (j1 := 0) (j2 := 840) (by decide +kernel) (by omega) (by omega) (by omega) hj, fun k1 k2 => I.w (a1 := 149) (a2 := 153) (j1 := 0) (j2 := 840) (lo := -2147483648) (hi := 2147483647) (by decide +kernel) (by omega) (by omega) (by omega) hj k1 k2⟩
theorem zwW_ro2 (I : zI h) {r s c : Int} (e : zwat y pc 32 nx 24 0 = true) (hr : r = 100 + 6 * s) (hs : 0 ≤ s ∧ s ≤ 8) (hc : 0 ≤ c ∧ c ≤ 4) (k : zwW sc D y nx ls ((2, 101 + 6 * s + c) :: st) h Q) : zwW sc D y pc ls ((0, c) :: (2, r) :: st) h Q := by
  subst hr
  obtain ⟨k1, k2, -⟩ := I.c2 hs hc
  exact zwW_ald e k1 (t := 2) rfl hc.1 (by omega) (by rw [k2]; exact k)
theorem zwW_al3 (I : zI h) {r s c i : Int} (e : zwat y pc 32 nx 20 0 = true) (hr : r = 101 + 6 * s + c) (hs : 0 ≤ s ∧ s ≤ 8) (hc : 0 ≤ c ∧ c ≤ 4) (hi : 0 ≤ i ∧ i < 840) (k : ∀ z, z = fld h r i.toNat → -2147483648 ≤ z → z ≤ 2147483647 → zwW sc D y nx ls ((0, z) :: st) h Q) : zwW sc D y pc ls ((0, i) :: (2, r) :: st) h Q := by
  subst hr
  obtain ⟨-, -, k3⟩ := I.c2 hs hc
  obtain ⟨k4, -⟩ := I.c3 hs hc (x := 0) (j := i.toNat) (by omega)
  exact zwW_ald e k3 (t := 0) rfl hi.1 (by omega) (k _ rfl k4.1 k4.2)
theorem zwW_as3 (I : zI h) {r s c i x : Int} (e : zwat y pc 41 nx 20 0 = true) (hr : r = 101 + 6 * s + c) (hs : 0 ≤ s ∧ s ≤ 8) (hc : 0 ≤ c ∧ c ≤ 4) (hi : 0 ≤ i ∧ i < 840) (hx : -2147483648 ≤ x ∧ x ≤ 2147483647) (k : ∀ h', h' = wr h r i.toNat x → zI h' → zwW sc D y nx ls st h' Q) : zwW sc D y pc ls ((0, x) :: (0, i) :: (2, r) :: st) h Q := by
  subst hr
  obtain ⟨-, -, k3⟩ := I.c2 hs hc
  obtain ⟨-, k5⟩ := I.c3 hs hc (x := x) (j := i.toNat) (by omega)
  exact zwW_ast e k3 rfl hi.1 (by omega) rfl (fun h' e => k h' e (by rw [e]; exact k5 hx.1 hx.2))
/-! hands: who weaves has a loom -/
def zMY (h : Hp) : Prop := ∀ (k i : Nat), (k : Int) < fld h 37 86 → (i : Int) < fld h 37 87 → fld h (192 + (k : Int)) i ≠ 0 → 0 < fld h 91 (fld h 188 i).toNat
def zLK (h : Hp) (n : Int) : Prop := ∀ (k i : Nat), (k : Int) < n → (i : Int) < fld h 37 87 → fld h 189 k = (i : Int) → 0 < fld h 91 (fld h 188 i).toNat
theorem zMY.mr {ms : Zms} (H : zMY h) (I : zI h) (R : zMR ms h h') (e : (zqN ms 37 37 86 88 && (zqN ms 192 197 0 6 && (zqN ms 91 91 0 20 && zqN ms 188 188 0 6))) = true) : zMY h' := by
  simp only [Bool.and_eq_true] at e
  obtain ⟨e1, e2, e3, e4⟩ := e
  have b1 := I.b (a1 := 37) (a2 := 37) (j1 := 86) (j2 := 87) (lo := 0) (hi := 6) (by decide +kernel) (r := 37) (j := 86) (by decide) (by decide) (by decide) (by decide)
  have b2 := I.b (a1 := 37) (a2 := 37) (j1 := 87) (j2 := 88) (lo := 0) (hi := 6) (by decide +kernel) (r := 37) (j := 87) (by decide) (by decide) (by decide) (by decide)
  intro k i hk hi hm
  rw [R.f e1 ⟨by decide, by decide⟩ ⟨by decide, by decide⟩] at hk hi
  rw [R.f e2 ⟨by omega, by omega⟩ ⟨by omega, by omega⟩] at hm
  have b3 := I.b (a1 := 188) (a2 := 188) (j1 := 0) (j2 := 6) (lo := 0) (hi := 19) (by decide +kernel) (r := 188) (j := i) (by decide) (by decide) (by omega) (by omega)
  have q4 := R.f e4 (r := 188) (j := i) ⟨by decide, by decide⟩ ⟨by omega, by omega⟩
  have q3 := R.f e3 (r := 91) (j := (fld h 188 i).toNat) ⟨by decide, by decide⟩ ⟨by omega, by omega⟩
  rw [q4, q3]
  exact H k i hk hi hm
theorem zLK.mr {ms : Zms} {n : Int} (H : zLK h n) (I : zI h) (R : zMR ms h h') (hn : n ≤ 6) (e : (zqN ms 37 37 87 88 && (zqN ms 189 189 0 6 && (zqN ms 91 91 0 20 && zqN ms 188 188 0 6))) = true) : zLK h' n := by
  simp only [Bool.and_eq_true] at e
  obtain ⟨e1, e2, e3, e4⟩ := e
  have b2 := I.b (a1 := 37) (a2 := 37) (j1 := 87) (j2 := 88) (lo := 0) (hi := 6) (by decide +kernel) (r := 37) (j := 87) (by decide) (by decide) (by decide) (by decide)
  intro k i hk hi hm
  rw [R.f e1 ⟨by decide, by decide⟩ ⟨by decide, by decide⟩] at hi
  rw [R.f e2 ⟨by decide, by decide⟩ ⟨by omega, by omega⟩] at hm
  have b3 := I.b (a1 := 188) (a2 := 188) (j1 := 0) (j2 := 6) (lo := 0) (hi := 19) (by decide +kernel) (r := 188) (j := i) (by decide) (by decide) (by omega) (by omega)
  have q4 := R.f e4 (r := 188) (j := i) ⟨by decide, by decide⟩ ⟨by omega, by omega⟩
  have q3 := R.f e3 (r := 91) (j := (fld h 188 i).toNat) ⟨by decide, by decide⟩ ⟨by omega, by omega⟩
  rw [q4, q3]
  exact H k i hk hi hm
end ZM
