/-! roads: the least days, measured village by village -/
section ZRO
variable {h h' g : Hp} {W L M : Nat → Nat → Int}
def zLa (h : Hp) (a b : Nat) : Int := fld h 7 (8 * a + b)
def zLe (h : Hp) (a b : Nat) : Int := fld h 8 (8 * a + b)
/-- what is laid: nothing to itself, 1000000 without a road -/
def zLd (h : Hp) : Prop := ∀ a b : Nat, a < 8 → b < 8 → 0 ≤ zLa h a b ∧ zLa h a b ≤ 1000000 ∧ (a = b → zLa h a b = 0)
/-- L: the least days by villages below n -/
def zFw (W L : Nat → Nat → Int) (n : Nat) : Prop :=
  (∀ a b : Nat, a < 8 → b < 8 → 0 ≤ L a b ∧ L a b ≤ W a b ∧ W a b ≤ 1000000) ∧ (∀ a : Nat, a < 8 → L a a = 0) ∧
  (∀ a b c : Nat, a < 8 → b < 8 → c < n → c < 8 → L a b ≤ L a c + L c b) ∧
  (∀ a b : Nat, a < 8 → b < 8 → a ≠ b → L a b < 1000000 → ∃ c : Nat, c < 8 ∧ c ≠ b ∧ W c b < 1000000 ∧ L a c + W c b ≤ L a b)
theorem zFw_start (H : zLd h) (e : ∀ a b : Nat, a < 8 → b < 8 → zLe h a b = zLa h a b) : zFw (zLa h) (zLe h) 0 := by
  refine ⟨fun a b ha hb => ?_, fun a ha => ?_, fun a b c _ _ hc => by omega, fun a b ha hb hne hl => ⟨a, ha, hne, ?_, ?_⟩⟩
  · have := H a b ha hb
    rw [e a b ha hb]
    omega
  · rw [e a a ha ha]
    exact (H a a ha ha).2.2 rfl
  · rw [← e a b ha hb]; exact hl
  · rw [e a a ha ha, e a b ha hb, (H a a ha ha).2.2 rfl]
    omega
/-- up to row f, place t, stage n is done -/
def zCu (L : Nat → Nat → Int) (n f t : Nat) (M : Nat → Nat → Int) : Prop := ∀ a b : Nat, a < 8 → b < 8 → M a b = if a < f ∨ (a = f ∧ b < t) then min (L a b) (L a n + L n b) else L a b
theorem zCu.start (n : Nat) : zCu L n 0 0 L := by
  intro a b _ _
  rw [if_neg (by omega)]
theorem zCu.row {n f t : Nat} (H : zCu L n f t M) (ht : 8 ≤ t) : zCu L n (f + 1) 0 M := by
  intro a b ha hb
  rw [H a b ha hb]
  by_cases z : a < f ∨ (a = f ∧ b < t)
  · rw [if_pos z, if_pos (by omega)]
  · rw [if_neg z, if_neg (by omega)]
theorem zCu.w {n f t i : Nat} {x : Int} {k : Nat} (H : zCu L n f t (zLe h)) (hn : n < 8) (hf : f < 8) (ht : t < 8) (h0 : L n n = 0) (hp : ∀ a b : Nat, a < 8 → b < 8 → 0 ≤ L a b) (e : h' = wr h 8 i x) (hi : i = 8 * f + t) (s : sh h 8 = some (k, 64)) (hx : x = min (zLe h f t) (zLe h f n + zLe h n t)) : zCu L n f (t + 1) (zLe h') := by
  have c1 : zLe h f t = L f t := by rw [H f t hf ht, if_neg (by omega)]
  have c2 : zLe h f n = L f n := by
    rw [H f n hf hn]
    split
    · rw [h0]; omega
    · rfl
  have c3 : zLe h n t = L n t := by
    rw [H n t hn ht]
    split
    · rw [h0]; omega
    · rfl
  rw [c1, c2, c3] at hx
  intro a b ha hb
  by_cases z : a = f ∧ b = t
  · obtain ⟨rfl, rfl⟩ := z
    rw [if_pos (by omega), ← hx]
    show fld h' 8 (8 * a + b) = x
    rw [← hi, e]
    exact fld_wr_eq s (by omega)
  · have w : zLe h' a b = zLe h a b := by
      show fld h' 8 (8 * a + b) = fld h 8 (8 * a + b)
      rw [e]
      exact fld_wr (Or.inr (by omega))
    rw [w, H a b ha hb]
    by_cases q : a < f ∨ (a = f ∧ b < t)
    · rw [if_pos q, if_pos (by omega)]
    · rw [if_neg q, if_neg (by omega)]
theorem zFw.next {n f : Nat} (F : zFw W L n) (hn : n < 8) (H : zCu L n f 0 M) (hf : 8 ≤ f) : zFw W M (n + 1) := by
  obtain ⟨F1, F2, F3, F4⟩ := F
  have m : ∀ a b : Nat, a < 8 → b < 8 → M a b = min (L a b) (L a n + L n b) := fun a b ha hb => by rw [H a b ha hb, if_pos (by omega)]
  refine ⟨fun a b ha hb => ?_, fun a ha => ?_, fun a b c ha hb hc hc8 => ?_, fun a b ha hb hne hl => ?_⟩
  · have := F1 a b ha hb
    have := F1 a n ha hn
    have := F1 n b hn hb
    rw [m a b ha hb]
    omega
  · have := F1 a n ha hn
    have := F1 n a hn ha
    rw [m a a ha ha, F2 a ha]
    omega
  · rw [m a b ha hb, m a c ha hc8, m c b hc8 hb]
    have p1 := F1 a n ha hn
    have p2 := F1 n b hn hb
    have p3 := F2 n hn
    by_cases q : c = n
    · subst q
      rw [p3]
      omega
    · have t1 := F3 a b c ha hb (by omega) hc8
      have t2 := F3 n b c hn hb (by omega) hc8
      have t3 := F3 a n c ha hn (by omega) hc8
      have t4 := F3 n n c hn hn (by omega) hc8
      omega
  · rw [m a b ha hb] at hl
    by_cases q : L a b ≤ L a n + L n b
    · obtain ⟨c, c1, c2, c3, c4⟩ := F4 a b ha hb hne (by omega)
      refine ⟨c, c1, c2, c3, ?_⟩
      rw [m a c ha c1, m a b ha hb]
      omega
    · have nb : n ≠ b := by
        intro z
        subst z
        rw [F2 n hn] at q
        omega
      have p1 := F1 a n ha hn
      obtain ⟨c, c1, c2, c3, c4⟩ := F4 n b hn hb nb (by omega)
      refine ⟨c, c1, c2, c3, ?_⟩
      rw [m a c ha c1, m a b ha hb]
      omega
/-- what is laid, behind two writes -/
theorem zLd.w {h1 h2 : Hp} {a b i j k k2 : Nat} {x : Int} (H : zLd h) (ha : a < 8) (hb : b < 8) (hne : a ≠ b) (hx : 1 ≤ x ∧ x ≤ 9) (e1 : h1 = wr h 7 i x) (e2 : h2 = wr h1 7 j x) (hi : i = 8 * a + b) (hj : j = 8 * b + a) (s1 : sh h 7 = some (k, 64)) (s2 : sh h1 7 = some (k2, 64)) : zLd h2 ∧ ∀ p q : Nat, p < 8 → q < 8 → zLa h2 p q = if (p = a ∧ q = b) ∨ (p = b ∧ q = a) then x else zLa h p q := by
  have w : ∀ p q : Nat, p < 8 → q < 8 → zLa h2 p q = if (p = a ∧ q = b) ∨ (p = b ∧ q = a) then x else zLa h p q := by
    intro p q hp hq
    show fld h2 7 (8 * p + q) = _
    by_cases z2 : p = b ∧ q = a
    · obtain ⟨rfl, rfl⟩ := z2
      rw [if_pos (Or.inr ⟨rfl, rfl⟩), ← hj, e2]
      exact fld_wr_eq s2 (by omega)
    · rw [e2, fld_wr (Or.inr (by omega))]
      by_cases z1 : p = a ∧ q = b
      · obtain ⟨rfl, rfl⟩ := z1
        rw [if_pos (Or.inl ⟨rfl, rfl⟩), ← hi, e1]
        exact fld_wr_eq s1 (by omega)
      · rw [e1, fld_wr (Or.inr (by omega)), if_neg (by omega)]
        rfl
  refine ⟨fun p q hp hq => ?_, w⟩
  rw [w p q hp hq]
  split
  · omega
  · exact H p q hp hq
end ZRO
section ZRO2
variable {h h' h1 g : Hp} {W W' L M : Nat → Nat → Int}
theorem zFw.cg {n : Nat} (F : zFw W L n) (e : ∀ a b : Nat, a < 8 → b < 8 → W' a b = W a b) : zFw W' L n := by
  obtain ⟨F1, F2, F3, F4⟩ := F
  refine ⟨fun a b ha hb => by rw [e a b ha hb]; exact F1 a b ha hb, F2, F3, fun a b ha hb hne hl => ?_⟩
  obtain ⟨c, c1, c2, c3, c4⟩ := F4 a b ha hb hne hl
  exact ⟨c, c1, c2, by rw [e c b c1 hb]; exact c3, by rw [e c b c1 hb]; exact c4⟩
theorem zFw.cg2 {n : Nat} (F : zFw W L n) (e : ∀ a b : Nat, a < 8 → b < 8 → M a b = L a b) (hn : n ≤ 8) : zFw W M n := by
  obtain ⟨F1, F2, F3, F4⟩ := F
  refine ⟨fun a b ha hb => by rw [e a b ha hb]; exact F1 a b ha hb, fun a ha => by rw [e a a ha ha]; exact F2 a ha, fun a b c ha hb hc hc8 => by rw [e a b ha hb, e a c ha hc8, e c b hc8 hb]; exact F3 a b c ha hb hc hc8, fun a b ha hb hne hl => ?_⟩
  rw [e a b ha hb] at hl
  obtain ⟨c, c1, c2, c3, c4⟩ := F4 a b ha hb hne hl
  exact ⟨c, c1, c2, c3, by rw [e a b ha hb, e a c ha c1]; exact c4⟩
theorem zFw.cb {n f t : Nat} (F : zFw W L n) (H : zCu L n f t M) (hn : n < 8) {a b : Nat} (ha : a < 8) (hb : b < 8) : 0 ≤ M a b ∧ M a b ≤ 1000000 := by
  have p1 := F.1 a b ha hb
  have p2 := F.1 a n ha hn
  have p3 := F.1 n b hn hb
  rw [H a b ha hb]
  split <;> omega
/-- far: the least days, -1 without a way -/
def zDa (h : Hp) (a b : Nat) : Int := if zLe h a b < 1000000 then zLe h a b else -1
/-- the model's days and what is laid -/
def zDm (h : Hp) : Prop := ∀ a b : Nat, a < 8 → b < 8 → (zLa h a b = if a = b then 0 else if fld h (48 + (a : Int)) b = 0 then 1000000 else fld h (48 + (a : Int)) b) ∧ (fld h (48 + (a : Int)) b ≠ 0 → a ≠ b ∧ (a : Int) < fld h 37 1 ∧ (b : Int) < fld h 37 1 ∧ 1 ≤ fld h (48 + (a : Int)) b ∧ fld h (48 + (a : Int)) b ≤ 9)
def zRO (h : Hp) : Prop := zLd h ∧ zFw (zLa h) (zLe h) 8 ∧ zDm h
end ZRO2
