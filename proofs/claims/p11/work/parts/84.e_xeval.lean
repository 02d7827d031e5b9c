/-! sheets of the tables: which counts, and what it answers -/
section XE
variable {S T : zT} {N N' : Nat → Int} {s c i k m n : Nat} {x y a b w : Int}
/-- a step of the model's codes as the class writes it -/
def eEn (op v : Int) : Int := if op = 110 then v else if op = 118 then -1 - v else if op = 33 then -20 else if op = 38 then -19 else if op = 124 then -18 else -op
/-- codes of clause c of sheet s -/
def yCd (S : zT) (s c : Nat) : Nat → Int := fun k => eEn (S 101 (840 * (6 * s + c) + 2 * k)) (S 101 (840 * (6 * s + c) + (2 * k + 1)))
def yLn (S : zT) (s c : Nat) : Int := S 155 (5 * s + c)
/-- of the first k that were put in force the one that counts for clause c in week w (-1: none) -/
def yBs (S : zT) (c : Nat) (w : Int) : Nat → Int
  | 0 => -1
  | k + 1 => if S 165 k ≤ w ∧ 0 < yLn S (S 164 k).toNat c ∧ (yBs S c w k = -1 ∨ S 165 (yBs S c w k).toNat ≤ S 165 k) then (k : Int) else yBs S c w k
def ySf (S : zT) (c : Nat) (w : Int) : Int := if yBs S c w (S 37 53).toNat = -1 then -1 else S 164 (yBs S c w (S 37 53).toNat).toNat
theorem yBs_b (S : zT) (c : Nat) (w : Int) : ∀ k : Nat, -1 ≤ yBs S c w k ∧ yBs S c w k < k
  | 0 => ⟨by show (-1 : Int) ≤ -1; omega, by show (-1 : Int) < 0; omega⟩
  | k + 1 => by
    have := yBs_b S c w k
    unfold yBs
    split <;> omega
/-- the one that counts has the clause -/
theorem yBs_l (S : zT) (c : Nat) (w : Int) : ∀ k : Nat, yBs S c w k ≠ -1 → 0 < yLn S (S 164 (yBs S c w k).toNat).toNat c
  | 0, h => absurd rfl h
  | k + 1, h => by
    unfold yBs at h ⊢
    split
    · rename_i q
      rw [Int.toNat_natCast]
      exact q.2.1
    · rename_i q
      rw [if_neg q] at h
      exact yBs_l S c w k h
/-- what a clause answers by names -/
def yTl (S : zT) (c : Nat) (N : Nat → Int) : Int := if ySf S c (S 37 0) = -1 then (if c = 0 ∨ c = 2 then 0 else 1) else (eRn N (yCd S (ySf S c (S 37 0)).toNat c) 0 (yLn S (ySf S c (S 37 0)).toNat c).toNat ((fun _ => 0), 0)).1 0
theorem eSt_N (H : ∀ j, j < 13 → N j = N' j) (x : Int) (p : eT) : eSt N x p = eSt N' x p := by
  unfold eSt
  by_cases h1 : 0 ≤ x
  · rw [if_pos h1, if_pos h1]
  · rw [if_neg h1, if_neg h1]
    by_cases h2 : -13 ≤ x
    · rw [if_pos h2, if_pos h2, H _ (by omega)]
    · rw [if_neg h2, if_neg h2]
theorem eRn_N {F : Nat → Int} (H : ∀ j, j < 13 → N j = N' j) (p : eT) : ∀ m, eRn N F i m p = eRn N' F i m p
  | 0 => rfl
  | m + 1 => by
    show eSt N (F (i + m)) (eRn N F i m p) = eSt N' (F (i + m)) (eRn N' F i m p)
    rw [eRn_N H p m, eSt_N H]
theorem yTl_N (H : ∀ j, j < 13 → N j = N' j) : yTl S c N = yTl S c N' := by
  unfold yTl
  rw [eRn_N H]
/-- the sheets' codes are good -/
def yCk (S : zT) : Prop := ∀ s c : Nat, (s : Int) < S 37 52 → c < 5 → 0 < yLn S s c → yLn S s c ≤ 400 ∧ (∀ N : Nat → Int, eNs N → eSg N (yCd S s c) (if c < 3 then eNum else eBit) 0 (yLn S s c).toNat) ∧ ∀ k : Nat, (k : Int) < yLn S s c → (S 101 (840 * (6 * s + c) + 2 * k) = 110 ∧ 0 ≤ S 101 (840 * (6 * s + c) + (2 * k + 1))) ∨ (S 101 (840 * (6 * s + c) + 2 * k) = 118 ∧ 0 ≤ S 101 (840 * (6 * s + c) + (2 * k + 1)) ∧ S 101 (840 * (6 * s + c) + (2 * k + 1)) ≤ 12) ∨ (S 101 (840 * (6 * s + c) + 2 * k) = 33 ∨ S 101 (840 * (6 * s + c) + 2 * k) = 38 ∨ S 101 (840 * (6 * s + c) + 2 * k) = 124 ∨ S 101 (840 * (6 * s + c) + 2 * k) = 43 ∨ S 101 (840 * (6 * s + c) + 2 * k) = 45 ∨ S 101 (840 * (6 * s + c) + 2 * k) = 42 ∨ S 101 (840 * (6 * s + c) + 2 * k) = 47 ∨ S 101 (840 * (6 * s + c) + 2 * k) = 60 ∨ S 101 (840 * (6 * s + c) + 2 * k) = 62 ∨ S 101 (840 * (6 * s + c) + 2 * k) = 61)
/-! names -/
def yN0 (S : zT) : Nat → Int := fun j => if j = 0 then S 37 0 else if j = 1 then S 37 0 / 13 % 4 else 0
def yId (S : zT) (v : Nat) : Int := S 39 (4 * v + yEp S)
def yNh (S : zT) (h : Nat) : Nat → Int := fun j => if j = 2 then S 83 h else if j = 3 then S 80 h else if j = 4 then S 81 h else if j = 5 then S 82 h else if j = 10 then yId S (S 79 h).toNat else yN0 S j
def yNd (S : zT) (v : Nat) : Nat → Int := fun j => if j = 12 then S 71 v else yN0 S j
def yNw (S : zT) (h : Nat) (o ct sg hk fr : Int) : Nat → Int := fun j => if j = 6 then o else if j = 7 then ct else if j = 8 then sg else if j = 9 then hk else if j = 11 then fr else yNh S h j
def yDu (S : zT) (v : Nat) : Int := max (yTl S 2 (yNd S v)) 0
def yOw (S : zT) (h : Nat) : Int := max (yTl S 0 (yNh S h)) 0
/-! what the class's long arithmetic comes to -/
theorem w64_mul (ha : eNum a) (hb : eNum b) : w64 (a * b) = a * b ∧ -1000000000000 ≤ a * b ∧ a * b ≤ 1000000000000 := by
  unfold eNum at ha hb
  have h1 : (a * b).natAbs ≤ 1000000 * 1000000 := by
    rw [Int.natAbs_mul]
    exact Nat.mul_le_mul (by omega) (by omega)
  have h2 : -1000000000000 ≤ a * b ∧ a * b ≤ 1000000000000 := by omega
  refine ⟨?_, h2⟩
  unfold w64
  omega
theorem l_bit (ha : eBit a) (hb : eBit b) : l_and a b = i_and a b ∧ l_or a b = i_or a b ∧ eBit (i_and a b) ∧ eBit (i_or a b) := by
  unfold eBit at ha hb
  rcases ha with rfl | rfl <;> rcases hb with rfl | rfl <;> (unfold eBit; decide)
end XE
