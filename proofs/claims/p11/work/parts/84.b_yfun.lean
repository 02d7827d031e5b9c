/-! what each call answers, and what it leaves, of the tables alone -/
section YF
variable {S T : zT} {a b c i k : Nat} {x y : Int}
theorem zs_sw {j : Nat} (h : a ≠ b) : zs (zs S a i x) b j y = zs (zs S b j y) a i x := by
  funext p q
  rw [zs_if, zs_if, zs_if, zs_if]
  by_cases h1 : p = b ∧ q = j
  · rw [if_pos h1, if_neg (by omega), if_pos h1]
  · rw [if_neg h1]
    by_cases h2 : p = a ∧ q = i
    · rw [if_pos h2, if_pos h2]
    · rw [if_neg h2, if_neg h2, if_neg h1]
def yCoinA (S : zT) (a b : Int) : Int := if (0 ≤ a ∧ a < S 37 2) ∧ (-9999 ≤ b ∧ b ≤ 9999) then w32 (S 84 a.toNat + b) else -2147483648
def yCoin (S : zT) (a b : Int) : zT := if (0 ≤ a ∧ a < S 37 2) ∧ (-9999 ≤ b ∧ b ≤ 9999) then zs S 84 a.toNat (w32 (S 84 a.toNat + b)) else S
def yCottA (S : zT) (a b : Int) : Int := if (0 ≤ a ∧ a < S 37 1) ∧ (1 ≤ b ∧ b ≤ 999) ∧ w32 (S 66 a.toNat + b) ≤ 9999 then w32 (S 66 a.toNat + b) else -1
def yCott (S : zT) (a b : Int) : zT := if (0 ≤ a ∧ a < S 37 1) ∧ (1 ≤ b ∧ b ≤ 999) ∧ w32 (S 66 a.toNat + b) ≤ 9999 then zs S 66 a.toNat (w32 (S 66 a.toNat + b)) else S
def yMillA (S : zT) (a b : Int) : Int := if (0 ≤ a ∧ a < S 37 1) ∧ (1 ≤ b ∧ b ≤ 999) ∧ w32 (S 69 a.toNat + b) ≤ 9999 then w32 (S 69 a.toNat + b) else -1
def yMill (S : zT) (a b : Int) : zT := if (0 ≤ a ∧ a < S 37 1) ∧ (1 ≤ b ∧ b ≤ 999) ∧ w32 (S 69 a.toNat + b) ≤ 9999 then zs S 69 a.toNat (w32 (S 69 a.toNat + b)) else S
def ySoldA (S : zT) (a b : Int) : Int := if (0 ≤ a ∧ a < S 37 1) ∧ (1 ≤ b ∧ b ≤ 999) ∧ S 74 a.toNat + b ≤ 9999 then S 74 a.toNat + b else -1
def ySold (S : zT) (a b : Int) : zT := if (0 ≤ a ∧ a < S 37 1) ∧ (1 ≤ b ∧ b ≤ 999) ∧ S 74 a.toNat + b ≤ 9999 then zs S 74 a.toNat (S 74 a.toNat + b) else S
def yPricA (S : zT) (a b : Int) : Int := if (0 ≤ a ∧ a < S 37 1) ∧ 0 ≤ b ∧ 1 ≤ b / 100 ∧ b / 100 ≤ 99 ∧ 1 ≤ b % 100 then 1 else 0
def yPric (S : zT) (a b : Int) : zT := if (0 ≤ a ∧ a < S 37 1) ∧ 0 ≤ b ∧ 1 ≤ b / 100 ∧ b / 100 ≤ 99 ∧ 1 ≤ b % 100 then zs (zs S 70 a.toNat (b / 100)) 71 a.toNat (b % 100) else S
def yTalkA (S : zT) (a b : Int) : Int := if (0 ≤ a ∧ a < S 37 1) ∧ 0 ≤ b ∧ b ≤ 20 then b else -1
def yTalk (S : zT) (a b : Int) : zT := if (0 ≤ a ∧ a < S 37 1) ∧ 0 ≤ b ∧ b ≤ 20 then zs S 72 a.toNat b else S
def yAimA (S : zT) (a b : Int) : Int := if (0 ≤ a ∧ a < S 37 2) ∧ 4 ≤ b ∧ b ≤ 60 then 1 else 0
def yAim (S : zT) (a b : Int) : zT := if (0 ≤ a ∧ a < S 37 2) ∧ 4 ≤ b ∧ b ≤ 60 then zs S 85 a.toNat b else S
def yLoomA (S : zT) (a b c : Int) : Int := if (0 ≤ a ∧ a < S 37 2) ∧ S 91 a.toNat ≤ 0 ∧ 0 ≤ b ∧ 4 ≤ b / 100 ∧ b / 100 ≤ b % 100 ∧ b % 100 ≤ 60 ∧ 1 ≤ c ∧ c ≤ 40 then 1 else 0
def yLoom (S : zT) (a b c : Int) : zT := if (0 ≤ a ∧ a < S 37 2) ∧ S 91 a.toNat ≤ 0 ∧ 0 ≤ b ∧ 4 ≤ b / 100 ∧ b / 100 ≤ b % 100 ∧ b % 100 ≤ 60 ∧ 1 ≤ c ∧ c ≤ 40 then zs (zs (zs S 89 a.toNat (b / 100)) 90 a.toNat (b % 100)) 91 a.toNat c else S
def yGiftA (S : zT) (a b c : Int) : Int := if (1 ≤ a ∧ a ≤ 99) ∧ (0 ≤ b ∧ b < S 37 2) ∧ (0 ≤ c ∧ c ≤ 2) ∧ S 37 96 < 8 then S 37 96 else -1
def yGift (S : zT) (a b c : Int) : zT := if (1 ≤ a ∧ a ≤ 99) ∧ (0 ≤ b ∧ b < S 37 2) ∧ (0 ≤ c ∧ c ≤ 2) ∧ S 37 96 < 8 then zs (zs (zs (zs S 363 (S 37 96).toNat a) 364 (S 37 96).toNat b) 365 (S 37 96).toNat c) 37 96 (S 37 96 + 1) else S
def yForgA (S : zT) : Int := S 37 96
def yForg (S : zT) : zT := zs S 37 96 0
def yPayA (S : zT) (a b c : Int) : Int := if (0 ≤ a ∧ a < S 37 2) ∧ (0 ≤ b ∧ b < S 37 64) ∧ (1 ≤ c ∧ c ≤ S 175 b.toNat) then w32 (S 93 a.toNat - w32 (S 94 a.toNat + c)) else -2147483648
def yPay (S : zT) (a b c : Int) : zT := if (0 ≤ a ∧ a < S 37 2) ∧ (0 ≤ b ∧ b < S 37 64) ∧ (1 ≤ c ∧ c ≤ S 175 b.toNat) then (if S 170 b.toNat = a then zs (zs (zs S 175 b.toNat (w32 (S 175 b.toNat - c))) 94 a.toNat (w32 (S 94 a.toNat + c))) 37 69 (w32 (S 37 69 + c)) else zs (zs (zs (zs S 175 b.toNat (w32 (S 175 b.toNat - c))) 94 a.toNat (w32 (S 94 a.toNat + c))) 96 a.toNat (w32 (S 96 a.toNat + c))) 37 69 (w32 (S 37 69 + c))) else S
def yLotA (S : zT) (a b : Int) : Int := if 0 ≤ a ∧ a < S 37 64 then (if b = 0 then S 170 a.toNat else if b = 1 then S 171 a.toNat else if b = 2 then S 172 a.toNat else if b = 3 then S 173 a.toNat else if b = 4 then S 174 a.toNat else if b = 5 then S 175 a.toNat else -1) else -1
def yDueA (S : zT) (a b : Int) : Int := if 0 ≤ a ∧ a < S 37 2 then (if b = 0 then w32 (S 93 a.toNat - S 94 a.toNat) else if b = 1 then S 94 a.toNat else if b = 2 then S 95 a.toNat else if b = 3 then max (w32 (S 94 a.toNat - S 95 a.toNat)) 0 else if b = 4 then S 96 a.toNat else -2147483648) else -2147483648
def yClotA (S : zT) (a b : Int) : Int := if 0 ≤ a ∧ a < S 37 78 then (if b = 0 then S 180 a.toNat else if b = 1 then S 181 a.toNat else if b = 2 then S 182 a.toNat else if b = 3 then S 183 a.toNat else if b = 4 then S 185 a.toNat else if b = 5 then S 170 (S 180 a.toNat).toNat else if b = 6 then S 171 (S 180 a.toNat).toNat else if b = 7 then S 184 a.toNat else -1) else -1
def yIsA (S : zT) (a b : Int) : Int := if 0 ≤ a ∧ a < S 37 1 then (if b = 0 then S 66 a.toNat else if b = 1 then S 67 a.toNat else if b = 2 then S 68 a.toNat else if b = 3 then S 69 a.toNat else if b = 4 then S 70 a.toNat else if b = 5 then S 71 a.toNat else if b = 6 then S 72 a.toNat else if b = 7 then S 73 a.toNat else if b = 8 then S 74 a.toNat else if b = 9 then S 76 a.toNat else if b = 10 then S 77 a.toNat else -1) else -1
def yHasA (S : zT) (a b : Int) : Int := if 0 ≤ a ∧ a < S 37 2 then (if b = 0 then S 79 a.toNat else if b = 1 then S 80 a.toNat else if b = 2 then S 81 a.toNat else if b = 3 then S 82 a.toNat else if b = 4 then S 83 a.toNat else if b = 5 then S 84 a.toNat else if b = 6 then S 85 a.toNat else if b = 7 then S 86 a.toNat else if b = 8 then S 87 a.toNat else if b = 9 then S 88 a.toNat else if b = 10 then (if 0 < S 91 a.toNat then S 92 a.toNat else -1) else -2147483648) else -2147483648
def yCntA (S : zT) (b : Int) : Int := if b = 0 then S 37 0 else if b = 1 then S 37 1 else if b = 2 then S 37 2 else if b = 3 then S 37 64 else if b = 4 then S 37 52 else if b = 5 then S 37 78 else if b = 6 then S 37 41 else if b = 7 then S 37 86 else if b = 8 then S 37 96 else if b = 9 then S 37 38 else -1
def yFls (S : zT) (v : Nat) (m : Int) : Int := if m = 0 then max (w32 (S 74 v - S 75 v)) 0 else max (w32 (S 74 v - S 76 v)) 0
theorem yFls_1 {v : Nat} {m : Int} (h : m ≠ 0) : yFls S v m = yFls S v 1 := by unfold yFls; rw [if_neg h, if_neg (by decide)]
theorem yFls_0 {v : Nat} {m : Int} (h : m = 0) : yFls S v m = yFls S v 0 := by rw [h]
def yWrngA (S : zT) (a m : Int) : Int := if 0 ≤ a ∧ a < S 37 1 then yFls S a.toNat m else -1
def yGap (S : zT) (v : Nat) : Int := w32 (yFls S v 1 - yFls S v 0)
def yLk (S : zT) : Nat → Int × Int
  | 0 => (-1, 0)
  | k + 1 => if (yLk S k).2 < yGap S k then ((k : Int), yGap S k) else yLk S k
def yLookA (S : zT) : Int := (yLk S (S 37 1).toNat).1
def yToldA (S : zT) (a b : Int) : Int := if (0 ≤ a ∧ a < S 37 0) ∧ (0 ≤ b ∧ b ≤ 5) then S 206 (6 * a.toNat + b.toNat) else -1
def yTell (S : zT) (a b c : Int) : zT := zs (zs (zs (zs S 363 (S 37 96).toNat a) 364 (S 37 96).toNat b) 365 (S 37 96).toNat c) 37 96 (S 37 96 + 1)
def yNumA (S : zT) (a b : Int) : Int := if (0 ≤ a ∧ a < 156) ∧ (0 ≤ b ∧ b < 6) then S 206 (6 * a.toNat + b.toNat) else 0
theorem w32_sub {u v : Int} : w32 (w32 u - v) = w32 (u - v) := by
  unfold w32
  omega
def yOwin (S : zT) (a : Int) : Int := w32 (S 93 a.toNat - S 94 a.toNat)
theorem yOwin_s {b j : Nat} {v : Int} (h : b ≠ 93 ∧ b ≠ 94) : yOwin (zs S b j v) x = yOwin S x := by
  unfold yOwin
  rw [zs_na (Ne.symm h.1), zs_na (Ne.symm h.2)]
def yForcA (S : zT) (a b : Int) : Int := if (0 ≤ a ∧ a < S 37 52) ∧ (S 37 0 ≤ b ∧ b ≤ 155) ∧ S 37 53 < 12 then S 37 53 + 1 else -1
def yForc (S : zT) (a b : Int) : zT := if (0 ≤ a ∧ a < S 37 52) ∧ (S 37 0 ≤ b ∧ b ≤ 155) ∧ S 37 53 < 12 then zs (zs (zs S 164 (S 37 53).toNat a) 165 (S 37 53).toNat b) 37 53 (S 37 53 + 1) else S
def yHg (S : zT) (g : Int) : Nat → Int
  | 0 => 0
  | k + 1 => if S 84 k < S 83 k * g then i_or (yHg S g k) (i_shl 1 (k : Int)) else yHg S g k
def yHunA (S : zT) (g : Int) : Int := if 1 ≤ g ∧ g ≤ 99 then yHg S g (S 37 2).toNat else -1
theorem i_or_0 (h : -2147483648 ≤ x ∧ x ≤ 2147483647) : i_or x 0 = x := by
  unfold i_or z32
  rw [show ((0 : Int) % 4294967296).toNat = 0 from rfl, Nat.or_zero, show (((x % 4294967296).toNat : Nat) : Int) = x % 4294967296 by omega]
  unfold w32
  omega
theorem i_or_in {x y : Int} : -2147483648 ≤ i_or x y ∧ i_or x y ≤ 2147483647 := by
  unfold i_or w32
  omega
end YF
