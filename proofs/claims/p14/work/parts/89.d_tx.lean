/-! the TEXT's bytes on both sides -/
section TX
variable {f f2 : Nat → Int} {n k i j : Nat} {v x y z : Int}
theorem i_and255 (z : Int) : 0 ≤ i_and z 255 ∧ i_and z 255 ≤ 255 ∧ i_byt (i_and z 255) = i_byt z := by
  have e : i_and z 255 = ((z32 z % 256 : Nat) : Int) := by
    unfold i_and
    rw [show z32 255 = 2 ^ 8 - 1 from rfl, Nat.and_two_pow_sub_one_eq_mod]
    unfold w32
    omega
  rw [e]
  unfold i_byt z32
  omega
theorem i_byt2 (z : Int) : i_byt (i_byt z) = i_byt z := by
  unfold i_byt
  omega
theorem zu_cg {f f2 : Nat → Int} (h1 : f = f2) (h2 : i = j) (h3 : x = y) : zu f i x = zu f2 j y := by rw [h1, h2, h3]
/-- what four bytes put, in the class and in the model -/
def fBx (f : Nat → Int) (n : Nat) (v : Int) : Nat → (Nat → Int)
  | 0 => f
  | k + 1 => zu (fBx f n v k) (n + k) (i_and (i_ushr v (24 - 8 * (k : Int))) 255)
def fBm (f : Nat → Int) (n : Nat) (v : Int) : Nat → (Nat → Int)
  | 0 => f
  | k + 1 => zu (fBm f n v k) (n + k) (i_byt (i_ushr v (8 * (3 - (k : Int)))))
def fRel (f f2 : Nat → Int) : Prop := ∀ i, i < 400 → (0 ≤ f i ∧ f i ≤ 255) ∧ f2 i = i_byt (f i)
theorem fRel.st (R : fRel f f2) (n : Nat) (v : Int) : ∀ k : Nat, fRel (fBx f n v k) (fBm f2 n v k)
  | 0 => R
  | k + 1 => fun i hi => by
    have q := i_and255 (i_ushr v (24 - 8 * (k : Int)))
    show (0 ≤ zu (fBx f n v k) (n + k) (i_and (i_ushr v (24 - 8 * (k : Int))) 255) i ∧ zu (fBx f n v k) (n + k) (i_and (i_ushr v (24 - 8 * (k : Int))) 255) i ≤ 255) ∧ zu (fBm f2 n v k) (n + k) (i_byt (i_ushr v (8 * (3 - (k : Int))))) i = i_byt (zu (fBx f n v k) (n + k) (i_and (i_ushr v (24 - 8 * (k : Int))) 255) i)
    by_cases c : i = n + k
    · rw [c, zu_eq, zu_eq, q.2.2, show 24 - 8 * (k : Int) = 8 * (3 - (k : Int)) by omega]
      rw [show 24 - 8 * (k : Int) = 8 * (3 - (k : Int)) by omega] at q
      exact ⟨⟨q.1, q.2.1⟩, rfl⟩
    · rw [zu_ne c, zu_ne c]
      exact fRel.st R n v k i hi
def fB5x (f : Nat → Int) (n : Nat) (a b c d e : Int) : Nat → Int := fBx (fBx (fBx (fBx (fBx f n a 4) (n + 4) b 4) (n + 8) c 4) (n + 12) d 4) (n + 16) e 4
def fB5m (f : Nat → Int) (n : Nat) (a b c d e : Int) : Nat → Int := fBm (fBm (fBm (fBm (fBm f n a 4) (n + 4) b 4) (n + 8) c 4) (n + 12) d 4) (n + 16) e 4
theorem fRel.st5 (R : fRel f f2) (n : Nat) (a b c d e : Int) : fRel (fB5x f n a b c d e) (fB5m f2 n a b c d e) := ((((R.st n a 4).st (n + 4) b 4).st (n + 8) c 4).st (n + 12) d 4).st (n + 16) e 4
end TX
