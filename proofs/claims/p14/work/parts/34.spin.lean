/-! the state as numbers, by the model's places; spinning -/
section ZT
abbrev zT : Type := Nat → Nat → Int
def zs (S : zT) (a i : Nat) (x : Int) : zT := fun b k => match Nat.beq b a with
  | true => (match Nat.beq k i with
    | true => x
    | false => S b k)
  | false => S b k
variable {S T U : zT} {a b i k e n : Nat} {x : Int}
theorem zs_if : zs S a i x b k = if b = a ∧ k = i then x else S b k := by
  unfold zs
  cases h1 : Nat.beq b a with
  | true =>
    have h1 := Nat.eq_of_beq_eq_true h1
    cases h2 : Nat.beq k i with
    | true =>
      have h2 := Nat.eq_of_beq_eq_true h2
      rw [if_pos ⟨h1, h2⟩]
    | false =>
      rw [if_neg (fun z => Nat.ne_of_beq_eq_false h2 z.2)]
  | false =>
    rw [if_neg (fun z => Nat.ne_of_beq_eq_false h1 z.1)]
theorem zs_eq : zs S a i x a i = x := by rw [zs_if, if_pos ⟨rfl, rfl⟩]
theorem zs_na (h : b ≠ a) : zs S a i x b k = S b k := by rw [zs_if, if_neg (fun z => h z.1)]
theorem zs_ni (h : k ≠ i) : zs S a i x b k = S b k := by rw [zs_if, if_neg (fun z => h z.2)]
def zid (x : Int) (s : Nat) : Int := if s = 0 then x / 1000000 else if s = 1 then x / 10000 % 100 else if s = 2 then x / 100 % 100 else x % 100
/-- what house k would spin -/
def yHk (S : zT) (e k : Nat) : Int := min (S 80 k * S 39 (4 * (S 79 k).toNat + e) * (10 + S 81 k) / (S 85 k + 20)) (S 66 (S 79 k).toNat * S 85 k)
def yX (S : zT) (e k : Nat) : Int := if 300 ≤ S 37 64 then 0 else yHk S e k
/-- it spins -/
def yS1 (S : zT) (e k : Nat) : zT := if 0 < yX S e k then zs (zs S 66 (S 79 k).toNat (S 66 (S 79 k).toNat - (yX S e k + S 85 k - 1) / S 85 k)) 37 64 (S 37 64 + 1) else S
def ySN (S : zT) (e : Nat) : Nat → zT
  | 0 => S
  | k + 1 => yS1 (ySN S e k) e k
def yTo (S : zT) (e : Nat) : Nat → Int
  | 0 => 0
  | k + 1 => yTo S e k + yX (ySN S e k) e k
def yEp (S : zT) : Nat := (S 37 0).toNat / 13 % 4
/-- a week's spinning -/
def yWk (S : zT) : zT := zs (ySN S (yEp S) (S 37 2).toNat) 37 0 (S 37 0 + 1)
def yGo (S : zT) : Nat → zT
  | 0 => S
  | n + 1 => if yGo S n 37 0 < 156 then yWk (yGo S n) else yGo S n
theorem yS1_0 (h : yX S e k = 0) : yS1 S e k = S := by unfold yS1; rw [if_neg (by omega)]
theorem yS1_p (h : 0 < yX S e k) : yS1 S e k = zs (zs S 66 (S 79 k).toNat (S 66 (S 79 k).toNat - (yX S e k + S 85 k - 1) / S 85 k)) 37 64 (S 37 64 + 1) := by unfold yS1; rw [if_pos h]
theorem yS1_ne (h1 : b ≠ 66) (h2 : b ≠ 37 ∨ i ≠ 64) : yS1 S e k b i = S b i := by
  unfold yS1
  split
  · rw [zs_if, if_neg (by omega), zs_na h1]
  · rfl
theorem ySN_ne (h1 : b ≠ 66) (h2 : b ≠ 37 ∨ i ≠ 64) : ∀ n, ySN S e n b i = S b i
  | 0 => rfl
  | n + 1 => (yS1_ne h1 h2).trans (ySN_ne h1 h2 n)
theorem yWk_ne (h1 : b ≠ 66) (h2 : b ≠ 37 ∨ (i ≠ 64 ∧ i ≠ 0)) : yWk S b i = S b i := by
  unfold yWk
  rw [zs_if, if_neg (by omega)]
  exact ySN_ne h1 (by omega) _
theorem yGo_ne (h1 : b ≠ 66) (h2 : b ≠ 37 ∨ (i ≠ 64 ∧ i ≠ 0)) : ∀ n, yGo S n b i = S b i
  | 0 => rfl
  | n + 1 => by
    show (if yGo S n 37 0 < 156 then yWk (yGo S n) else yGo S n) b i = _
    split
    · exact (yWk_ne h1 h2).trans (yGo_ne h1 h2 n)
    · exact yGo_ne h1 h2 n
theorem yGo_stop (h : 156 ≤ yGo S k 37 0) : ∀ d, yGo S (k + d) = yGo S k
  | 0 => rfl
  | d + 1 => by
    show (if yGo S (k + d) 37 0 < 156 then yWk (yGo S (k + d)) else yGo S (k + d)) = _
    rw [yGo_stop h d, if_neg (by omega)]
theorem yGo_step (h : yGo S k 37 0 < 156) : yGo S (k + 1) = yWk (yGo S k) := if_pos h
/-- how things can be -/
def zBs (S : zT) : Prop :=
  (∀ k : Nat, (k : Int) < S 37 2 → (0 ≤ S 80 k ∧ S 80 k ≤ 5) ∧ (0 ≤ S 81 k ∧ S 81 k ≤ 9) ∧ (4 ≤ S 85 k ∧ S 85 k ≤ 60) ∧ (0 ≤ S 79 k ∧ S 79 k < S 37 1)) ∧
  (∀ v : Nat, (v : Int) < S 37 1 → (0 ≤ S 66 v ∧ S 66 v ≤ 9999) ∧ ∀ s : Nat, s < 4 → 0 ≤ S 39 (4 * v + s) ∧ S 39 (4 * v + s) ≤ 40) ∧
  (0 ≤ S 37 64 ∧ S 37 64 ≤ 300) ∧ (0 ≤ S 37 0 ∧ S 37 0 ≤ 156) ∧ (0 ≤ S 37 1 ∧ S 37 1 ≤ 8) ∧ (0 ≤ S 37 2 ∧ S 37 2 ≤ 20)
theorem zceil {x c a : Int} (hx : 0 ≤ x) (ha : 1 ≤ a) (h : x ≤ c * a) : 0 ≤ (x + a - 1) / a ∧ (x + a - 1) / a ≤ c := by
  refine ⟨Int.ediv_nonneg (by omega) (by omega), ?_⟩
  have : (x + a - 1) / a < c + 1 := Int.ediv_lt_of_lt_mul (by omega) (by rw [Int.add_mul]; omega)
  omega
theorem yHk_b (B : zBs S) (he : e < 4) (hk : (k : Int) < S 37 2) : 0 ≤ yHk S e k ∧ yHk S e k ≤ 3800 ∧ yHk S e k ≤ S 66 (S 79 k).toNat * S 85 k := by
  obtain ⟨b1, b2, b3, b4⟩ := B.1 k hk
  obtain ⟨c1, c2⟩ := B.2.1 (S 79 k).toNat (by omega)
  have c2 := c2 e he
  unfold yHk
  have m1 : 0 ≤ S 80 k * S 39 (4 * (S 79 k).toNat + e) := Int.mul_nonneg b1.1 c2.1
  have m2 : S 80 k * S 39 (4 * (S 79 k).toNat + e) ≤ 5 * 40 := Int.mul_le_mul b1.2 c2.2 c2.1 (by omega)
  have m3 : 0 ≤ S 80 k * S 39 (4 * (S 79 k).toNat + e) * (10 + S 81 k) := Int.mul_nonneg m1 (by omega)
  have m4 : S 80 k * S 39 (4 * (S 79 k).toNat + e) * (10 + S 81 k) ≤ 200 * 19 := Int.mul_le_mul (by omega) (by omega) (by omega) (by omega)
  have m5 : 0 ≤ S 80 k * S 39 (4 * (S 79 k).toNat + e) * (10 + S 81 k) / (S 85 k + 20) := Int.ediv_nonneg m3 (by omega)
  have m6 : S 80 k * S 39 (4 * (S 79 k).toNat + e) * (10 + S 81 k) / (S 85 k + 20) ≤ S 80 k * S 39 (4 * (S 79 k).toNat + e) * (10 + S 81 k) := Int.ediv_le_self _ m3
  have m7 : 0 ≤ S 66 (S 79 k).toNat * S 85 k := Int.mul_nonneg c1.1 (by omega)
  omega
theorem yX_b (B : zBs S) (he : e < 4) (hk : (k : Int) < S 37 2) : 0 ≤ yX S e k ∧ yX S e k ≤ 3800 ∧ yX S e k ≤ S 66 (S 79 k).toNat * S 85 k ∧ (0 < yX S e k → S 37 64 < 300) := by
  have b := yHk_b B he hk
  unfold yX
  split
  · obtain ⟨b1, b2, b3, b4⟩ := B.1 k hk
    obtain ⟨c1, c2⟩ := B.2.1 (S 79 k).toNat (by omega)
    have m7 : 0 ≤ S 66 (S 79 k).toNat * S 85 k := Int.mul_nonneg c1.1 (by omega)
    omega
  · omega
theorem zBs.s1 (B : zBs S) (he : e < 4) (hk : (k : Int) < S 37 2) : zBs (yS1 S e k) := by
  have bx := yX_b B he hk
  by_cases h0 : 0 < yX S e k
  · have bk := B.1 k hk
    have cl := zceil bx.1 (by omega) bx.2.2.1
    rw [yS1_p h0]
    obtain ⟨b1, b2, b3, b4, b5, b6⟩ := B
    refine ⟨fun j hj => b1 j hj, fun v hv => ⟨?_, fun s hs => (b2 v hv).2 s hs⟩, ?_, b4, b5, b6⟩
    · have c1 := (b2 v hv).1
      show 0 ≤ zs S 66 _ _ 66 v ∧ zs S 66 _ _ 66 v ≤ 9999
      rw [zs_if]
      split
      · have c0 := (b2 (S 79 k).toNat (by omega)).1
        omega
      · exact c1
    · rw [zs_eq]
      have := bx.2.2.2 h0
      omega
  · rw [yS1_0 (by omega)]
    exact B
theorem zBs.sn (B : zBs S) (he : e < 4) : ∀ n : Nat, (n : Int) ≤ S 37 2 → zBs (ySN S e n)
  | 0, _ => B
  | n + 1, h => (zBs.sn B he n (by omega)).s1 he (by rw [ySN_ne (by decide) (Or.inr (by decide))]; omega)
theorem yEp_4 : yEp S < 4 := by unfold yEp; omega
theorem zBs.wk (B : zBs S) (h : S 37 0 < 156) : zBs (yWk S) := by
  have q := B.sn (yEp_4 (S := S)) (S 37 2).toNat (by have := B.2.2.2.2.2; omega)
  unfold yWk
  obtain ⟨b1, b2, b3, b4, b5, b6⟩ := q
  refine ⟨fun j hj => b1 j hj, fun v hv => b2 v hv, b3, ?_, b5, b6⟩
  rw [zs_eq]
  have := B.2.2.2.1
  omega
theorem zBs.go (B : zBs S) : ∀ n : Nat, zBs (yGo S n)
  | 0 => B
  | n + 1 => by
    show zBs (if yGo S n 37 0 < 156 then yWk (yGo S n) else yGo S n)
    split
    · exact (zBs.go B n).wk ‹_›
    · exact zBs.go B n
theorem yTo_b (B : zBs S) (he : e < 4) : ∀ n : Nat, (n : Int) ≤ S 37 2 → 0 ≤ yTo S e n ∧ yTo S e n ≤ 3800 * n
  | 0, _ => ⟨Int.le_refl _, by show (0 : Int) ≤ _; omega⟩
  | n + 1, h => by
    have a := yTo_b B he n (by omega)
    have b := yX_b (B.sn he n (by omega)) he (k := n) (by rw [ySN_ne (by decide) (Or.inr (by decide))]; omega)
    show 0 ≤ yTo S e n + yX (ySN S e n) e n ∧ yTo S e n + yX (ySN S e n) e n ≤ _
    omega
/-- alike for spinning -/
def zAg (S T : zT) : Prop := (S 37 0 = T 37 0 ∧ S 37 1 = T 37 1 ∧ S 37 2 = T 37 2 ∧ S 37 64 = T 37 64) ∧ (∀ k : Nat, (k : Int) < S 37 2 → S 79 k = T 79 k ∧ S 80 k = T 80 k ∧ S 81 k = T 81 k ∧ S 85 k = T 85 k) ∧ (∀ v : Nat, (v : Int) < S 37 1 → S 66 v = T 66 v ∧ ∀ s : Nat, s < 4 → S 39 (4 * v + s) = T 39 (4 * v + s))
theorem zAg.rf : zAg S S := ⟨⟨rfl, rfl, rfl, rfl⟩, fun _ _ => ⟨rfl, rfl, rfl, rfl⟩, fun _ _ => ⟨rfl, fun _ _ => rfl⟩⟩
theorem zAg.tr (A : zAg S T) (B : zAg T U) : zAg S U := by
  obtain ⟨⟨a1, a2, a3, a4⟩, a5, a6⟩ := A
  obtain ⟨⟨b1, b2, b3, b4⟩, b5, b6⟩ := B
  refine ⟨⟨a1.trans b1, a2.trans b2, a3.trans b3, a4.trans b4⟩, fun k hk => ?_, fun v hv => ?_⟩
  · have p := a5 k hk
    have q := b5 k (by omega)
    exact ⟨p.1.trans q.1, p.2.1.trans q.2.1, p.2.2.1.trans q.2.2.1, p.2.2.2.trans q.2.2.2⟩
  · have p := a6 v hv
    have q := b6 v (by omega)
    exact ⟨p.1.trans q.1, fun s hs => (p.2 s hs).trans (q.2 s hs)⟩
theorem zAg.sy (A : zAg S T) : zAg T S := by
  obtain ⟨⟨a1, a2, a3, a4⟩, a5, a6⟩ := A
  refine ⟨⟨a1.symm, a2.symm, a3.symm, a4.symm⟩, fun k hk => ?_, fun v hv => ?_⟩
  · have p := a5 k (by omega)
    exact ⟨p.1.symm, p.2.1.symm, p.2.2.1.symm, p.2.2.2.symm⟩
  · have p := a6 v (by omega)
    exact ⟨p.1.symm, fun s hs => (p.2 s hs).symm⟩
theorem zAg.xk (A : zAg S T) (B : zBs S) (he : e < 4) (hk : (k : Int) < S 37 2) : yX S e k = yX T e k := by
  obtain ⟨⟨a1, a2, a3, a4⟩, a5, a6⟩ := A
  obtain ⟨p1, p2, p3, p4⟩ := a5 k hk
  have b := (B.1 k hk).2.2.2
  obtain ⟨q1, q2⟩ := a6 (S 79 k).toNat (by omega)
  unfold yX yHk
  rw [a4, p2, p3, p4, q1, q2 e he, p1]
theorem zAg.s1 (A : zAg S T) (B : zBs S) (he : e < 4) (hk : (k : Int) < S 37 2) : zAg (yS1 S e k) (yS1 T e k) := by
  have hx := A.xk B he hk
  have bx := yX_b B he hk
  by_cases h0 : 0 < yX S e k
  · rw [yS1_p h0, yS1_p (by omega), ← hx]
    obtain ⟨⟨a1, a2, a3, a4⟩, a5, a6⟩ := A
    obtain ⟨p1, p2, p3, p4⟩ := a5 k hk
    have b := (B.1 k hk).2.2.2
    have q := (a6 (S 79 k).toNat (by omega)).1
    refine ⟨⟨a1, a2, a3, ?_⟩, fun j hj => a5 j hj, fun v hv => ⟨?_, fun s hs => (a6 v hv).2 s hs⟩⟩
    · rw [zs_eq, zs_eq, a4]
    · show zs S 66 _ _ 66 v = zs T 66 _ _ 66 v
      rw [zs_if, zs_if, ← p1, ← p4, ← q, (a6 v hv).1]
  · rw [yS1_0 (by omega), yS1_0 (by omega)]
    exact A
theorem zAg.sn (A : zAg S T) (B : zBs S) (he : e < 4) : ∀ n : Nat, (n : Int) ≤ S 37 2 → zAg (ySN S e n) (ySN T e n)
  | 0, _ => A
  | n + 1, h => (zAg.sn A B he n (by omega)).s1 (B.sn he n (by omega)) he (by rw [ySN_ne (by decide) (Or.inr (by decide))]; omega)
theorem zAg.to (A : zAg S T) (B : zBs S) (he : e < 4) : ∀ n : Nat, (n : Int) ≤ S 37 2 → yTo S e n = yTo T e n
  | 0, _ => rfl
  | n + 1, h => by
    show yTo S e n + yX (ySN S e n) e n = yTo T e n + yX (ySN T e n) e n
    rw [zAg.to A B he n (by omega), (zAg.sn A B he n (by omega)).xk (B.sn he n (by omega)) he (by rw [ySN_ne (by decide) (Or.inr (by decide))]; omega)]
theorem zAg.wk (A : zAg S T) (B : zBs S) : zAg (yWk S) (yWk T) := by
  have hn := B.2.2.2.2.2
  have e1 : yEp T = yEp S := by unfold yEp; rw [A.1.1]
  have q := A.sn B (yEp_4 (S := S)) (S 37 2).toNat (by omega)
  unfold yWk
  rw [e1, ← A.1.2.2.1, ← A.1.1]
  obtain ⟨⟨a1, a2, a3, a4⟩, a5, a6⟩ := q
  exact ⟨⟨by rw [zs_eq, zs_eq], a2, a3, a4⟩, fun j hj => a5 j hj, fun v hv => a6 v hv⟩
theorem zAg.go (A : zAg S T) (B : zBs S) : ∀ n : Nat, zAg (yGo S n) (yGo T n)
  | 0 => A
  | n + 1 => by
    have q := zAg.go A B n
    show zAg (if yGo S n 37 0 < 156 then yWk (yGo S n) else yGo S n) (if yGo T n 37 0 < 156 then yWk (yGo T n) else yGo T n)
    rw [← q.1.1]
    by_cases c : yGo S n 37 0 < 156
    · rw [if_pos c, if_pos c]
      exact q.wk (B.go n)
    · rw [if_neg c, if_neg c]
      exact q
theorem zBs.cg (A : zAg S T) (B : zBs S) : zBs T := by
  obtain ⟨⟨a1, a2, a3, a4⟩, a5, a6⟩ := A
  obtain ⟨b1, b2, b3, b4, b5, b6⟩ := B
  refine ⟨fun k hk => ?_, fun v hv => ?_, by omega, by omega, by omega, by omega⟩
  · have p := a5 k (by omega)
    have q := b1 k (by omega)
    omega
  · have p := a6 v (by omega)
    have q := b2 v (by omega)
    refine ⟨by omega, fun s hs => ?_⟩
    have p2 := p.2 s hs
    have q2 := q.2 s hs
    omega
/-- the model's numbers -/
def zSt (h : Hp) : zT := fun a i => if a = 39 then fld h (39 + ((i / 4 : Nat) : Int)) (i % 4) else fld h a i
theorem zSt_39 {h : Hp} {v s : Nat} (hs : s < 4) : zSt h 39 (4 * v + s) = fld h (39 + (v : Int)) s := by
  unfold zSt
  rw [if_pos rfl, show (4 * v + s) / 4 = v by omega, show (4 * v + s) % 4 = s by omega]
/-- spinning with wheels, skill and cotton of their own -/
def zOv (h : Hp) : zT := fun a i => if a = 80 then fld h 178 i else if a = 81 then fld h 179 i else if a = 66 then fld h 177 i else zSt h a i
theorem fwi {h h' : Hp} {r x : Int} {i k n : Nat} (e : h' = wr h r i x) (s : sh h r = some (k, n)) (hi : i < n) (v : Nat) : fld h' r v = if v = i then x else fld h r v := by
  split
  · rename_i q
    rw [q, e]
    exact fld_wr_eq s hi
  · rw [e]
    exact fld_wr (Or.inr ‹_›)
theorem fw2 {h h' : Hp} {r x : Int} {i k n : Nat} (e : h' = wr h r i x) (s : sh h r = some (k, n)) (hi : i < n) (q : Int) (v : Nat) : fld h' q v = if q = r ∧ v = i then x else fld h q v := by
  split
  · rename_i z
    rw [z.1, z.2, e]
    exact fld_wr_eq s hi
  · rename_i z
    rw [e]
    exact fld_wr (by omega)
/-- a village's idle hours are laid down -/
theorem zIdW {h h1 h2 h3 h4 : Hp} {r a : Int} (e1 : h1 = wr h r 0 (a / 1000000)) (e2 : h2 = wr h1 r 1 (a / 10000 % 100)) (e3 : h3 = wr h2 r 2 (a / 100 % 100)) (e4 : h4 = wr h3 r 3 (a % 100)) (s1 : sh h r = some (20, 4)) (q : Int) (s : Nat) (hs : s < 4) : fld h4 q s = if q = r then zid a s else fld h q s := by
  have s2 : sh h1 r = some (20, 4) := by rw [e1, sh_wr]; exact s1
  have s3 : sh h2 r = some (20, 4) := by rw [e2, sh_wr]; exact s2
  have s4 : sh h3 r = some (20, 4) := by rw [e3, sh_wr]; exact s3
  rw [fw2 e4 s4 (by decide), fw2 e3 s3 (by decide), fw2 e2 s2 (by decide), fw2 e1 s1 (by decide)]
  unfold zid
  by_cases z : q = r
  · rw [if_pos z]
    have hs2 : s = 0 ∨ s = 1 ∨ s = 2 ∨ s = 3 := by omega
    rcases hs2 with rfl | rfl | rfl | rfl
    · rw [if_neg (by omega), if_neg (by omega), if_neg (by omega), if_pos ⟨z, rfl⟩, if_pos rfl]
    · rw [if_neg (by omega), if_neg (by omega), if_pos ⟨z, rfl⟩, if_neg (by omega), if_pos rfl]
    · rw [if_neg (by omega), if_pos ⟨z, rfl⟩, if_neg (by omega), if_neg (by omega), if_pos rfl]
    · rw [if_pos ⟨z, rfl⟩, if_neg (by omega), if_neg (by omega), if_neg (by omega)]
  · rw [if_neg (fun w => z w.1), if_neg (fun w => z w.1), if_neg (fun w => z w.1), if_neg (fun w => z w.1), if_neg z]
end ZT
/-- cotton -/
def zCb (h : Hp) : Prop := ∀ v : Nat, (v : Int) < fld h 37 1 → 0 ≤ fld h 66 v ∧ fld h 66 v ≤ 9999
