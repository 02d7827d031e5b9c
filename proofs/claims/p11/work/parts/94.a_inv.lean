/-! what stays, of the tables: pure -/
section YIV
variable {S T U : zT} {a i j k l n u v m : Nat} {b c d x y : Int} {q : qT}
def yCn (S : zT) (v : Int) : Nat → Int
  | 0 => 0
  | u + 1 => if S 184 u = v then yCn S v u + 1 else yCn S v u
theorem yCn_s {w : Int} : yCn S w (m + 1) = if S 184 m = w then yCn S w m + 1 else yCn S w m := rfl
theorem yCn_b {w : Int} : ∀ m : Nat, 0 ≤ yCn S w m ∧ yCn S w m ≤ m
  | 0 => ⟨Int.le_refl _, by show (0 : Int) ≤ ((0 : Nat) : Int); omega⟩
  | m + 1 => by
    have h := yCn_b (w := w) m
    rw [yCn_s]
    split <;> omega
theorem yCn_lt {w : Int} (h : S 184 u ≠ w) : ∀ m : Nat, u < m → yCn S w m ≤ (m : Int) - 1
  | 0, z => absurd z (Nat.not_lt_zero _)
  | m + 1, z => by
    rw [yCn_s]
    by_cases e : u = m
    · subst e
      rw [if_neg h]
      have := yCn_b (S := S) (w := w) u
      omega
    · have := yCn_lt h m (by omega)
      split <;> omega
theorem yCn_ag {w : Int} (H : ∀ u, T 184 u = S 184 u) : ∀ m : Nat, yCn T w m = yCn S w m
  | 0 => rfl
  | m + 1 => by
    rw [yCn_s, yCn_s, H m, yCn_ag H m]
theorem yCn_br {w z : Int} (h : S 184 u = -1) (hw : w ≠ -1) : ∀ m : Nat, yCn (zs S 184 u z) w m = yCn S w m + (if u < m ∧ z = w then 1 else 0)
  | 0 => by
    rw [if_neg (fun t => absurd t.1 (Nat.not_lt_zero _))]
    rfl
  | m + 1 => by
    have ih := yCn_br (z := z) h hw m
    rw [yCn_s, yCn_s, ih]
    by_cases e : m = u
    · subst e
      rw [zs_eq, h, if_neg (show ¬ (-1 : Int) = w from fun t => hw t.symm), if_neg (show ¬ (m < m ∧ z = w) by omega)]
      by_cases f : z = w
      · rw [if_pos f, if_pos (show m < m + 1 ∧ z = w from ⟨by omega, f⟩)]
        omega
      · rw [if_neg f, if_neg (fun t => f t.2)]
    · rw [zs_ni e]
      by_cases g : u < m ∧ z = w
      · rw [if_pos g, if_pos (show u < m + 1 ∧ z = w from ⟨by omega, g.2⟩)]
        split <;> omega
      · rw [if_neg g, if_neg (show ¬ (u < m + 1 ∧ z = w) from fun t => g ⟨by omega, t.2⟩)]
        split <;> omega
/-- what bringing rests on -/
def yBr (S : zT) : Prop := (0 ≤ S 37 78 ∧ S 37 78 ≤ 200) ∧ (∀ v : Nat, (v : Int) < S 37 1 → (0 ≤ S 67 v ∧ 0 ≤ S 68 v) ∧ S 67 v + S 68 v ≤ 20 * yCn S v (S 37 78).toNat) ∧ (∀ u : Nat, (u : Int) < S 37 78 → (0 ≤ S 183 u ∧ S 183 u ≤ 20) ∧ (0 ≤ S 181 u ∧ S 181 u < S 37 2)) ∧ (∀ k : Nat, (k : Int) < S 37 2 → S 91 k ≤ 40 ∧ (0 ≤ S 92 k ∧ S 92 k ≤ 40))
theorem yBr.rm (B : yBr S) : yRm S := fun u v hu hv h => by
  obtain ⟨⟨b1, b2⟩, b3, b4, -⟩ := B
  obtain ⟨⟨c1, c2⟩, c3⟩ := b3 v hv
  have d := (b4 u hu).1
  have e := yCn_lt (S := S) (w := (v : Int)) (u := u) (by omega) (S 37 78).toNat (by omega)
  exact ⟨⟨c1, c2, d.1⟩, by omega⟩
theorem yBr.hb (B : yBr S) : ∀ u : Nat, (u : Int) < S 37 78 → 0 ≤ S 181 u ∧ S 181 u < S 37 2 := fun u hu => (B.2.2.1 u hu).2
def yKb (a i : Nat) : Prop := (a = 37 ∧ (i = 1 ∨ i = 2 ∨ i = 78)) ∨ a = 67 ∨ a = 68 ∨ a = 181 ∨ a = 183 ∨ a = 184 ∨ a = 91 ∨ a = 92
theorem yBr.ag (B : yBr S) (t : ∀ a i, yKb a i → T a i = S a i) : yBr T := by
  have s1 := t 37 1 (by unfold yKb; omega)
  have s2 := t 37 2 (by unfold yKb; omega)
  have s3 := t 37 78 (by unfold yKb; omega)
  have r : ∀ a i, a = 67 ∨ a = 68 ∨ a = 181 ∨ a = 183 ∨ a = 184 ∨ a = 91 ∨ a = 92 → T a i = S a i := fun a i e => t a i (by unfold yKb; omega)
  obtain ⟨b1, b2, b3, b4⟩ := B
  refine ⟨by rw [s3]; exact b1, fun v hv => ?_, fun u hu => ?_, fun k hk => ?_⟩
  · rw [r 67 v (by omega), r 68 v (by omega), s3, yCn_ag (fun u => r 184 u (by omega))]
    exact b2 v (by omega)
  · rw [r 183 u (by omega), r 181 u (by omega), s2]
    exact b3 u (by omega)
  · rw [r 91 k (by omega), r 92 k (by omega)]
    exact b4 k (by omega)
/-- the first week's price -/
def y57 (S : zT) : Prop := ∀ v : Nat, (v : Int) < S 37 1 → S 57 (157 * v) = 10
theorem y57.ag (H : y57 S) (s1 : T 37 1 = S 37 1) (t : ∀ i, T 57 i = S 57 i) : y57 T := fun v hv => by
  rw [t]
  exact H v (by omega)
def yKi (a i : Nat) : Prop := yKt a i ∨ a = 85 ∨ a = 66 ∨ a = 65 ∨ a = 206
theorem yInv.ag (V : yInv S) (t : ∀ a i, yKi a i → T a i = S a i) : yInv T := by
  obtain ⟨K, B, H, Z⟩ := V
  have s0 := t 37 0 (Or.inl (Or.inl ⟨rfl, by omega⟩))
  have s1 := t 37 1 (Or.inl (Or.inl ⟨rfl, by omega⟩))
  refine ⟨K.ag (fun a i e => t a i (Or.inl e)), B.as (fun a i e => t a i (by unfold yKi yKt; omega)) (by rw [s0]; exact B.2.2.2.1), fun v hv => ?_, fun j hj => ?_⟩
  · rw [t 65 v (by unfold yKi; omega)]
    exact H v (by omega)
  · rw [t 206 j (by unfold yKi; omega)]
    exact Z j (by rw [← s0]; exact hj)
def yIv (S : zT) : Prop := yInv S ∧ yBr S ∧ y57 S
def yKj (a i : Nat) : Prop := yKi a i ∨ yKb a i ∨ a = 57
theorem yIv.ag (V : yIv S) (t : ∀ a i, yKj a i → T a i = S a i) : yIv T := ⟨V.1.ag (fun a i e => t a i (Or.inl e)), V.2.1.ag (fun a i e => t a i (Or.inr (Or.inl e))), V.2.2.ag (t 37 1 (Or.inr (Or.inl (Or.inl ⟨rfl, by omega⟩)))) (fun i => t 57 i (Or.inr (Or.inr rfl)))⟩
theorem yIv.zss (V : yIv S) (e : ¬ yKj a i) : yIv (zs S a i x) := V.ag (fun b j hb => by
  rw [zs_if]
  refine if_neg (fun z => e ?_)
  rw [← z.1, ← z.2]
  exact hb)
theorem yKj_n (e : (a ≠ 39 ∧ a ≠ 71 ∧ a ≠ 79 ∧ a ≠ 80 ∧ a ≠ 81 ∧ a ≠ 82 ∧ a ≠ 83) ∧ (a ≠ 170 ∧ a ≠ 172 ∧ a ≠ 173 ∧ a ≠ 85 ∧ a ≠ 66 ∧ a ≠ 65 ∧ a ≠ 206) ∧ (a ≠ 67 ∧ a ≠ 68 ∧ a ≠ 181 ∧ a ≠ 183 ∧ a ≠ 184 ∧ a ≠ 91 ∧ a ≠ 92 ∧ a ≠ 57) ∧ (a ≠ 37 ∨ (i ≠ 0 ∧ i ≠ 1 ∧ i ≠ 2 ∧ i ≠ 64 ∧ i ≠ 78))) : ¬ yKj a i := by
  unfold yKj yKi yKb yKt
  omega
/-- single places -/
theorem yIv.s71 (V : yIv S) (hx : 1 ≤ x ∧ x ≤ 99) : yIv (zs S 71 v x) := by
  obtain ⟨⟨K, B, H, Z⟩, R, P⟩ := V
  refine ⟨⟨?_, B.as (fun a i e => zs_na (by omega)) (by rw [zs_na (by decide)]; exact B.2.2.2.1), fun u hu => ?_, fun j hj => ?_⟩, R.ag (fun a i e => zs_na (by unfold yKb at e; omega)), P.ag (zs_na (by decide)) (fun i => zs_na (by decide))⟩
  · refine ⟨by rw [zs_na (by decide), zs_na (by decide), zs_na (by decide), zs_na (by decide)]; exact K.1, fun k hk => ?_, fun u hu => ?_, fun l hl => ?_⟩
    · rw [zs_na (by decide)] at hk
      rw [zs_na (by decide), zs_na (by decide), zs_na (by decide), zs_na (by decide), zs_na (by decide), zs_na (by decide)]
      exact K.2.1 k hk
    · rw [zs_na (by decide)] at hu
      refine ⟨?_, fun s hs => by rw [zs_na (by decide)]; exact (K.vi hu).2 s hs⟩
      by_cases z : u = v
      · rw [z, zs_eq]
        exact hx
      · rw [zs_ni z]
        exact (K.vi hu).1
    · rw [zs_na (by decide)] at hl
      rw [zs_na (by decide), zs_na (by decide), zs_na (by decide), zs_na (by decide)]
      exact K.2.2.2 l hl
  · rw [zs_na (by decide)] at hu
    rw [zs_na (by decide)]
    exact H u hu
  · rw [zs_na (by decide)] at hj
    rw [zs_na (by decide)]
    exact Z j hj
theorem yIv.s85 (V : yIv S) (hx : 4 ≤ x ∧ x ≤ 60) : yIv (zs S 85 n x) := by
  obtain ⟨⟨K, B, H, Z⟩, R, P⟩ := V
  refine ⟨⟨K.zss (yKt_n (by decide)), ?_, fun u hu => ?_, fun j hj => ?_⟩, R.ag (fun a i e => zs_na (by unfold yKb at e; omega)), P.ag (zs_na (by decide)) (fun i => zs_na (by decide))⟩
  · obtain ⟨b1, b2, b3, b4, b5, b6⟩ := B
    refine ⟨fun k hk => ?_, fun v hv => ?_, by rw [zs_na (by decide)]; exact b3, by rw [zs_na (by decide)]; exact b4, by rw [zs_na (by decide)]; exact b5, by rw [zs_na (by decide)]; exact b6⟩
    · rw [zs_na (by decide)] at hk
      have w := b1 k hk
      rw [zs_na (a := 85) (b := 80) (by decide), zs_na (a := 85) (b := 81) (by decide), zs_na (a := 85) (b := 79) (by decide), zs_na (a := 85) (b := 37) (by decide)]
      refine ⟨w.1, w.2.1, ?_, w.2.2.2⟩
      by_cases z : k = n
      · rw [z, zs_eq]
        exact hx
      · rw [zs_ni z]
        exact w.2.2.1
    · rw [zs_na (by decide)] at hv
      refine ⟨by rw [zs_na (by decide)]; exact (b2 v hv).1, fun s hs => by rw [zs_na (by decide)]; exact (b2 v hv).2 s hs⟩
  · rw [zs_na (by decide)] at hu
    rw [zs_na (by decide)]
    exact H u hu
  · rw [zs_na (by decide)] at hj
    rw [zs_na (by decide)]
    exact Z j hj
theorem yIv.s66 (V : yIv S) (hx : 0 ≤ x ∧ x ≤ 9999) : yIv (zs S 66 n x) := by
  obtain ⟨⟨K, B, H, Z⟩, R, P⟩ := V
  refine ⟨⟨K.zss (yKt_n (by decide)), ?_, fun u hu => ?_, fun j hj => ?_⟩, R.ag (fun a i e => zs_na (by unfold yKb at e; omega)), P.ag (zs_na (by decide)) (fun i => zs_na (by decide))⟩
  · obtain ⟨b1, b2, b3, b4, b5, b6⟩ := B
    refine ⟨fun k hk => ?_, fun v hv => ?_, by rw [zs_na (by decide)]; exact b3, by rw [zs_na (by decide)]; exact b4, by rw [zs_na (by decide)]; exact b5, by rw [zs_na (by decide)]; exact b6⟩
    · rw [zs_na (by decide)] at hk
      rw [zs_na (a := 66) (b := 80) (by decide), zs_na (a := 66) (b := 81) (by decide), zs_na (a := 66) (b := 85) (by decide), zs_na (a := 66) (b := 79) (by decide), zs_na (a := 66) (b := 37) (by decide)]
      exact b1 k hk
    · rw [zs_na (by decide)] at hv
      refine ⟨?_, fun s hs => by rw [zs_na (by decide)]; exact (b2 v hv).2 s hs⟩
      by_cases z : v = n
      · rw [z, zs_eq]
        exact hx
      · rw [zs_ni z]
        exact (b2 v hv).1
  · rw [zs_na (by decide)] at hu
    rw [zs_na (by decide)]
    exact H u hu
  · rw [zs_na (by decide)] at hj
    rw [zs_na (by decide)]
    exact Z j hj
theorem yIv.s91 (V : yIv S) (hx : x ≤ 40) : yIv (zs S 91 n x) := by
  obtain ⟨W, R, P⟩ := V
  refine ⟨W.ag (fun a i e => zs_na (by unfold yKi yKt at e; omega)), ?_, P.ag (zs_na (by decide)) (fun i => zs_na (by decide))⟩
  obtain ⟨b1, b2, b3, b4⟩ := R
  refine ⟨by rw [zs_na (by decide)]; exact b1, fun v hv => ?_, fun u hu => ?_, fun k hk => ?_⟩
  · rw [zs_na (by decide)] at hv
    rw [zs_na (a := 91) (b := 67) (by decide), zs_na (a := 91) (b := 68) (by decide), zs_na (a := 91) (b := 37) (by decide), yCn_ag (S := S) (fun u => zs_na (by decide))]
    exact b2 v hv
  · rw [zs_na (by decide)] at hu
    rw [zs_na (a := 91) (b := 183) (by decide), zs_na (a := 91) (b := 181) (by decide), zs_na (a := 91) (b := 37) (by decide)]
    exact b3 u hu
  · rw [zs_na (by decide)] at hk
    rw [zs_na (a := 91) (b := 92) (by decide)]
    refine ⟨?_, (b4 k hk).2⟩
    by_cases z : k = n
    · rw [z, zs_eq]
      exact hx
    · rw [zs_ni z]
      exact (b4 k hk).1
/-- the calls that write little -/
theorem yIv.coin (V : yIv S) : yIv (yCoin S x y) := by
  unfold yCoin
  split
  · exact V.zss (yKj_n (by omega))
  · exact V
theorem yIv.mill (V : yIv S) : yIv (yMill S x y) := by
  unfold yMill
  split
  · exact V.zss (yKj_n (by omega))
  · exact V
theorem yIv.sold (V : yIv S) : yIv (ySold S x y) := by
  unfold ySold
  split
  · exact V.zss (yKj_n (by omega))
  · exact V
theorem yIv.talk (V : yIv S) : yIv (yTalk S x y) := by
  unfold yTalk
  split
  · exact V.zss (yKj_n (by omega))
  · exact V
theorem yIv.gift {z : Int} (V : yIv S) : yIv (yGift S x y z) := by
  unfold yGift
  split
  · exact (((V.zss (yKj_n (by omega))).zss (yKj_n (by omega))).zss (yKj_n (by omega))).zss (yKj_n (by omega))
  · exact V
theorem yIv.forg (V : yIv S) : yIv (yForg S) := V.zss (yKj_n (by omega))
theorem yIv.pay {z : Int} (V : yIv S) : yIv (yPay S x y z) := by
  unfold yPay
  split
  · split
    · exact ((V.zss (yKj_n (by omega))).zss (yKj_n (by omega))).zss (yKj_n (by omega))
    · exact (((V.zss (yKj_n (by omega))).zss (yKj_n (by omega))).zss (yKj_n (by omega))).zss (yKj_n (by omega))
  · exact V
theorem yIv.pric (V : yIv S) : yIv (yPric S x y) := by
  unfold yPric
  split
  · exact (V.zss (yKj_n (by omega))).s71 (by omega)
  · exact V
theorem yIv.aim (V : yIv S) : yIv (yAim S x y) := by
  unfold yAim
  split
  · exact V.s85 (by omega)
  · exact V
theorem yIv.cott (V : yIv S) : yIv (yCott S x y) := by
  unfold yCott
  split
  · rename_i h
    have w := (V.1.2.1.2.1 x.toNat (by omega)).1
    have e : w32 (S 66 x.toNat + y) = S 66 x.toNat + y := w32_id ⟨by omega, by omega⟩
    exact V.s66 (by omega)
  · exact V
theorem yIv.loom {z : Int} (V : yIv S) : yIv (yLoom S x y z) := by
  unfold yLoom
  split
  · exact ((V.zss (yKj_n (by omega))).zss (yKj_n (by omega))).s91 (by omega)
  · exact V
end YIV
