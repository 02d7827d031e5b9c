/-! weeks, one behind the other -/
section YGN
variable {S T U : zT} {k n i j a : Nat} {x y z w : Int} {q : qT}
def yInv (S : zT) : Prop := yOK S ∧ zBs S ∧ zH65 S ∧ yZr S
theorem yOK.now (K : yOK S) (hx : 0 ≤ x ∧ x ≤ 156) : yOK (zs S 37 0 x) := by
  have t : ∀ a i, (a ≠ 37 ∨ i ≠ 0) → zs S 37 0 x a i = S a i := fun a i e => by rw [zs_if, if_neg (by omega)]
  obtain ⟨k1, k2, k3, k4⟩ := K
  refine ⟨?_, fun k hk => ?_, fun v hv => ?_, fun l hl => ?_⟩
  · rw [zs_eq, t 37 1 (by omega), t 37 2 (by omega), t 37 64 (by omega)]
    exact ⟨hx, k1.2⟩
  · rw [t 37 2 (by omega)] at hk
    rw [t 80 k (by omega), t 81 k (by omega), t 82 k (by omega), t 83 k (by omega), t 79 k (by omega), t 37 1 (by omega)]
    exact k2 k hk
  · rw [t 37 1 (by omega)] at hv
    rw [t 71 v (by omega)]
    refine ⟨(k3 v hv).1, fun s hs => ?_⟩
    rw [t 39 _ (by omega)]
    exact (k3 v hv).2 s hs
  · rw [t 37 64 (by omega)] at hl
    rw [t 172 l (by omega), t 173 l (by omega), t 170 l (by omega), t 37 2 (by omega)]
    exact k4 l hl
theorem yBgA_n (e : a ≠ 57 ∧ a ≠ 92) : yBgA S a i = S a i := (yBg2_n e.2 _).trans (yBg1_n e.1 _)
theorem yClo_n {b c d : Int} (e : a ≠ 206 ∧ (a ≠ 37 ∨ i ≠ 71)) : yClo S n b c d a i = S a i := by
  unfold yClo
  rw [zs_if, if_neg (by omega), zs_na e.1, zs_na e.1, zs_na e.1, zs_na e.1, zs_na e.1, zs_na e.1]
theorem yClo_z {b c d : Int} (e : 6 * n + 6 ≤ j) : yClo S n b c d 206 j = S 206 j := by
  unfold yClo
  rw [zs_na (by decide), zs_ni (by omega), zs_ni (by omega), zs_ni (by omega), zs_ni (by omega), zs_ni (by omega), zs_ni (by omega)]
theorem yWkC_n (e : (a ≠ 206 ∧ a ≠ 57 ∧ a ≠ 92) ∧ (a ≠ 37 ∨ (i ≠ 71 ∧ i ≠ 0))) : yWkC q S a i = yWk5 q S a i := by
  unfold yWkC
  rw [yBgA_n e.1.2, zs_if, if_neg (by omega), yClo_n (by omega)]
theorem yWkC_0 : yWkC q S 37 0 = S 37 0 + 1 := by
  unfold yWkC
  rw [yBgA_n (by decide), zs_eq, yWk5_n (by omega)]
/-- what a week leaves as laying leaves it -/
theorem yWk5_ly (e : (a ≠ 67 ∧ a ≠ 76 ∧ a ≠ 73 ∧ a ≠ 68) ∧ (a ≠ 69 ∧ a ≠ 77 ∧ a ≠ 84 ∧ a ≠ 87) ∧ (a ≠ 88 ∧ a ≠ 86 ∧ a ≠ 72) ∧ (a ≠ 93 ∧ a ≠ 71 ∧ a ≠ 78) ∧ (a ≠ 37 ∨ i ≠ 38)) : yWk5 q S a i = yLyA S a i := by
  have e3 : yWk3 q S a i = yLyA S a i := (yWrA_n (by omega)).trans (yBys_n (by omega) _)
  unfold yWk5
  split
  · rw [ySea_n (by omega), e3]
  · exact e3
theorem zBs.lya (B : zBs S) : zBs (yLyA S) := B.lyn (by have := B.2.2.2.2.2; omega)
theorem zBs.as (B : zBs U) (t : ∀ a i, (a = 80 ∨ a = 81 ∨ a = 85 ∨ a = 79 ∨ a = 66 ∨ a = 39 ∨ (a = 37 ∧ (i = 1 ∨ i = 2 ∨ i = 64))) → T a i = U a i) (h0 : 0 ≤ T 37 0 ∧ T 37 0 ≤ 156) : zBs T := by
  obtain ⟨b1, b2, b3, b4, b5, b6⟩ := B
  have s1 := t 37 1 (by omega)
  have s2 := t 37 2 (by omega)
  have s3 := t 37 64 (by omega)
  refine ⟨fun k hk => ?_, fun v hv => ?_, by rw [s3]; exact b3, h0, by rw [s1]; exact b5, by rw [s2]; exact b6⟩
  · rw [t 80 k (by omega), t 81 k (by omega), t 85 k (by omega), t 79 k (by omega), s1]
    exact b1 k (by omega)
  · rw [t 66 v (by omega)]
    refine ⟨(b2 v (by omega)).1, fun s hs => ?_⟩
    rw [t 39 _ (by omega)]
    exact (b2 v (by omega)).2 s hs
theorem yOK.wk5 (K : yOK S) (B : zBs S) (H : zH65 S) : yOK (yWk5 q S) := by
  have k3 : yOK (yWk3 q S) := ((K.lya B H).bya (q := q)).wra
  unfold yWk5
  split
  · exact k3.sea
  · exact k3
theorem yInv.wk (V : yInv S) (h : S 37 0 < 156) : yInv (yWkC q S) := by
  obtain ⟨K, B, H, Z⟩ := V
  have s := K.s
  have e0 := yWk5_n (q := q) (S := S) (a := 37) (i := 0) (by omega)
  refine ⟨?_, ?_, fun v hv => ?_, fun j hj => ?_⟩
  · refine yOK.ag (S := zs (yWk5 q S) 37 0 (yWk5 q S 37 0 + 1)) ((K.wk5 B H).now (by rw [e0]; omega)) (fun a i e => ?_)
    by_cases c : a = 37 ∧ i = 0
    · rw [c.1, c.2, yWkC_0, zs_eq, e0]
    · rw [yWkC_n (by unfold yKt at e; omega), zs_if, if_neg c]
  · refine B.lya.as (fun a i e => ?_) (by rw [yWkC_0]; omega)
    rw [yWkC_n (by omega), yWk5_ly (by omega)]
  · rw [yWkC_n (by omega), yWk5_ly (by omega)] at hv
    rw [yWkC_n (by omega), yWk5_ly (by omega)]
    have e1 : yLyA S 37 1 = S 37 1 := yLyN_n (by omega) _
    have e2 : yLyA S 65 v = S 65 v := yLyN_n (by omega) _
    rw [e2]
    exact H v (by omega)
  · rw [yWkC_0] at hj
    unfold yWkC
    rw [yBgA_n (by decide), zs_na (by decide), yClo_z (by rw [e0]; omega), yWk5_n (by omega)]
    exact Z j (by omega)
def yGoN (q : qT) (S : zT) : Nat → zT
  | 0 => S
  | k + 1 => if yGoN q S k 37 0 < 156 then yWkC q (yGoN q S k) else yGoN q S k
theorem yGoN_s : yGoN q S (k + 1) = if yGoN q S k 37 0 < 156 then yWkC q (yGoN q S k) else yGoN q S k := rfl
theorem yInv.go (V : yInv S) : ∀ k : Nat, yInv (yGoN q S k)
  | 0 => V
  | k + 1 => by
    rw [yGoN_s]
    split
    · exact (V.go k).wk (by assumption)
    · exact V.go k
theorem yGoN_stop (h : 156 ≤ yGoN q S k 37 0) : ∀ d, yGoN q S (k + d) = yGoN q S k
  | 0 => rfl
  | d + 1 => by
    show (if yGoN q S (k + d) 37 0 < 156 then yWkC q (yGoN q S (k + d)) else yGoN q S (k + d)) = _
    rw [yGoN_stop h d, if_neg (by omega)]
theorem yGoN_e (h : k = n ∨ (k ≤ n ∧ 156 ≤ yGoN q S k 37 0)) : yGoN q S n = yGoN q S k := by
  rcases h with rfl | ⟨h1, h2⟩
  · rfl
  · rw [show n = k + (n - k) by omega]
    exact yGoN_stop h2 _
def yGoF (q : qT) (S : zT) (a : Int) : zT := if 0 ≤ a ∧ a ≤ 26 then yGoN q S a.toNat else S
def yGoA (q : qT) (S : zT) (a : Int) : Int := if 0 ≤ a ∧ a ≤ 26 then yGoN q S a.toNat 37 0 else -1
theorem yInv.gof {a : Int} (V : yInv S) : yInv (yGoF q S a) := by
  unfold yGoF
  split
  · exact V.go _
  · exact V
end YGN
