/-! the laying of plots: pure -/
section YP
variable {S T : zT} {k n i : Nat} {x : Int}
def yCan (S : zT) (k : Nat) : Int := S 80 k * yIdl S (S 79 k).toNat (S 37 0 / 13 % 4) * (10 + S 81 k) / 24
def yStr (S : zT) (k : Nat) : Int := max (w32 (w32 (w32 (20 * S 65 (S 79 k).toNat) + w32 (3 * S 81 k)) - w32 (2 * S 85 k))) 0
/-- a house spins -/
def yLy1 (S : zT) (k : Nat) : zT := if 0 < yX S (yEp S) k then zs (zs (zs (zs (zs (zs (zs (zs (zs S 66 (S 79 k).toNat (S 66 (S 79 k).toNat - (yX S (yEp S) k + S 85 k - 1) / S 85 k)) 95 k (w32 (S 95 k + yCan S k))) 170 (S 37 64).toNat k) 171 (S 37 64).toNat (S 37 0)) 172 (S 37 64).toNat (S 85 k)) 173 (S 37 64).toNat (yStr S k)) 174 (S 37 64).toNat (yX S (yEp S) k)) 175 (S 37 64).toNat (yX S (yEp S) k)) 37 64 (S 37 64 + 1) else zs S 95 k (w32 (S 95 k + yCan S k))
def yLyN (S : zT) : Nat → zT
  | 0 => S
  | k + 1 => yLy1 (yLyN S k) k
theorem yLyN_s : yLyN S (k + 1) = yLy1 (yLyN S k) k := rfl
def yLyA (S : zT) : zT := yLyN S (S 37 2).toNat
def yToA (S : zT) : Int := yTo S (yEp S) (S 37 2).toNat
theorem zAg_zs {a : Nat} (e : (a ≠ 37 ∧ a ≠ 79 ∧ a ≠ 80) ∧ (a ≠ 81 ∧ a ≠ 85) ∧ a ≠ 66 ∧ a ≠ 39) : zAg (zs S a i x) S := by
  obtain ⟨⟨e1, e2, e3⟩, ⟨e4, e5⟩, e6, e7⟩ := e
  exact ⟨⟨zs_na e1.symm, zs_na e1.symm, zs_na e1.symm, zs_na e1.symm⟩, fun k _ => ⟨zs_na e2.symm, zs_na e3.symm, zs_na e4.symm, zs_na e5.symm⟩, fun v _ => ⟨zs_na e6.symm, fun s _ => zs_na e7.symm⟩⟩
theorem zAg_37 (h : (i ≠ 0 ∧ i ≠ 1 ∧ i ≠ 2 ∧ i ≠ 64)) (A : zAg S T) : zAg (zs S 37 i x) T := by
  obtain ⟨a1, a2, a3⟩ := A
  have e : ∀ j, (j = 0 ∨ j = 1 ∨ j = 2 ∨ j = 64) → zs S 37 i x 37 j = S 37 j := fun j hj => zs_ni (by omega)
  refine ⟨by rw [e 0 (by omega), e 1 (by omega), e 2 (by omega), e 64 (by omega)]; exact a1, fun k hk => ?_, fun v hv => ?_⟩
  · rw [e 2 (by omega)] at hk
    rw [zs_na (by decide), zs_na (by decide), zs_na (by decide), zs_na (by decide)]
    exact a2 k hk
  · rw [e 1 (by omega)] at hv
    rw [zs_na (by decide)]
    exact ⟨(a3 v hv).1, fun s hs => by rw [zs_na (by decide)]; exact (a3 v hv).2 s hs⟩
theorem yLy1_ag (B : zBs S) : zAg (yLy1 S k) (yS1 S (yEp S) k) := by
  unfold yLy1 yS1
  by_cases c : 0 < yX S (yEp S) k
  · rw [if_pos c, if_pos c]
    refine ⟨⟨?_, ?_, ?_, ?_⟩, fun m _ => ⟨?_, ?_, ?_, ?_⟩, fun v _ => ⟨?_, fun s _ => ?_⟩⟩ <;> simp [zs_if]
  · rw [if_neg c, if_neg c]
    exact zAg_zs (by decide)
theorem yLyN_ag (B : zBs S) : ∀ k : Nat, (k : Int) ≤ S 37 2 → zAg (yLyN S k) (ySN S (yEp S) k)
  | 0, _ => zAg.rf
  | k + 1, h => by
    have q := yLyN_ag B k (by omega)
    have b := B.sn (yEp_4 (S := S)) k (by omega)
    have b2 := zBs.cg q.sy b
    have e : yEp (yLyN S k) = yEp S := by
      have w := q.1.1
      have u : ySN S (yEp S) k 37 0 = S 37 0 := ySN_ne (by decide) (Or.inr (by decide)) k
      unfold yEp
      rw [w, u]
    have k2 : (k : Int) < yLyN S k 37 2 := by
      have w := q.1.2.2.1
      have u : ySN S (yEp S) k 37 2 = S 37 2 := ySN_ne (by decide) (Or.inr (by decide)) k
      omega
    have w := yLy1_ag b2 (k := k)
    rw [e] at w
    exact w.tr (q.s1 b2 (yEp_4 (S := S)) k2)
theorem zBs.lyn (B : zBs S) (h : (k : Int) ≤ S 37 2) : zBs (yLyN S k) := zBs.cg (yLyN_ag B k h).sy (B.sn (yEp_4 (S := S)) k h)
theorem yLyN_e (B : zBs S) (h : (k : Int) ≤ S 37 2) : yEp (yLyN S k) = yEp S ∧ yLyN S k 37 2 = S 37 2 ∧ yLyN S k 37 1 = S 37 1 ∧ yLyN S k 37 0 = S 37 0 := by
  have q := yLyN_ag B k h
  have u0 : ySN S (yEp S) k 37 0 = S 37 0 := ySN_ne (by decide) (Or.inr (by decide)) k
  have u1 : ySN S (yEp S) k 37 1 = S 37 1 := ySN_ne (by decide) (Or.inr (by decide)) k
  have u2 : ySN S (yEp S) k 37 2 = S 37 2 := ySN_ne (by decide) (Or.inr (by decide)) k
  refine ⟨?_, q.1.2.2.1.trans u2, q.1.2.1.trans u1, q.1.1.trans u0⟩
  unfold yEp
  rw [q.1.1, u0]
/-- what is spun in all, so far -/
theorem yTo_ly (B : zBs S) (h : (k : Int) < S 37 2) : yTo S (yEp S) (k + 1) = yTo S (yEp S) k + yX (yLyN S k) (yEp (yLyN S k)) k := by
  have q := yLyN_ag B k (by omega)
  have b := B.sn (yEp_4 (S := S)) k (by omega)
  have e := yLyN_e B (k := k) (by omega)
  show yTo S (yEp S) k + yX (ySN S (yEp S) k) (yEp S) k = _
  rw [e.1, q.xk (zBs.cg q.sy b) (yEp_4 (S := S)) (by omega)]
end YP
