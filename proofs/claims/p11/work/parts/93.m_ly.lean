/-! spinning as the model writes it -/
section YLB
variable {S T L : zT} {h : Hp} {k v i j n p : Nat} {x y w z : Int} {C : Nat → Int}
theorem zAg_yM (I : zI h) : zAg (zSt h) (yM h) := by
  have n1 := I.b (a1 := 37) (a2 := 37) (j1 := 1) (j2 := 2) (lo := 0) (hi := 8) (by decide +kernel) (r := 37) (j := 1) (by decide) (by decide) (by decide) (by decide)
  have n2 := I.b (a1 := 37) (a2 := 37) (j1 := 2) (j2 := 3) (lo := 0) (hi := 20) (by decide +kernel) (r := 37) (j := 2) (by decide) (by decide) (by decide) (by decide)
  refine ⟨⟨rfl, rfl, rfl, rfl⟩, fun k hk => ?_, fun v hv => ?_⟩
  · have hk : (k : Int) < fld h 37 2 := hk
    exact ⟨(yM_p (a := 79) (n := 20) rfl (by omega)).symm, (yM_p (a := 80) (n := 20) rfl (by omega)).symm, (yM_p (a := 81) (n := 20) rfl (by omega)).symm, (yM_p (a := 85) (n := 20) rfl (by omega)).symm⟩
  · have hv : (v : Int) < fld h 37 1 := hv
    refine ⟨(yM_p (a := 66) (n := 8) rfl (by omega)).symm, fun s hs => ?_⟩
    rw [zSt_39 hs, yM_2 (a := 39) (w := 4) (v := v) (j := s) rfl hs (by show _ < 32; omega)]
    rfl
theorem yLy_e (A : zAg (zSt h) S) : yEp (zSt h) = yEp S := by
  unfold yEp
  rw [A.1.1]
theorem yLy_x (A : zAg (zSt h) S) (B : zBs S) (hk : (k : Int) < S 37 2) : yX (ySN (zSt h) (yEp (zSt h)) k) (yEp (zSt h)) k = yX (yLyN S k) (yEp (yLyN S k)) k := by
  have B2 := zBs.cg A.sy B
  have e := yLyN_e B (k := k) (by omega)
  have q := yLyN_ag B k (by omega)
  have a1 := A.sn B2 (yEp_4 (S := S)) k (by have := A.1.2.2.1; omega)
  rw [yLy_e A, e.1]
  have u2 : ySN (zSt h) (yEp S) k 37 2 = zSt h 37 2 := ySN_ne (by decide) (Or.inr (by decide)) k
  have a0 := A.1.2.2.1
  exact (a1.tr q.sy).xk (B2.sn (yEp_4 (S := S)) k (by omega)) (yEp_4 (S := S)) (by omega)
theorem yLy_c (A : zAg (zSt h) S) (B : zBs S) (hn : (n : Int) ≤ S 37 2) (hv : (v : Int) < S 37 1) : ySN (zSt h) (yEp (zSt h)) n 66 v = yLyN S n 66 v := by
  have B2 := zBs.cg A.sy B
  have q := yLyN_ag B n hn
  have a1 := A.sn B2 (yEp_4 (S := S)) n (by have := A.1.2.2.1; omega)
  rw [yLy_e A]
  have u1 : ySN (zSt h) (yEp S) n 37 1 = zSt h 37 1 := ySN_ne (by decide) (Or.inr (by decide)) n
  have a0 := A.1.2.1
  exact ((a1.tr q.sy).2.2 v (by omega)).1
theorem yLy_t (A : zAg (zSt h) S) (B : zBs S) (hn : (n : Int) ≤ S 37 2) : yTo (zSt h) (yEp (zSt h)) n = yTo S (yEp S) n := by
  rw [yLy_e A]
  exact A.to (zBs.cg A.sy B) (yEp_4 (S := S)) n (by have := A.1.2.2.1; omega)
def yStq (S : zT) (k : Nat) (b : Int) : Int := max (w32 (w32 (w32 (20 * S 65 (S 79 k).toNat) + w32 (3 * b)) - w32 (2 * S 85 k))) 0
/-- cotton as it will be -/
def yR66 (S : zT) (T : zT) : zT := fun a i => if a = 66 ∧ (i : Int) < S 37 1 then yLyN S (S 37 2).toNat 66 i else T a i
theorem yR_zs {a : Nat} (e : a ≠ 66) : yR66 S (zs T a i x) = zs (yR66 S T) a i x := by
  funext b j
  unfold yR66
  rw [zs_if, zs_if]
  by_cases c : b = a ∧ j = i
  · rw [if_pos c, if_neg (fun z => e (c.1.symm.trans z.1)), if_pos c]
  · rw [if_neg c, if_neg c]
theorem yR_66 (h : (i : Int) < S 37 1) : yR66 S (zs T 66 i x) = yR66 S T := by
  funext b j
  unfold yR66
  by_cases c : b = 66 ∧ (j : Int) < S 37 1
  · rw [if_pos c, if_pos c]
  · rw [if_neg c, if_neg c, zs_if, if_neg (fun z => c ⟨z.1, by rw [z.2]; exact h⟩)]
theorem yR_n {a : Nat} (e : a ≠ 66) : yR66 S T a i = T a i := if_neg (fun z => e z.1)
/-- the model's tables while it lays -/
def yLyB (S : zT) (p : Nat) (x w : Int) (k : Nat) : zT := zs (zs (yR66 S (yLyN S k)) 206 p x) 37 71 w
theorem yLyB_n {a : Nat} (e : a ≠ 66 ∧ a ≠ 206 ∧ a ≠ 37) : yLyB S p x w k a i = yLyN S k a i := (zs_na e.2.2).trans ((zs_na e.2.1).trans (yR_n e.1))
theorem yLyB_0 : yLyB S p x w k 37 0 = yLyN S k 37 0 := (zs_ni (by decide)).trans ((zs_na (by decide)).trans (yR_n (by decide)))
theorem yLyB_2 : yLyB S p x w k 37 2 = yLyN S k 37 2 := (zs_ni (by decide)).trans ((zs_na (by decide)).trans (yR_n (by decide)))
theorem yLyB_64 : yLyB S p x w k 37 64 = yLyN S k 37 64 := (zs_ni (by decide)).trans ((zs_na (by decide)).trans (yR_n (by decide)))
theorem zs_p206 {a : Nat} (e : a ≠ 206) : zs (zs S a i x) 206 j y = zs (zs S 206 j y) a i x := zs_sw e
theorem zs_p71a {a : Nat} (e : a ≠ 37 ∧ a ≠ 206) : zs (zs S a i x) 37 71 y = zs (zs S 37 71 y) a i x := zs_sw e.1
theorem zs_p71b : zs (zs S 37 64 x) 37 71 y = zs (zs S 37 71 y) 37 64 x := by
  funext b j
  rw [zs_if, zs_if, zs_if, zs_if]
  by_cases c : b = 37 ∧ j = 71
  · rw [if_pos c, if_neg (by omega), if_pos c]
  · rw [if_neg c, if_neg c]
/-- cotton told, village by village -/
def yCt (S : zT) (C : Nat → Int) : Nat → zT
  | 0 => S
  | v + 1 => zs (yCt S C v) 66 v (C v)
theorem yCt_s : yCt S C (v + 1) = zs (yCt S C v) 66 v (C v) := rfl
theorem yCt_e : ∀ v : Nat, yCt S C v = fun a i => if a = 66 ∧ i < v then C i else S a i
  | 0 => by
    funext a i
    exact (if_neg (by omega)).symm
  | v + 1 => by
    funext a i
    rw [yCt_s, zs_if, yCt_e v]
    by_cases c : a = 66 ∧ i = v
    · rw [if_pos c, if_pos ⟨c.1, by omega⟩, c.2]
    · rw [if_neg c]
      show (if a = 66 ∧ i < v then C i else S a i) = _
      by_cases d : a = 66 ∧ i < v
      · rw [if_pos d, if_pos ⟨d.1, by omega⟩]
      · rw [if_neg d, if_neg (by omega)]
theorem yLyB_i (h0 : 0 ≤ S 37 1) (hC : ∀ i : Nat, (i : Int) < S 37 1 → C i = yLyN S (S 37 2).toNat 66 i) : yCt (zs (zs S 206 p x) 37 71 w) C (S 37 1).toNat = yLyB S p x w 0 := by
  rw [yCt_e]
  funext a i
  show (if a = 66 ∧ i < (S 37 1).toNat then C i else zs (zs S 206 p x) 37 71 w a i) = zs (zs (yR66 S S) 206 p x) 37 71 w a i
  by_cases c : a = 66 ∧ i < (S 37 1).toNat
  · obtain ⟨rfl, c2⟩ := c
    rw [if_pos ⟨rfl, c2⟩, zs_na (by decide), zs_na (by decide), hC i (by omega)]
    exact (if_pos ⟨rfl, by omega⟩).symm
  · rw [if_neg c, zs_if (S := zs S 206 p x), zs_if (S := zs (yR66 S S) 206 p x)]
    by_cases d : a = 37 ∧ i = 71
    · rw [if_pos d, if_pos d]
    · rw [if_neg d, if_neg d, zs_if (S := S), zs_if (S := yR66 S S)]
      by_cases e : a = 206 ∧ i = p
      · rw [if_pos e, if_pos e]
      · rw [if_neg e, if_neg e]
        exact (if_neg (fun z => c ⟨z.1, by omega⟩)).symm
theorem yLyB_z (hz : ¬(0 < yX (yLyN S k) (yEp (yLyN S k)) k)) : yLyB S p x w (k + 1) = zs (yLyB S p x w k) 95 k (w32 (yLyN S k 95 k + yCan (yLyN S k) k)) := by
  unfold yLyB
  rw [yLyN_s]
  unfold yLy1
  rw [if_neg hz, yR_zs (by decide), zs_p206 (by decide), zs_p71a (by decide)]
theorem yLyB_p (hp : 0 < yX (yLyN S k) (yEp (yLyN S k)) k) (hv : (((yLyN S k 79 k).toNat : Nat) : Int) < S 37 1) : yLyB S p x w (k + 1) = zs (zs (zs (zs (zs (zs (zs (zs (yLyB S p x w k) 95 k (w32 (yLyN S k 95 k + yCan (yLyN S k) k))) 170 (yLyN S k 37 64).toNat k) 171 (yLyN S k 37 64).toNat (yLyN S k 37 0)) 172 (yLyN S k 37 64).toNat (yLyN S k 85 k)) 173 (yLyN S k 37 64).toNat (yStq (yLyN S k) k (yLyN S k 81 k))) 174 (yLyN S k 37 64).toNat (yX (yLyN S k) (yEp (yLyN S k)) k)) 175 (yLyN S k 37 64).toNat (yX (yLyN S k) (yEp (yLyN S k)) k)) 37 64 (yLyN S k 37 64 + 1) := by
  unfold yLyB
  rw [yLyN_s]
  unfold yLy1
  rw [if_pos hp, yR_zs (by decide), yR_zs (by decide), yR_zs (by decide), yR_zs (by decide), yR_zs (by decide), yR_zs (by decide), yR_zs (by decide), yR_zs (by decide), yR_66 hv]
  rw [zs_p206 (by decide), zs_p206 (by decide), zs_p206 (by decide), zs_p206 (by decide), zs_p206 (by decide), zs_p206 (by decide), zs_p206 (by decide), zs_p206 (by decide)]
  rw [zs_p71b, zs_p71a (by decide), zs_p71a (by decide), zs_p71a (by decide), zs_p71a (by decide), zs_p71a (by decide), zs_p71a (by decide), zs_p71a (by decide)]
  rfl
/-- a laying, for the model -/
def yP1 (S : zT) : Nat := 6 * (S 37 0).toNat + 1
def yW1 (S : zT) : Int := w32 (S 37 71 + yToA S)
def yLyM (S : zT) : zT := zs (zs (yLyA S) 206 (yP1 S) (yToA S)) 37 71 (yW1 S)
theorem yR_end (h2 : n = (S 37 2).toNat) : yR66 S (yLyN S n) = yLyN S n := by
  subst h2
  funext a i
  unfold yR66
  split
  · rename_i c
    rw [c.1]
  · rfl
end YLB
