/-! a village, a house, weaving, bringing, weeks: what stays -/
section YIW
variable {S T U : zT} {a i j k l n u v m : Nat} {b c d x y z : Int} {q : qT}
/-- a village more -/
theorem yVil_37 (e : i ≠ 1) : yVil S n x y z 37 i = S 37 i := by
  unfold yVil
  rw [zs_ni e, z57_n (by decide), yVi0_n (by decide)]
theorem yVil_1 : yVil S n x y z 37 1 = n + 1 := zs_eq
theorem yVil_n (e : a ≠ 37 ∧ a ≠ 39 ∧ a ≠ 57 ∧ a ≠ 65 ∧ a ≠ 66 ∧ a ≠ 70 ∧ a ≠ 71) : yVil S n x y z a i = S a i := by
  unfold yVil
  rw [zs_na e.1, z57_n (by omega), yVi0_n (by omega)]
theorem yVil_71 : yVil S n x y z 71 i = if i = n then 10 else S 71 i := by
  unfold yVil
  rw [zs_na (by decide), z57_n (by decide)]
  unfold yVi0
  rw [zs_if]
  by_cases h : i = n
  · rw [if_pos ⟨rfl, h⟩, if_pos h]
  · rw [if_neg (fun z => h z.2), if_neg h]
    simp (disch := decide) only [zs_na]
theorem yVil_65 : yVil S n x y z 65 i = if i = n then y else S 65 i := by
  unfold yVil
  rw [zs_na (by decide), z57_n (by decide)]
  unfold yVi0
  simp (disch := decide) only [zs_na]
  rw [zs_if]
  by_cases h : i = n
  · rw [if_pos ⟨rfl, h⟩, if_pos h]
  · rw [if_neg (fun z => h z.2), if_neg h]
    simp (disch := decide) only [zs_na]
theorem yVil_66 : yVil S n x y z 66 i = if i = n then z else S 66 i := by
  unfold yVil
  rw [zs_na (by decide), z57_n (by decide)]
  unfold yVi0
  simp (disch := decide) only [zs_na]
  rw [zs_if]
  by_cases h : i = n
  · rw [if_pos ⟨rfl, h⟩, if_pos h]
  · rw [if_neg (fun z => h z.2), if_neg h]
    simp (disch := decide) only [zs_na]
theorem yVil_39 {s : Nat} (hs : s < 4) : yVil S n x y z 39 (4 * v + s) = if v = n then zid x s else S 39 (4 * v + s) := by
  unfold yVil
  rw [zs_na (by decide), z57_n (by decide)]
  unfold yVi0
  simp (disch := decide) only [zs_na]
  rw [zs_if, zs_if, zs_if, zs_if]
  by_cases h : v = n
  · subst h
    rw [if_pos rfl]
    have w : s = 0 ∨ s = 1 ∨ s = 2 ∨ s = 3 := by omega
    rcases w with rfl | rfl | rfl | rfl
    · rw [if_neg (by omega), if_neg (by omega), if_neg (by omega), if_pos ⟨rfl, by omega⟩]
    · rw [if_neg (by omega), if_neg (by omega), if_pos ⟨rfl, by omega⟩]
    · rw [if_neg (by omega), if_pos ⟨rfl, by omega⟩]
    · rw [if_pos ⟨rfl, by omega⟩]
  · rw [if_neg (by omega), if_neg (by omega), if_neg (by omega), if_neg (by omega), if_neg h]
theorem yVil_57 : yVil S n x y z 57 (157 * v) = if v = n then 10 else S 57 (157 * v) := by
  unfold yVil
  rw [zs_na (by decide)]
  show (if 57 = 57 ∧ 157 * v / 157 = n ∧ 157 * v % 157 < (S 37 0).toNat + 1 then (10 : Int) else yVi0 S n x y z 57 (157 * v)) = _
  rw [yVi0_n (by decide)]
  by_cases h : v = n
  · rw [if_pos ⟨rfl, by omega, by omega⟩, if_pos h]
  · rw [if_neg (by omega), if_neg h]
theorem zid_b {s : Nat} (h : 0 ≤ x ∧ x / 1000000 ≤ 40 ∧ x / 10000 % 100 ≤ 40 ∧ x / 100 % 100 ≤ 40 ∧ x % 100 ≤ 40) : 0 ≤ zid x s ∧ zid x s ≤ 40 := by
  unfold zid
  split
  · omega
  · split
    · omega
    · split <;> omega
theorem yIv.vil (V : yIv S) (z7 : S 67 (S 37 1).toNat = 0) (z8 : S 68 (S 37 1).toNat = 0) : yIv (yVilF S x y z) := by
  unfold yVilF
  split
  rotate_left 1
  · exact V
  rename_i h
  obtain ⟨h8, hx, hy, hz⟩ := h
  obtain ⟨⟨K, B, H, Z⟩, ⟨r1, r2, r3, r4⟩, P⟩ := V
  have s1 := K.s.2.1.1
  have en : (((S 37 1).toNat : Nat) : Int) = S 37 1 := by omega
  generalize hn : (S 37 1).toNat = n at en z7 z8
  have t37 : ∀ i, i ≠ 1 → yVil S n x y z 37 i = S 37 i := fun i e => yVil_37 e
  have t1 : yVil S n x y z 37 1 = S 37 1 + 1 := by rw [yVil_1, en]
  have tn : ∀ a i, (a ≠ 37 ∧ a ≠ 39 ∧ a ≠ 57 ∧ a ≠ 65 ∧ a ≠ 66 ∧ a ≠ 70 ∧ a ≠ 71) → yVil S n x y z a i = S a i := fun a i e => yVil_n e
  have ho : ∀ k : Nat, (k : Int) < S 37 2 → _ := K.2.1
  refine ⟨⟨⟨?_, fun k hk => ?_, fun u hu => ?_, fun l hl => ?_⟩, ⟨fun k hk => ?_, fun u hu => ?_, ?_, ?_, ?_, ?_⟩, fun u hu => ?_, fun j hj => ?_⟩, ⟨?_, fun u hu => ?_, fun u hu => ?_, fun k hk => ?_⟩, fun u hu => ?_⟩
  · rw [t37 0 (by decide), t1, t37 2 (by decide), t37 64 (by decide)]
    exact ⟨K.1.1, by omega, K.1.2.2⟩
  · rw [t37 2 (by decide)] at hk
    rw [tn 80 k (by omega), tn 81 k (by omega), tn 82 k (by omega), tn 83 k (by omega), tn 79 k (by omega), t1]
    have w := ho k hk
    exact ⟨w.1, w.2.1, w.2.2.1, w.2.2.2.1, w.2.2.2.2.1, by omega⟩
  · rw [t1] at hu
    rw [yVil_71]
    refine ⟨?_, fun s hs => ?_⟩
    · by_cases e : u = n
      · rw [if_pos e]
        omega
      · rw [if_neg e]
        exact (K.vi (by omega)).1
    · rw [yVil_39 hs]
      by_cases e : u = n
      · rw [if_pos e]
        exact zid_b hx
      · rw [if_neg e]
        exact (K.vi (by omega)).2 s hs
  · rw [t37 64 (by decide)] at hl
    rw [tn 172 l (by omega), tn 173 l (by omega), tn 170 l (by omega), t37 2 (by decide)]
    exact K.2.2.2 l hl
  · rw [t37 2 (by decide)] at hk
    rw [tn 80 k (by omega), tn 81 k (by omega), tn 85 k (by omega), tn 79 k (by omega), t1]
    have w := B.1 k hk
    exact ⟨w.1, w.2.1, w.2.2.1, w.2.2.2.1, by omega⟩
  · rw [t1] at hu
    rw [yVil_66]
    refine ⟨?_, fun s hs => ?_⟩
    · by_cases e : u = n
      · rw [if_pos e]
        exact hz
      · rw [if_neg e]
        exact (B.2.1 u (by omega)).1
    · rw [yVil_39 hs]
      by_cases e : u = n
      · rw [if_pos e]
        exact zid_b hx
      · rw [if_neg e]
        exact (B.2.1 u (by omega)).2 s hs
  · rw [t37 64 (by decide)]
    exact B.2.2.1
  · rw [t37 0 (by decide)]
    exact B.2.2.2.1
  · rw [t1]
    omega
  · rw [t37 2 (by decide)]
    exact B.2.2.2.2.2
  · rw [t1] at hu
    rw [yVil_65]
    by_cases e : u = n
    · rw [if_pos e]
      omega
    · rw [if_neg e]
      exact H u (by omega)
  · rw [t37 0 (by decide)] at hj
    rw [tn 206 j (by omega)]
    exact Z j hj
  · rw [t37 78 (by decide)]
    exact r1
  · rw [t1] at hu
    rw [tn 67 u (by omega), tn 68 u (by omega), t37 78 (by decide), yCn_ag (S := S) (fun w => tn 184 w (by omega))]
    by_cases e : u = n
    · have w := yCn_b (S := S) (w := (u : Int)) (S 37 78).toNat
      rw [e] at w ⊢
      rw [z7, z8]
      omega
    · exact r2 u (by omega)
  · rw [t37 78 (by decide)] at hu
    rw [tn 183 u (by omega), tn 181 u (by omega), t37 2 (by decide)]
    exact r3 u hu
  · rw [t37 2 (by decide)] at hk
    rw [tn 91 k (by omega), tn 92 k (by omega)]
    exact r4 k hk
  · rw [t1] at hu
    rw [yVil_57]
    by_cases e : u = n
    · rw [if_pos e]
    · rw [if_neg e]
      exact P u (by omega)
/-- a house more -/
theorem yHou_n {w x2 x3 x4 x5 : Int} (e : (a ≠ 79 ∧ a ≠ 80 ∧ a ≠ 81 ∧ a ≠ 82 ∧ a ≠ 83 ∧ a ≠ 85) ∧ (a ≠ 37 ∨ i ≠ 2)) : yHou S n w x2 x3 x4 x5 a i = S a i := by
  obtain ⟨⟨e1, e2, e3, e4, e5, e6⟩, e7⟩ := e
  unfold yHou
  rw [zs_if, if_neg (by omega), zs_na e6, zs_na e5, zs_na e4, zs_na e3, zs_na e2, zs_na e1]
theorem yHou_2 {w x2 x3 x4 x5 : Int} : yHou S n w x2 x3 x4 x5 37 2 = n + 1 := zs_eq
theorem yHou_o {w x2 x3 x4 x5 : Int} (h : i ≠ n) (e : a ≠ 37) : yHou S n w x2 x3 x4 x5 a i = S a i := by
  unfold yHou
  rw [zs_na e, zs_ni h, zs_ni h, zs_ni h, zs_ni h, zs_ni h, zs_ni h]
theorem yHou_e {w x2 x3 x4 x5 : Int} : yHou S n w x2 x3 x4 x5 79 n = w ∧ yHou S n w x2 x3 x4 x5 80 n = x2 ∧ yHou S n w x2 x3 x4 x5 81 n = x3 ∧ yHou S n w x2 x3 x4 x5 82 n = x4 ∧ yHou S n w x2 x3 x4 x5 83 n = x5 ∧ yHou S n w x2 x3 x4 x5 85 n = 10 := by
  unfold yHou
  refine ⟨?_, ?_, ?_, ?_, ?_, ?_⟩ <;> simp (disch := decide) only [zs_na, zs_eq]
theorem yIv.hou (V : yIv S) (z1 : S 91 (S 37 2).toNat = 0) (z2 : S 92 (S 37 2).toNat = 0) : yIv (yHouF S x y) := by
  unfold yHouF
  split
  rotate_left 1
  · exact V
  rename_i h
  obtain ⟨h1, h2, h3, h4, h5, h6, h7, h8⟩ := h
  obtain ⟨⟨K, B, H, Z⟩, ⟨r1, r2, r3, r4⟩, P⟩ := V
  have s1 := K.s.2.2.1.1
  have en : (((S 37 2).toNat : Nat) : Int) = S 37 2 := by omega
  generalize hn : (S 37 2).toNat = n at en z1 z2
  have t1 : yHou S n x (y / 1000) (y / 100 % 10) (y / 10 % 10) (y % 10) 37 2 = S 37 2 + 1 := by rw [yHou_2, en]
  have tn : ∀ a i, (a ≠ 79 ∧ a ≠ 80 ∧ a ≠ 81 ∧ a ≠ 82 ∧ a ≠ 83 ∧ a ≠ 85) ∧ (a ≠ 37 ∨ i ≠ 2) → yHou S n x (y / 1000) (y / 100 % 10) (y / 10 % 10) (y % 10) a i = S a i := fun a i e => yHou_n e
  have to : ∀ a i, i ≠ n → a ≠ 37 → yHou S n x (y / 1000) (y / 100 % 10) (y / 10 % 10) (y % 10) a i = S a i := fun a i e f => yHou_o e f
  obtain ⟨e79, e80, e81, e82, e83, e85⟩ := yHou_e (S := S) (n := n) (w := x) (x2 := y / 1000) (x3 := y / 100 % 10) (x4 := y / 10 % 10) (x5 := y % 10)
  generalize hT : yHou S n x (y / 1000) (y / 100 % 10) (y / 10 % 10) (y % 10) = T at t1 tn to e79 e80 e81 e82 e83 e85
  refine ⟨⟨⟨?_, fun k hk => ?_, fun u hu => ?_, fun l hl => ?_⟩, ⟨fun k hk => ?_, fun u hu => ?_, ?_, ?_, ?_, ?_⟩, fun u hu => ?_, fun j hj => ?_⟩, ⟨?_, fun u hu => ?_, fun u hu => ?_, fun k hk => ?_⟩, fun u hu => ?_⟩
  · rw [tn 37 0 (by omega), tn 37 1 (by omega), t1, tn 37 64 (by omega)]
    exact ⟨K.1.1, K.1.2.1, by omega, K.1.2.2.2⟩
  · rw [t1] at hk
    rw [tn 37 1 (by omega)]
    by_cases e : k = n
    · rw [e, e79, e80, e81, e82, e83]
      omega
    · rw [to 80 k e (by decide), to 81 k e (by decide), to 82 k e (by decide), to 83 k e (by decide), to 79 k e (by decide)]
      exact K.ho (by omega)
  · rw [tn 37 1 (by omega)] at hu
    rw [tn 71 u (by omega)]
    exact ⟨(K.vi hu).1, fun s hs => by rw [tn 39 _ (by omega)]; exact (K.vi hu).2 s hs⟩
  · rw [tn 37 64 (by omega)] at hl
    rw [tn 172 l (by omega), tn 173 l (by omega), tn 170 l (by omega), t1]
    have w := K.2.2.2 l hl
    exact ⟨w.1, w.2.1, w.2.2.1, by omega⟩
  · rw [t1] at hk
    rw [tn 37 1 (by omega)]
    by_cases e : k = n
    · rw [e, e79, e80, e81, e85]
      omega
    · rw [to 80 k e (by decide), to 81 k e (by decide), to 85 k e (by decide), to 79 k e (by decide)]
      exact B.1 k (by omega)
  · rw [tn 37 1 (by omega)] at hu
    rw [tn 66 u (by omega)]
    exact ⟨(B.2.1 u hu).1, fun s hs => by rw [tn 39 _ (by omega)]; exact (B.2.1 u hu).2 s hs⟩
  · rw [tn 37 64 (by omega)]
    exact B.2.2.1
  · rw [tn 37 0 (by omega)]
    exact B.2.2.2.1
  · rw [tn 37 1 (by omega)]
    exact B.2.2.2.2.1
  · rw [t1]
    omega
  · rw [tn 37 1 (by omega)] at hu
    rw [tn 65 u (by omega)]
    exact H u hu
  · rw [tn 37 0 (by omega)] at hj
    rw [tn 206 j (by omega)]
    exact Z j hj
  · rw [tn 37 78 (by omega)]
    exact r1
  · rw [tn 37 1 (by omega)] at hu
    rw [tn 67 u (by omega), tn 68 u (by omega), tn 37 78 (by omega), yCn_ag (S := S) (fun w => tn 184 w (by omega))]
    exact r2 u hu
  · rw [tn 37 78 (by omega)] at hu
    rw [tn 183 u (by omega), tn 181 u (by omega), t1]
    have w := r3 u hu
    exact ⟨w.1, w.2.1, by omega⟩
  · rw [t1] at hk
    rw [tn 91 k (by omega), tn 92 k (by omega)]
    by_cases e : k = n
    · rw [e, z1, z2]
      omega
    · exact r4 k (by omega)
  · rw [tn 37 1 (by omega)] at hu
    rw [tn 57 _ (by omega)]
    exact P u hu
/-- weaving -/
theorem yWvS_n (e : (a ≠ 84 ∧ a ≠ 92 ∧ a ≠ 175) ∧ (a < 180 ∨ 185 < a) ∧ (a ≠ 37 ∨ (i ≠ 70 ∧ i ≠ 78))) : yWvS q S k l x a i = S a i := by
  obtain ⟨⟨e1, e2, e3⟩, e4, e5⟩ := e
  unfold yWvS
  rw [zs_if, if_neg (by omega), zs_if, if_neg (by omega), zs_na (by omega), zs_na (by omega), zs_na (by omega), zs_na (by omega), zs_na (by omega), zs_na (by omega), zs_na e3, zs_na e2, zs_na e1, zs_na e1]
theorem yWvS_o (h : i ≠ (S 37 78).toNat) (e : 180 ≤ a ∧ a ≤ 185) : yWvS q S k l x a i = S a i := by
  unfold yWvS
  rw [zs_na (by omega), zs_na (by omega), zs_ni h, zs_ni h, zs_ni h, zs_ni h, zs_ni h, zs_ni h, zs_na (by omega), zs_na (by omega), zs_na (by omega), zs_na (by omega)]
theorem yWvS_92 : yWvS q S k l x 92 i = if i = k then w32 (S 92 k + x) else S 92 i := by
  unfold yWvS
  simp (disch := decide) only [zs_na]
  rw [zs_if]
  by_cases h : i = k
  · rw [if_pos ⟨rfl, h⟩, if_pos h]
  · rw [if_neg (fun z => h z.2), if_neg h]
    simp (disch := decide) only [zs_na]
theorem yWvS_e : yWvS q S k l x 181 (S 37 78).toNat = k ∧ yWvS q S k l x 183 (S 37 78).toNat = x / 2 ∧ yWvS q S k l x 184 (S 37 78).toNat = -1 ∧ yWvS q S k l x 37 78 = S 37 78 + 1 := by
  unfold yWvS
  refine ⟨?_, ?_, ?_, ?_⟩ <;> simp (disch := decide) only [zs_na, zs_eq]
theorem yIv.wv (V : yIv S) : yIv (yWvF q S x y z) := by
  unfold yWvF
  split
  rotate_left 1
  · exact V
  rename_i h
  obtain ⟨⟨h1, h2, h3⟩, h4, h5, h6⟩ := h
  have h7 : z ≤ w32 (S 91 x.toNat - S 92 x.toNat) := by
    unfold yBarF at h6
    split at h6
    · omega
    · split at h6
      · omega
      · split at h6 <;> omega
  have h8 : 0 < S 91 x.toNat := by
    have w : yLbar q S x.toNat y.toNat z = 0 := by
      unfold yBarF at h6
      split at h6
      · exact h6
      · omega
    unfold yLbar at w
    split at w <;> omega
  obtain ⟨W, ⟨r1, r2, r3, r4⟩, P⟩ := V
  have b4 := r4 x.toNat (by omega)
  have w1 : w32 (S 91 x.toNat - S 92 x.toNat) ≤ 40 - S 92 x.toNat := by
    unfold w32 at h7 ⊢
    omega
  have w2 : w32 (S 92 x.toNat + z) = S 92 x.toNat + z := w32_id ⟨by omega, by omega⟩
  have en : (((S 37 78).toNat : Nat) : Int) = S 37 78 := by omega
  obtain ⟨f1, f3, f4, f7⟩ := yWvS_e (q := q) (S := S) (k := x.toNat) (l := y.toNat) (x := z)
  have tn : ∀ a i, (a ≠ 84 ∧ a ≠ 92 ∧ a ≠ 175) ∧ (a < 180 ∨ 185 < a) ∧ (a ≠ 37 ∨ (i ≠ 70 ∧ i ≠ 78)) → yWvS q S x.toNat y.toNat z a i = S a i := fun a i e => yWvS_n e
  have to : ∀ a i, i ≠ (S 37 78).toNat → 180 ≤ a ∧ a ≤ 185 → yWvS q S x.toNat y.toNat z a i = S a i := fun a i e f => yWvS_o e f
  have t92 : ∀ i, yWvS q S x.toNat y.toNat z 92 i = if i = x.toNat then w32 (S 92 x.toNat + z) else S 92 i := fun i => yWvS_92
  generalize hT : yWvS q S x.toNat y.toNat z = T at f1 f3 f4 f7 tn to t92
  refine ⟨W.ag (fun a i e => tn a i (by unfold yKi yKt at e; omega)), ⟨?_, fun u hu => ?_, fun u hu => ?_, fun k hk => ?_⟩, P.ag (tn 37 1 (by omega)) (fun i => tn 57 i (by omega))⟩
  · rw [f7]
    omega
  · rw [tn 37 1 (by omega)] at hu
    rw [tn 67 u (by omega), tn 68 u (by omega), f7, show (S 37 78 + 1).toNat = (S 37 78).toNat + 1 by omega]
    have c := r2 u hu
    rw [yCn_s, f4, if_neg (show ¬ (-1 : Int) = (u : Int) by omega)]
    have g : ∀ m : Nat, m ≤ (S 37 78).toNat → yCn T (u : Int) m = yCn S (u : Int) m := by
      intro m
      induction m with
      | zero => intro _; rfl
      | succ m ih =>
        intro hm
        rw [yCn_s, yCn_s, to 184 m (by omega) (by omega), ih (by omega)]
    rw [g _ (Nat.le_refl _)]
    exact c
  · rw [f7] at hu
    rw [tn 37 2 (by omega)]
    by_cases e : u = (S 37 78).toNat
    · rw [e, f3, f1]
      omega
    · rw [to 183 u e (by omega), to 181 u e (by omega)]
      exact r3 u (by omega)
  · rw [tn 37 2 (by omega)] at hk
    rw [tn 91 k (by omega), t92]
    by_cases e : k = x.toNat
    · rw [if_pos e, w2, e]
      omega
    · rw [if_neg e]
      exact r4 k hk
/-- bringing -/
theorem yBrS_n (e : a ≠ 67 ∧ a ≠ 68 ∧ a ≠ 75 ∧ a ≠ 184) : yBrS S u v a i = S a i := by
  obtain ⟨e1, e2, e3, e4⟩ := e
  unfold yBrS
  split
  · rw [zs_na e4, zs_na e2]
  · rw [zs_na e4, zs_na e3, zs_na e1]
theorem yBrS_184 : yBrS S u v 184 i = zs S 184 u v 184 i := by
  unfold yBrS
  by_cases h : i = u
  · subst h
    split <;> rw [zs_eq, zs_eq]
  · split
    · rw [zs_ni h, zs_ni h, zs_na (by decide)]
    · rw [zs_ni h, zs_ni h, zs_na (by decide), zs_na (by decide)]
theorem yBrS_o (h : i ≠ v) (e : a = 67 ∨ a = 68) : yBrS S u v a i = S a i := by
  unfold yBrS
  split
  · rw [zs_na (by omega), zs_ni h]
  · rw [zs_na (by omega), zs_na (by omega), zs_ni h]
theorem yBrS_v (h1 : 0 ≤ S 67 v ∧ 0 ≤ S 68 v) (h2 : 0 ≤ S 183 u ∧ S 183 u ≤ 20) (h3 : S 67 v + S 68 v ≤ 5000) : (0 ≤ yBrS S u v 67 v ∧ 0 ≤ yBrS S u v 68 v) ∧ yBrS S u v 67 v + yBrS S u v 68 v ≤ S 67 v + S 68 v + 20 := by
  have w1 : w32 (S 67 v + S 183 u) = S 67 v + S 183 u := w32_id ⟨by omega, by omega⟩
  have w2 : w32 (S 68 v + S 183 u) = S 68 v + S 183 u := w32_id ⟨by omega, by omega⟩
  unfold yBrS
  split
  · simp (disch := decide) only [zs_na, zs_eq]
    omega
  · simp (disch := decide) only [zs_na, zs_eq]
    omega
theorem yIv.br (V : yIv S) : yIv (yBrF S x y) := by
  unfold yBrF
  split
  rotate_left 1
  · exact V
  rename_i h
  obtain ⟨h1, h2, h3, h4⟩ := h
  obtain ⟨W, ⟨r1, r2, r3, r4⟩, P⟩ := V
  have tn : ∀ a i, (a ≠ 67 ∧ a ≠ 68 ∧ a ≠ 75 ∧ a ≠ 184) → yBrS S x.toNat y.toNat a i = S a i := fun a i e => yBrS_n e
  refine ⟨W.ag (fun a i e => tn a i (by unfold yKi yKt at e; omega)), ⟨?_, fun u hu => ?_, fun u hu => ?_, fun k hk => ?_⟩, P.ag (tn 37 1 (by omega)) (fun i => tn 57 i (by omega))⟩
  · rw [tn 37 78 (by omega)]
    exact r1
  · rw [tn 37 1 (by omega)] at hu
    rw [tn 37 78 (by omega), yCn_ag (S := zs S 184 x.toNat y.toNat) (fun w => yBrS_184), yCn_br h3 (by omega)]
    have c := r2 u hu
    have cb := yCn_b (S := S) (w := (u : Int)) (S 37 78).toNat
    by_cases e : u = y.toNat
    · have d := yBrS_v (S := S) (u := x.toNat) (v := u) c.1 (r3 x.toNat (by omega)).1 (by omega)
      rw [← e, if_pos ⟨by omega, rfl⟩]
      omega
    · rw [yBrS_o e (Or.inl rfl), yBrS_o e (Or.inr rfl), if_neg (by omega)]
      omega
  · rw [tn 37 78 (by omega)] at hu
    rw [tn 183 u (by omega), tn 181 u (by omega), tn 37 2 (by omega)]
    exact r3 u hu
  · rw [tn 37 2 (by omega)] at hk
    rw [tn 91 k (by omega), tn 92 k (by omega)]
    exact r4 k hk
/-- weeks -/
theorem ySlH_b {B : Int} (h : (0 ≤ S 67 v ∧ 0 ≤ S 68 v) ∧ S 67 v + S 68 v ≤ B) (hB : B ≤ 5000) (hp : 0 < w32 (S 67 v + S 68 v)) : (0 ≤ ySlH S v 67 v ∧ 0 ≤ ySlH S v 68 v) ∧ ySlH S v 67 v + ySlH S v 68 v ≤ B := by
  have w0 : w32 (S 67 v + S 68 v) = S 67 v + S 68 v := w32_id ⟨by omega, by omega⟩
  have w1 : w32 (S 67 v - 1) = S 67 v - 1 := w32_id ⟨by omega, by omega⟩
  have w2 : w32 (S 68 v - 1) = S 68 v - 1 := w32_id ⟨by omega, by omega⟩
  unfold ySlH
  split
  · simp (disch := decide) only [zs_na, zs_eq]
    omega
  · simp (disch := decide) only [zs_na, zs_eq]
    omega
theorem ySlH_o (h : v ≠ u) (e : a = 67 ∨ a = 68) : ySlH S u a v = S a v := by
  unfold ySlH
  split
  · rw [zs_na (by omega), zs_na (by omega), zs_ni h]
  · rw [zs_na (by omega), zs_ni h]
theorem yByd_b {B : Int} (h : (0 ≤ S 67 v ∧ 0 ≤ S 68 v) ∧ S 67 v + S 68 v ≤ B) (hB : B ≤ 5000) : (0 ≤ yByd S k d 67 v ∧ 0 ≤ yByd S k d 68 v) ∧ yByd S k d 67 v + yByd S k d 68 v ≤ B := by
  unfold yByd yBya
  split
  · rename_i e
    have hp : 0 < w32 (S 67 (S 79 k).toNat + S 68 (S 79 k).toNat) := by
      unfold yCho at e
      split at e
      · rename_i f
        exact f.1
      · split at e <;> omega
    rw [zs_na (a := 87) (by decide), zs_na (a := 84) (by decide), zs_na (a := 87) (by decide), zs_na (a := 84) (by decide)]
    by_cases f : v = (S 79 k).toNat
    · rw [← f] at hp ⊢
      exact ySlH_b h hB hp
    · rw [ySlH_o f (Or.inl rfl), ySlH_o f (Or.inr rfl)]
      exact h
  · split
    · rw [zs_na (a := 37) (by decide), zs_na (a := 88) (by decide), zs_na (a := 84) (by decide), ySlM_n (by decide), zs_na (a := 37) (by decide), zs_na (a := 88) (by decide), zs_na (a := 84) (by decide), ySlM_n (by decide)]
      exact h
    · rw [zs_na (a := 86) (by decide), zs_na (a := 86) (by decide)]
      exact h
theorem yBys_b {B : Int} (h : (0 ≤ S 67 v ∧ 0 ≤ S 68 v) ∧ S 67 v + S 68 v ≤ B) (hB : B ≤ 5000) : ∀ k : Nat, (0 ≤ yBys q S k 67 v ∧ 0 ≤ yBys q S k 68 v) ∧ yBys q S k 67 v + yBys q S k 68 v ≤ B
  | 0 => h
  | k + 1 => by
    have ih := yBys_b h hB k
    rw [yBys_s]
    split
    · exact yByd_b ih hB
    · exact ih
theorem yBg2_v : ∀ n : Nat, k < n → yBg2 S n 92 k = 0
  | 0, h => absurd h (Nat.not_lt_zero _)
  | n + 1, h => by
    rw [yBg2_s, zs_if]
    by_cases e : k = n
    · rw [if_pos ⟨rfl, e⟩]
    · rw [if_neg (fun z => e z.2)]
      exact yBg2_v n (by omega)
theorem yBg1_57 (h : 0 < m ∧ m < 157) : ∀ n : Nat, yBg1 S m n 57 (157 * v) = S 57 (157 * v)
  | 0 => rfl
  | n + 1 => by
    rw [yBg1_s, zs_ni (by omega)]
    exact yBg1_57 h n
theorem yWk5_b (e : (a = 37 ∧ (i = 1 ∨ i = 2 ∨ i = 78)) ∨ a = 181 ∨ a = 183 ∨ a = 184 ∨ a = 91 ∨ a = 57) : yWk5 q S a i = S a i := by
  have e3 : yWk3 q S a i = S a i := (yWrA_n (by omega)).trans ((yBys_n (by omega) _).trans (yLyN_n (by omega) _))
  unfold yWk5
  split
  · rw [ySea_n (by omega), e3]
  · exact e3
theorem yIv.wk (V : yIv S) (h : S 37 0 < 156) : yIv (yWkC q S) := by
  obtain ⟨W, ⟨r1, r2, r3, r4⟩, P⟩ := V
  have s0 := W.1.s.1.1
  have t : ∀ a i, (a = 37 ∧ (i = 1 ∨ i = 2 ∨ i = 78)) ∨ a = 181 ∨ a = 183 ∨ a = 184 ∨ a = 91 → yWkC q S a i = S a i := fun a i e => (yWkC_n (by omega)).trans (yWk5_b (by omega))
  have t67 : ∀ a v, a = 67 ∨ a = 68 → yWkC q S a v = yByA q (yLyA S) a v := fun a v e => by
    rw [yWkC_n (by omega)]
    have e3 : yWk3 q S a v = yByA q (yLyA S) a v := yWrA_n (by omega)
    unfold yWk5
    split
    · rw [ySea_n (by omega), e3]
    · exact e3
  refine ⟨W.wk h, ⟨?_, fun u hu => ?_, fun u hu => ?_, fun k hk => ?_⟩, fun u hu => ?_⟩
  · rw [t 37 78 (by omega)]
    exact r1
  · rw [t 37 1 (by omega)] at hu
    have c := r2 u hu
    have cb := yCn_b (S := S) (w := (u : Int)) (S 37 78).toNat
    have l7 : yLyA S 67 u = S 67 u := yLyN_n (by omega) _
    have l8 : yLyA S 68 u = S 68 u := yLyN_n (by omega) _
    rw [t67 67 u (by omega), t67 68 u (by omega), t 37 78 (by omega), yCn_ag (S := S) (fun w => t 184 w (by omega))]
    exact yBys_b (by rw [l7, l8]; exact c) (by omega) _
  · rw [t 37 78 (by omega)] at hu
    rw [t 183 u (by omega), t 181 u (by omega), t 37 2 (by omega)]
    exact r3 u hu
  · rw [t 37 2 (by omega)] at hk
    rw [t 91 k (by omega)]
    refine ⟨(r4 k hk).1, ?_⟩
    have e2 : yWkC q S 92 k = 0 := by
      unfold yWkC yBgA
      refine yBg2_v _ ?_
      rw [zs_ni (by decide), yClo_n (by omega), yWk5_b (by omega)]
      omega
    rw [e2]
    omega
  · rw [t 37 1 (by omega)] at hu
    have e : yWkC q S 57 (157 * u) = yWk5 q S 57 (157 * u) := by
      unfold yWkC yBgA
      have n92 : ∀ (U : zT) (n : Nat), yBg2 U n 57 (157 * u) = U 57 (157 * u) := fun U n => yBg2_n (by decide) _
      rw [n92, yBg1_57 (by rw [zs_eq, yWk5_n (by omega)]; omega), zs_na (by decide), yClo_n (by omega)]
    rw [e, yWk5_b (by omega)]
    exact P u hu
theorem yIv.go (V : yIv S) : ∀ k : Nat, yIv (yGoN q S k)
  | 0 => V
  | k + 1 => by
    rw [yGoN_s]
    split
    · exact (V.go k).wk (by assumption)
    · exact V.go k
theorem yIv.gof (V : yIv S) : yIv (yGoF q S x) := by
  unfold yGoF
  split
  · exact V.go _
  · exact V
end YIW
