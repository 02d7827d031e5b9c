/-! a week, pure -/
section YWK
variable {S T X : zT} {k v i j n a b : Nat} {x y w z : Int} {q : qT} {P : Nat → Nat → Prop}
/-- alike but for some places -/
def zOf (P : Nat → Nat → Prop) (S T : zT) : Prop := ∀ a i, ¬P a i → S a i = T a i
theorem zOf.s (H : zOf P S T) (e : x = y) : zOf P (zs S a i x) (zs T a i y) := fun b j hb => by
  rw [zs_if, zs_if, H b j hb, e]
theorem zOf.it {c d : Prop} [Decidable c] [Decidable d] {A B C D : zT} (e : c ↔ d) (H1 : zOf P A C) (H2 : zOf P B D) : zOf P (if c then A else B) (if d then C else D) := by
  by_cases h : c
  · rw [if_pos h, if_pos (e.1 h)]
    exact H1
  · rw [if_neg h, if_neg (fun z => h (e.2 z))]
    exact H2
def pL (a i : Nat) : Prop := a = 206 ∨ (a = 37 ∧ i = 71)
def pLW (a i : Nat) : Prop := pL a i ∨ a = 72
def pLS (a i : Nat) : Prop := pL a i ∨ a = 93 ∨ a = 71 ∨ a = 77 ∨ a = 78
theorem pL_n (e : a ≠ 206 ∧ (a ≠ 37 ∨ i ≠ 71)) : ¬pL a i := fun z => by unfold pL at z; omega
theorem pLW_n (e : (a ≠ 206 ∧ a ≠ 72) ∧ (a ≠ 37 ∨ i ≠ 71)) : ¬pLW a i := fun z => by unfold pLW pL at z; omega
theorem pLS_n (e : (a ≠ 206 ∧ a ≠ 93 ∧ a ≠ 71) ∧ (a ≠ 77 ∧ a ≠ 78) ∧ (a ≠ 37 ∨ i ≠ 71)) : ¬pLS a i := fun z => by unfold pLS pL at z; omega
/-- buying looks at no week's numbers -/
theorem yDut_c (H : zOf P S T) (h0 : ¬P 37 0) (h1 : ¬P 71 v) : yDut q S v = yDut q T v := by
  unfold yDut
  rw [H 37 0 h0, H 71 v h1]
theorem yByh_o (H : zOf pL S T) : zOf pL (yByh q S k) (yByh q T k) := by
  have t : ∀ b j, (b ≠ 206 ∧ (b ≠ 37 ∨ j ≠ 71)) → S b j = T b j := fun b j e => H b j (pL_n e)
  have d : yDut q S (S 79 k).toNat = yDut q T (T 79 k).toNat := by
    rw [yDut_c H (pL_n (by omega)) (pL_n (by omega)), t 79 k (by omega)]
  have e79 := t 79 k (by omega)
  have c : yCho S (S 79 k).toNat (S 84 k) (yDut q S (S 79 k).toNat) = yCho T (T 79 k).toNat (T 84 k) (yDut q T (T 79 k).toNat) := by
    rw [d, e79, t 84 k (by omega)]
    unfold yCho
    rw [t 67 _ (by omega), t 68 _ (by omega), t 69 _ (by omega), t 70 _ (by omega), t 71 _ (by omega), t 72 _ (by omega)]
  unfold yByh yByd yBya
  rw [c, d, e79]
  have sh : zOf pL (ySlH S (T 79 k).toNat) (ySlH T (T 79 k).toNat) := by
    unfold ySlH
    rw [t 67 _ (by omega), t 68 _ (by omega), t 70 _ (by omega), t 73 _ (by omega), t 76 _ (by omega)]
    exact zOf.it Iff.rfl (((H.s rfl).s rfl).s rfl) ((H.s rfl).s rfl)
  have sm : zOf pL (ySlM S (T 79 k).toNat) (ySlM T (T 79 k).toNat) := by
    unfold ySlM
    rw [t 69 _ (by omega), t 71 _ (by omega), t 73 _ (by omega), t 77 _ (by omega)]
    exact ((H.s rfl).s rfl).s rfl
  rw [t 70 _ (by omega), t 71 _ (by omega), t 84 _ (by omega), t 86 _ (by omega), t 87 _ (by omega), t 88 _ (by omega), t 37 38 (by omega)]
  exact zOf.it Iff.rfl ((sh.s rfl).s rfl) (zOf.it Iff.rfl (((sm.s rfl).s rfl).s rfl) (H.s rfl))
theorem yBys_o (H : zOf pL S T) : ∀ k : Nat, zOf pL (yBys q S k) (yBys q T k)
  | 0 => H
  | k + 1 => by
    have ih := yBys_o H k
    rw [yBys_s, yBys_s, ih 37 0 (pL_n (by omega)), ih 83 k (pL_n (by omega))]
    exact zOf.it Iff.rfl (yByh_o ih) ih
/-- dues and the mill's prices: nor do they, nor at the word -/
theorem yOwe_c (H : zOf pLW S T) : yOwe q S k = yOwe q T k := by
  have t : ∀ b j, ((b ≠ 206 ∧ b ≠ 72) ∧ (b ≠ 37 ∨ j ≠ 71)) → S b j = T b j := fun b j e => H b j (pLW_n e)
  unfold yOwe yNmH yIdl
  rw [t 37 0 (by omega), t 83 k (by omega), t 80 k (by omega), t 81 k (by omega), t 82 k (by omega), t 79 k (by omega), t 39 _ (by omega)]
theorem yDus_o (H : zOf pLW S T) : ∀ k : Nat, zOf pLW (yDus q S k) (yDus q T k)
  | 0 => H
  | k + 1 => by
    have ih := yDus_o H k
    show zOf pLW (yDu1 q _ k) (yDu1 q _ k)
    unfold yDu1
    rw [yOwe_c ih, ih 80 k (pLW_n (by omega)), ih 93 k (pLW_n (by omega))]
    exact zOf.it Iff.rfl (ih.s rfl) ih
theorem yMls_o (H : zOf pLW S T) : ∀ k : Nat, zOf pLW (yMls S k) (yMls T k)
  | 0 => H
  | k + 1 => by
    have ih := yMls_o H k
    show zOf pLW (yMl1 _ k) (yMl1 _ k)
    unfold yMl1
    rw [ih 71 k (pLW_n (by omega)), ih 77 k (pLW_n (by omega)), ih 78 k (pLW_n (by omega))]
    exact ((ih.s rfl).s rfl).s rfl
theorem ySea_o (H : zOf pLW S T) : zOf pLW (ySea q S) (ySea q T) := by
  unfold ySea yMlA yDuA
  have e : ∀ U : zT, yDus q U (U 37 2).toNat 37 1 = U 37 1 := fun U => yDus_n (by decide) _
  rw [e S, e T, H 37 2 (pLW_n (by omega)), H 37 1 (pLW_n (by omega))]
  exact yMls_o (yDus_o H _) _
theorem ySea_n (e : a ≠ 93 ∧ a ≠ 71 ∧ a ≠ 77 ∧ a ≠ 78) : ySea q S a i = S a i := (yMls_n e.2 _).trans (yDus_n e.1 _)
/-- the word looks at the word -/
theorem yWm_o (H : zOf pLS S T) : ∀ u : Nat, yWm S v u = yWm T v u
  | 0 => by rw [yWm_0, yWm_0, H 72 v (pLS_n (by omega))]
  | u + 1 => by rw [yWm_s, yWm_s, yWm_o H u, H 48 _ (pLS_n (by omega)), H 72 u (pLS_n (by omega))]
theorem yWds_o (H : zOf pLS S T) : ∀ k : Nat, zOf pLS (yWds S n k) (yWds T n k)
  | 0 => H
  | k + 1 => by
    rw [yWds_s, yWds_s]
    exact (yWds_o H k).s (yWm_o H n)
theorem yWrA_o (H : zOf pLS S T) : zOf pLS (yWrA S) (yWrA T) := by
  unfold yWrA
  rw [H 37 1 (pLS_n (by omega))]
  exact yWds_o H _
theorem yWrA_n (e : a ≠ 72) : yWrA S a i = S a i := yWds_n e _
/-- the word first or the season first -/
theorem ySea_w : ySea q (yWrA S) = yWrA (ySea q S) := by
  have H1 : zOf pLS S (ySea q S) := fun a i e => (ySea_n ⟨fun z => e (Or.inr (Or.inl z)), fun z => e (Or.inr (Or.inr (Or.inl z))), fun z => e (Or.inr (Or.inr (Or.inr (Or.inl z)))), fun z => e (Or.inr (Or.inr (Or.inr (Or.inr z))))⟩).symm
  have H2 : zOf pLW S (yWrA S) := fun a i e => (yWrA_n (fun z => e (Or.inr z))).symm
  funext a i
  by_cases c : a = 72
  · rw [ySea_n (by omega), c]
    exact yWrA_o H1 72 i (pLS_n (by omega))
  · rw [yWrA_n c]
    by_cases d : pL a i
    · rw [ySea_n (by unfold pL at d; omega), ySea_n (by unfold pL at d; omega), yWrA_n c]
    · exact (ySea_o H2 a i (fun z => z.elim d c)).symm
/-- what the weeks' numbers hold stays, and is not looked at -/
def zLg (S T : zT) : Prop := zOf pL S T
theorem zOf.of (H : zOf pL S T) (e : ∀ i, S 206 i = T 206 i) (e2 : S 37 71 = T 37 71) : S = T := funext fun a => funext fun i => by
  by_cases d : pL a i
  · rcases d with rfl | ⟨rfl, rfl⟩
    · exact e i
    · exact e2
  · exact H a i d
def zLdd (S : zT) (p : Nat) (x w : Int) : zT := zs (zs S 206 p x) 37 71 w
theorem zLdd_of : zOf pL (zLdd S n x w) S := fun a i e => by
  unfold zLdd
  rw [zs_if, if_neg (fun z => e (Or.inr z)), zs_if, if_neg (fun z => e (Or.inl z.1))]
theorem zLdd_206 : zLdd S n x w 206 i = if i = n then x else S 206 i := by
  unfold zLdd
  rw [zs_na (by decide), zs_if]
  by_cases c : i = n
  · rw [if_pos ⟨rfl, c⟩, if_pos c]
  · rw [if_neg (fun z => c z.2), if_neg c]
theorem zLdd_71 : zLdd S n x w 37 71 = w := by
  unfold zLdd
  rw [zs_eq]
theorem zLdd_go {f : zT → zT} (o : zOf pL (f (zLdd S n x w)) (f S)) (n1 : ∀ (U : zT) i, f U 206 i = U 206 i) (n2 : ∀ U : zT, f U 37 71 = U 37 71) : f (zLdd S n x w) = zLdd (f S) n x w := by
  refine zOf.of (fun a i e => ?_) (fun i => ?_) ?_
  · rw [o a i e]
    exact (zLdd_of a i e).symm
  · rw [n1, zLdd_206, zLdd_206, n1]
  · rw [n2, zLdd_71, zLdd_71]
theorem zLdd_by : yByA q (zLdd S n x w) = zLdd (yByA q S) n x w := by
  have e : (zLdd S n x w) 37 2 = S 37 2 := zLdd_of _ _ (pL_n (by omega))
  unfold yByA
  rw [e]
  exact zLdd_go (f := fun U => yBys q U (S 37 2).toNat) (yBys_o zLdd_of _) (fun U i => yBys_n (by omega) _) (fun U => yBys_n (by omega) _)
theorem zOf.lw (H : zOf pL S T) : zOf pLW S T := fun a i e => H a i (fun z => e (Or.inl z))
theorem zOf.ls (H : zOf pL S T) : zOf pLS S T := fun a i e => H a i (fun z => e (Or.inl z))
theorem zLdd_wr : yWrA (zLdd S n x w) = zLdd (yWrA S) n x w := by
  refine zLdd_go (f := yWrA) (fun a i e => ?_) (fun U i => yWrA_n (by decide)) (fun U => yWrA_n (by decide))
  by_cases c : a = 72
  · rw [c]
    exact yWrA_o zLdd_of.ls 72 i (pLS_n (by omega))
  · rw [yWrA_n c, yWrA_n c]
    exact zLdd_of a i e
theorem zLdd_sea : ySea q (zLdd S n x w) = zLdd (ySea q S) n x w := by
  refine zLdd_go (f := ySea q) (fun a i e => ?_) (fun U i => ySea_n (by decide)) (fun U => ySea_n (by decide))
  by_cases c : a = 72
  · rw [c, ySea_n (by decide), ySea_n (by decide)]
    exact zLdd_of _ _ (pL_n (by omega))
  · exact ySea_o zLdd_of.lw a i (fun z => z.elim e c)
/-- laying keeps the bounds -/
def zH65 (S : zT) : Prop := ∀ v : Nat, (v : Int) < S 37 1 → 0 ≤ S 65 v ∧ S 65 v ≤ 9
theorem yLy1_n {a i : Nat} (e : (a ≠ 66 ∧ a ≠ 95 ∧ (a < 170 ∨ 175 < a)) ∧ (a ≠ 37 ∨ i ≠ 64)) : yLy1 S k a i = S a i := by
  have z64 : ∀ (U : zT) y, zs U 37 64 y a i = U a i := fun U y => by rw [zs_if]; exact if_neg (by omega)
  unfold yLy1
  split
  · rw [z64, zs_na (by omega), zs_na (by omega), zs_na (by omega), zs_na (by omega), zs_na (by omega), zs_na (by omega), zs_na (by omega), zs_na (by omega)]
  · rw [zs_na (by omega)]
theorem yLyN_n {a i : Nat} (e : (a ≠ 66 ∧ a ≠ 95 ∧ (a < 170 ∨ 175 < a)) ∧ (a ≠ 37 ∨ i ≠ 64)) : ∀ k : Nat, yLyN S k a i = S a i
  | 0 => rfl
  | k + 1 => (yLy1_n e).trans (yLyN_n e k)
theorem yStr_b (h1 : 0 ≤ S 65 (S 79 k).toNat ∧ S 65 (S 79 k).toNat ≤ 9) (h2 : 0 ≤ S 81 k ∧ S 81 k ≤ 9) (h3 : 0 ≤ S 85 k ∧ S 85 k ≤ 60) : 0 ≤ yStr S k ∧ yStr S k ≤ 300 := by
  unfold yStr
  have w1 : w32 (20 * S 65 (S 79 k).toNat) = 20 * S 65 (S 79 k).toNat := by unfold w32; omega
  have w2 : w32 (3 * S 81 k) = 3 * S 81 k := by unfold w32; omega
  have w3 : w32 (2 * S 85 k) = 2 * S 85 k := by unfold w32; omega
  have w4 : w32 (20 * S 65 (S 79 k).toNat + 3 * S 81 k) = 20 * S 65 (S 79 k).toNat + 3 * S 81 k := by unfold w32; omega
  have w5 : w32 (20 * S 65 (S 79 k).toNat + 3 * S 81 k - 2 * S 85 k) = 20 * S 65 (S 79 k).toNat + 3 * S 81 k - 2 * S 85 k := by unfold w32; omega
  rw [w1, w2, w3, w4, w5]
  omega
theorem yOK.lot {x1 x2 x3 x4 x5 x6 : Int} (K : yOK S) (hn : (n : Int) = S 37 64) (h3 : S 37 64 < 300) (h1 : 0 ≤ x3 ∧ x3 ≤ 60) (h2 : 0 ≤ x4 ∧ x4 ≤ 300) (hk : 0 ≤ x1 ∧ x1 < S 37 2) : yOK (zs (zs (zs (zs (zs (zs (zs S 170 n x1) 171 n x2) 172 n x3) 173 n x4) 174 n x5) 175 n x6) 37 64 (S 37 64 + 1)) := by
  have t : ∀ a i, (a < 170 ∨ 175 < a) → (a ≠ 37 ∨ i ≠ 64) → zs (zs (zs (zs (zs (zs (zs S 170 n x1) 171 n x2) 172 n x3) 173 n x4) 174 n x5) 175 n x6) 37 64 (S 37 64 + 1) a i = S a i := fun a i e1 e2 => by
    rw [zs_if, if_neg (by omega), zs_na (by omega), zs_na (by omega), zs_na (by omega), zs_na (by omega), zs_na (by omega), zs_na (by omega)]
  obtain ⟨k1, k2, k3, k4⟩ := K
  refine ⟨?_, fun k hk2 => ?_, fun v hv => ?_, fun l hl => ?_⟩
  · rw [t 37 0 (by omega) (by omega), t 37 1 (by omega) (by omega), t 37 2 (by omega) (by omega), zs_eq]
    omega
  · rw [t 37 2 (by omega) (by omega)] at hk2
    rw [t 80 k (by omega) (by omega), t 81 k (by omega) (by omega), t 82 k (by omega) (by omega), t 83 k (by omega) (by omega), t 79 k (by omega) (by omega), t 37 1 (by omega) (by omega)]
    exact k2 k hk2
  · rw [t 37 1 (by omega) (by omega)] at hv
    rw [t 71 v (by omega) (by omega)]
    refine ⟨(k3 v hv).1, fun s hs => ?_⟩
    rw [t 39 _ (by omega) (by omega)]
    exact (k3 v hv).2 s hs
  · rw [zs_eq] at hl
    rw [t 37 2 (by omega) (by omega)]
    rw [zs_na (b := 172) (by decide), zs_na (b := 172) (by decide), zs_na (b := 172) (by decide), zs_na (b := 172) (by decide), zs_na (b := 173) (by decide), zs_na (b := 173) (by decide), zs_na (b := 173) (by decide), zs_na (b := 170) (by decide), zs_na (b := 170) (by decide), zs_na (b := 170) (by decide), zs_na (b := 170) (by decide), zs_na (b := 170) (by decide), zs_na (b := 170) (by decide)]
    by_cases c : l = n
    · rw [c, zs_eq, zs_eq, zs_eq]
      exact ⟨h1, h2, hk⟩
    · rw [zs_ni c, zs_ni c, zs_ni c, zs_ni c, zs_ni c, zs_ni c, zs_ni c, zs_ni c]
      exact k4 l (by omega)
theorem yOK.ly1 (K : yOK S) (B : zBs S) (H : zH65 S) (hk : (k : Int) < S 37 2) : yOK (yLy1 S k) := by
  unfold yLy1
  have kb := B.1 k hk
  have xb := yX_b B (yEp_4 (S := S)) hk
  split
  · rename_i c
    have K1 : yOK (zs (zs S 66 (S 79 k).toNat (S 66 (S 79 k).toNat - (yX S (yEp S) k + S 85 k - 1) / S 85 k)) 95 k (w32 (S 95 k + yCan S k))) := (K.zss (yKt_n (by omega))).zss (yKt_n (by omega))
    have u : ∀ j, zs (zs S 66 (S 79 k).toNat (S 66 (S 79 k).toNat - (yX S (yEp S) k + S 85 k - 1) / S 85 k)) 95 k (w32 (S 95 k + yCan S k)) 37 j = S 37 j := fun j => by rw [zs_na (by decide), zs_na (by decide)]
    have r := K1.lot (n := (S 37 64).toNat) (x1 := (k : Int)) (x2 := S 37 0) (x3 := S 85 k) (x4 := yStr S k) (x5 := yX S (yEp S) k) (x6 := yX S (yEp S) k) (by rw [u]; have := K.s; omega) (by rw [u]; omega) (by omega) (yStr_b (H _ (by omega)) (by omega) (by omega)) (by rw [u]; omega)
    rw [u] at r
    exact r
  · exact K.zss (yKt_n (by omega))
theorem yOK.lyn (K : yOK S) (B : zBs S) (H : zH65 S) : ∀ k : Nat, (k : Int) ≤ S 37 2 → yOK (yLyN S k)
  | 0, _ => K
  | k + 1, h => by
    have e := yLyN_e B (k := k) (by omega)
    have H2 : zH65 (yLyN S k) := fun v hv => by
      rw [yLyN_n (by omega)]
      exact H v (by rw [← e.2.2.1]; exact hv)
    exact (K.lyn B H k (by omega)).ly1 (B.lyn (by omega)) H2 (by rw [e.2.1]; omega)
theorem yOK.lya (K : yOK S) (B : zBs S) (H : zH65 S) : yOK (yLyA S) := K.lyn B H _ (by have := K.s; omega)
theorem yOK.wra (K : yOK S) : yOK (yWrA S) := K.wds _
theorem yOK.dua (K : yOK S) : yOK (yDuA q S) := K.dus _
theorem yOK.mla (K : yOK S) : yOK (yMlA S) := K.mls _ (by have := K.s; omega)
theorem yOK.bya (K : yOK S) : yOK (yByA q S) := K.bys _
/-- the week, as the class goes through it -/
def yWk3 (q : qT) (S : zT) : zT := yWrA (yByA q (yLyA S))
def yWk5 (q : qT) (S : zT) : zT := if yWk3 q S 37 0 % 13 = 12 then ySea q (yWk3 q S) else yWk3 q S
def yWkC (q : qT) (S : zT) : zT := yBgA (zs (yClo (yWk5 q S) (yWk5 q S 37 0).toNat (ySmCA (yWk5 q S)) (yToA S) (ySmLA (yWk5 q S))) 37 0 (yWk5 q S 37 0 + 1))
/-- and the model -/
def yMk5 (q : qT) (S : zT) : zT := yWrA (if yByA q (yLyM S) 37 0 % 13 = 12 then ySea q (yByA q (yLyM S)) else yByA q (yLyM S))
def yMk6 (X : zT) : zT := zs (zs (zs (zs (zs X 206 (6 * (X 37 0).toNat) (ySmCA X)) 206 (6 * (X 37 0).toNat + 2) (ySmLA X)) 206 (6 * (X 37 0).toNat + 3) (X 37 69)) 206 (6 * (X 37 0).toNat + 4) (X 37 70)) 206 (6 * (X 37 0).toNat + 5) (X 37 71)
def yWkM (q : qT) (S : zT) : zT := yBgA (zs (yMk6 (yMk5 q S)) 37 0 (yMk5 q S 37 0 + 1))
theorem ySmC_o (H : zOf pL S T) : ∀ v : Nat, ySmC S v = ySmC T v
  | 0 => rfl
  | v + 1 => by rw [ySmC_s, ySmC_s, ySmC_o H v, H 66 v (pL_n (by omega))]
theorem ySmL_o (H : zOf pL S T) : ∀ v : Nat, ySmL S v = ySmL T v
  | 0 => rfl
  | v + 1 => by rw [ySmL_s, ySmL_s, ySmL_o H v, H 175 v (pL_n (by omega))]
theorem zs_si {i j : Nat} (h : i ≠ j) : zs (zs S a i x) a j y = zs (zs S a j y) a i x := by
  funext b l
  rw [zs_if, zs_if, zs_if, zs_if]
  by_cases c : b = a ∧ l = j
  · rw [if_pos c, if_neg (fun z => h (z.2.symm.trans c.2)), if_pos c]
  · rw [if_neg c, if_neg c]
theorem yMk5_e : yMk5 q S = zLdd (yWk5 q S) (yP1 S) (yToA S) (yW1 S) := by
  have e : yLyM S = zLdd (yLyA S) (yP1 S) (yToA S) (yW1 S) := rfl
  have c : yWk3 q S 37 0 = yByA q (yLyA S) 37 0 := yWrA_n (by decide)
  unfold yMk5 yWk5
  rw [e, zLdd_by, c, zLdd_of 37 0 (pL_n (by omega))]
  split
  · rw [zLdd_sea, zLdd_wr]
    unfold yWk3
    rw [ySea_w]
  · rw [zLdd_wr]
    rfl
theorem yWk5_n {a i : Nat} (e : a = 206 ∨ (a = 37 ∧ (i = 0 ∨ i = 71))) : yWk5 q S a i = S a i := by
  have e3 : yWk3 q S a i = S a i := (yWrA_n (by omega)).trans ((yBys_n (by omega) _).trans (yLyN_n (by omega) _))
  unfold yWk5
  split
  · rw [ySea_n (by omega), e3]
  · exact e3
theorem yClo_0 {b c d : Int} : yClo S n b c d 37 0 = S 37 0 := by
  unfold yClo
  rw [zs_ni (by decide), zs_na (by decide), zs_na (by decide), zs_na (by decide), zs_na (by decide), zs_na (by decide), zs_na (by decide)]
theorem yWk_e : yWkM q S = yWkC q S := by
  have k0 : ∀ T : zT, zLdd T (yP1 S) (yToA S) (yW1 S) 37 0 = T 37 0 := fun T => zLdd_of 37 0 (pL_n (by omega))
  have k1 : ∀ T : zT, zLdd T (yP1 S) (yToA S) (yW1 S) 37 1 = T 37 1 := fun T => zLdd_of 37 1 (pL_n (by omega))
  have k2 : ∀ T : zT, zLdd T (yP1 S) (yToA S) (yW1 S) 37 64 = T 37 64 := fun T => zLdd_of 37 64 (pL_n (by omega))
  have k3 : ∀ T : zT, zLdd T (yP1 S) (yToA S) (yW1 S) 37 69 = T 37 69 := fun T => zLdd_of 37 69 (pL_n (by omega))
  have k4 : ∀ T : zT, zLdd T (yP1 S) (yToA S) (yW1 S) 37 70 = T 37 70 := fun T => zLdd_of 37 70 (pL_n (by omega))
  have p : yP1 S = 6 * (yWk5 q S 37 0).toNat + 1 := by unfold yP1; rw [yWk5_n (by omega)]
  have w : yW1 S = w32 (yWk5 q S 37 71 + yToA S) := by unfold yW1; rw [yWk5_n (by omega)]
  unfold yWkM yWkC yMk6
  rw [yMk5_e]
  unfold ySmCA ySmLA
  rw [k0, k1, k2, k3, k4, ySmC_o (zLdd_of (S := yWk5 q S)), ySmL_o (zLdd_of (S := yWk5 q S)), zLdd_71]
  congr 2
  unfold yClo zLdd
  rw [zs_sw (a := 37) (b := 206) (by decide), zs_sw (a := 37) (b := 206) (by decide), zs_sw (a := 37) (b := 206) (by decide), zs_sw (a := 37) (b := 206) (by decide), zs_sw (a := 37) (b := 206) (by decide), p, w, zs_si (a := 206) (i := 6 * (yWk5 q S 37 0).toNat + 1) (j := 6 * (yWk5 q S 37 0).toNat) (by omega)]
theorem zs_self (e : S a i = x) : zs S a i x = S := by
  funext b j
  rw [zs_if]
  by_cases c : b = a ∧ j = i
  · rw [if_pos c, c.1, c.2, e]
  · rw [if_neg c]
theorem zs_acc {d : Int} (e : j = i) (hz : z = w32 (x + d)) : zs (zs S a i x) a j (w32 (zs S a i x a j + d)) = zs S a i z := by
  subst e
  rw [zs_eq, hz]
  funext b l
  rw [zs_if, zs_if, zs_if]
  by_cases c : b = a ∧ l = j
  · rw [if_pos c, if_pos c]
  · rw [if_neg c, if_neg c, if_neg c]
theorem yOK.lym (K : yOK S) (B : zBs S) (H : zH65 S) : yOK (yLyM S) := ((K.lya B H).zss (yKt_n (by omega))).zss (fun z => by unfold yKt at z; omega)
theorem yLyM_2 (B : zBs S) : yLyM S 37 2 = S 37 2 := (zs_ni (by decide)).trans ((zs_na (by decide)).trans (yLyN_n (by omega) _))
theorem yOK.sea (K : yOK S) : yOK (ySea q S) := by
  unfold ySea
  exact (K.dua (q := q)).mla
theorem yOK.mk5 (K : yOK (yLyM S)) : yOK (yMk5 q S) := by
  unfold yMk5
  refine yOK.wra ?_
  split
  · exact (K.bya (q := q)).sea
  · exact K.bya
/-- the weeks to come have no numbers yet -/
def yZr (S : zT) : Prop := ∀ j : Nat, 6 * (S 37 0).toNat ≤ j → S 206 j = 0
theorem yMk5_0 : yMk5 q S 37 0 = S 37 0 := by
  rw [yMk5_e, zLdd_of 37 0 (pL_n (by omega)), yWk5_n (by omega)]
theorem yMk5_z (Z : yZr S) (e : j = 6 * (S 37 0).toNat ∨ j = 6 * (S 37 0).toNat + 2) : yMk5 q S 206 j = 0 := by
  rw [yMk5_e, zLdd_206, if_neg (by unfold yP1; omega), yWk5_n (by omega)]
  exact Z j (by omega)
theorem yMk6_n (e : a ≠ 206) : yMk6 X a i = X a i := by
  unfold yMk6
  rw [zs_na e, zs_na e, zs_na e, zs_na e, zs_na e]
end YWK
