/-! joined: 93.m_ly 93.n_ym 93.o_wk 93.oa_now 93.p_xw 93.q_ym 93.r_wk 93.s_xg 93.t_yg 93.u_fr -/
section
/-! spinning as the model writes it -/
section YLB
variable {S T L : zT} {h : Hp} {k v i j n p : Nat} {x y w z : Int} {C : Nat → Int}
theorem zAg_yM (I : zI h) : zAg (zSt h) (yM h) := by
  have n1 := I.b (a1 := 37) (a2 := 37) (j1 := 1) (j2 := 2) (lo := 0) (hi := 8) (by decide +kernel) (r := 37) (j := 1) (by decide) (by decide) (by decide) (by decide)
  have n2 := I.b (a1 := 37) (a2 := 37) (j1 := 2) (j2 := 3) (lo := 0) (hi := 20) (by decide +kernel) (r := 37) (j := 2) (by decide) (by decide) (by decide) (by decide)
  refine ⟨⟨rfl, rfl, rfl, rfl⟩, fun k hk => ?_, fun v hv => ?_⟩
  · have hk : (k : Int) < fld h 37 2 := hk
    exact ⟨(yM_p (a := 79) (n := 20) rfl (by omega)).symm, (yM_p (a := 80) (n := 20) rfl (by omega)).symm, (yM_p (a := 81) (n := 20) rfl (by omega)).symm, (yM_p (a := 85) (n := 20) rfl (by omega)).symm⟩
  · have hv : (v : Int) < fld h 37 1 := hv
    refine ⟨(yM_p (a := 66) (n := 8) rfl (by omega)).symm, fun s hs => ?_⟩
    rw [zSt_39 hs, yM_2 (a := 39) (w := 4) (v := v) (j := s) rfl hs (by show _ < 32; omega)]
    rfl
theorem yLy_e (A : zAg (zSt h) S) : yEp (zSt h) = yEp S := by
  unfold yEp
  rw [A.1.1]
theorem yLy_x (A : zAg (zSt h) S) (B : zBs S) (hk : (k : Int) < S 37 2) : yX (ySN (zSt h) (yEp (zSt h)) k) (yEp (zSt h)) k = yX (yLyN S k) (yEp (yLyN S k)) k := by
  have B2 := zBs.cg A.sy B
  have e := yLyN_e B (k := k) (by omega)
  have q := yLyN_ag B k (by omega)
  have a1 := A.sn B2 (yEp_4 (S := S)) k (by have := A.1.2.2.1; omega)
  rw [yLy_e A, e.1]
  have u2 : ySN (zSt h) (yEp S) k 37 2 = zSt h 37 2 := ySN_ne (by decide) (Or.inr (by decide)) k
  have a0 := A.1.2.2.1
  exact (a1.tr q.sy).xk (B2.sn (yEp_4 (S := S)) k (by omega)) (yEp_4 (S := S)) (by omega)
theorem yLy_c (A : zAg (zSt h) S) (B : zBs S) (hn : (n : Int) ≤ S 37 2) (hv : (v : Int) < S 37 1) : ySN (zSt h) (yEp (zSt h)) n 66 v = yLyN S n 66 v := by
  have B2 := zBs.cg A.sy B
  have q := yLyN_ag B n hn
  have a1 := A.sn B2 (yEp_4 (S := S)) n (by have := A.1.2.2.1; omega)
  rw [yLy_e A]
  have u1 : ySN (zSt h) (yEp S) n 37 1 = zSt h 37 1 := ySN_ne (by decide) (Or.inr (by decide)) n
  have a0 := A.1.2.1
  exact ((a1.tr q.sy).2.2 v (by omega)).1
theorem yLy_t (A : zAg (zSt h) S) (B : zBs S) (hn : (n : Int) ≤ S 37 2) : yTo (zSt h) (yEp (zSt h)) n = yTo S (yEp S) n := by
  rw [yLy_e A]
  exact A.to (zBs.cg A.sy B) (yEp_4 (S := S)) n (by have := A.1.2.2.1; omega)
def yStq (S : zT) (k : Nat) (b : Int) : Int := max (w32 (w32 (w32 (20 * S 65 (S 79 k).toNat) + w32 (3 * b)) - w32 (2 * S 85 k))) 0
/-- cotton as it will be -/
def yR66 (S : zT) (T : zT) : zT := fun a i => if a = 66 ∧ (i : Int) < S 37 1 then yLyN S (S 37 2).toNat 66 i else T a i
theorem yR_zs {a : Nat} (e : a ≠ 66) : yR66 S (zs T a i x) = zs (yR66 S T) a i x := by
  funext b j
  unfold yR66
  rw [zs_if, zs_if]
  by_cases c : b = a ∧ j = i
  · rw [if_pos c, if_neg (fun z => e (c.1.symm.trans z.1)), if_pos c]
  · rw [if_neg c, if_neg c]
theorem yR_66 (h : (i : Int) < S 37 1) : yR66 S (zs T 66 i x) = yR66 S T := by
  funext b j
  unfold yR66
  by_cases c : b = 66 ∧ (j : Int) < S 37 1
  · rw [if_pos c, if_pos c]
  · rw [if_neg c, if_neg c, zs_if, if_neg (fun z => c ⟨z.1, by rw [z.2]; exact h⟩)]
theorem yR_n {a : Nat} (e : a ≠ 66) : yR66 S T a i = T a i := if_neg (fun z => e z.1)
/-- the model's tables while it lays -/
def yLyB (S : zT) (p : Nat) (x w : Int) (k : Nat) : zT := zs (zs (yR66 S (yLyN S k)) 206 p x) 37 71 w
theorem yLyB_n {a : Nat} (e : a ≠ 66 ∧ a ≠ 206 ∧ a ≠ 37) : yLyB S p x w k a i = yLyN S k a i := (zs_na e.2.2).trans ((zs_na e.2.1).trans (yR_n e.1))
theorem yLyB_0 : yLyB S p x w k 37 0 = yLyN S k 37 0 := (zs_ni (by decide)).trans ((zs_na (by decide)).trans (yR_n (by decide)))
theorem yLyB_64 : yLyB S p x w k 37 64 = yLyN S k 37 64 := (zs_ni (by decide)).trans ((zs_na (by decide)).trans (yR_n (by decide)))
theorem zs_p206 {a : Nat} (e : a ≠ 206) : zs (zs S a i x) 206 j y = zs (zs S 206 j y) a i x := zs_sw e
theorem zs_p71a {a : Nat} (e : a ≠ 37 ∧ a ≠ 206) : zs (zs S a i x) 37 71 y = zs (zs S 37 71 y) a i x := zs_sw e.1
theorem zs_p71b : zs (zs S 37 64 x) 37 71 y = zs (zs S 37 71 y) 37 64 x := by
  funext b j
  rw [zs_if, zs_if, zs_if, zs_if]
  by_cases c : b = 37 ∧ j = 71
  · rw [if_pos c, if_neg (by omega), if_pos c]
  · rw [if_neg c, if_neg c]
/-- cotton told, village by village -/
def yCt (S : zT) (C : Nat → Int) : Nat → zT
  | 0 => S
  | v + 1 => zs (yCt S C v) 66 v (C v)
theorem yCt_s : yCt S C (v + 1) = zs (yCt S C v) 66 v (C v) := rfl
theorem yCt_e : ∀ v : Nat, yCt S C v = fun a i => if a = 66 ∧ i < v then C i else S a i
  | 0 => by
    funext a i
    exact (if_neg (by omega)).symm
  | v + 1 => by
    funext a i
    rw [yCt_s, zs_if, yCt_e v]
    by_cases c : a = 66 ∧ i = v
    · rw [if_pos c, if_pos ⟨c.1, by omega⟩, c.2]
    · rw [if_neg c]
      show (if a = 66 ∧ i < v then C i else S a i) = _
      by_cases d : a = 66 ∧ i < v
      · rw [if_pos d, if_pos ⟨d.1, by omega⟩]
      · rw [if_neg d, if_neg (by omega)]
theorem yLyB_i (h0 : 0 ≤ S 37 1) (hC : ∀ i : Nat, (i : Int) < S 37 1 → C i = yLyN S (S 37 2).toNat 66 i) : yCt (zs (zs S 206 p x) 37 71 w) C (S 37 1).toNat = yLyB S p x w 0 := by
  rw [yCt_e]
  funext a i
  show (if a = 66 ∧ i < (S 37 1).toNat then C i else zs (zs S 206 p x) 37 71 w a i) = zs (zs (yR66 S S) 206 p x) 37 71 w a i
  by_cases c : a = 66 ∧ i < (S 37 1).toNat
  · obtain ⟨rfl, c2⟩ := c
    rw [if_pos ⟨rfl, c2⟩, zs_na (by decide), zs_na (by decide), hC i (by omega)]
    exact (if_pos ⟨rfl, by omega⟩).symm
  · rw [if_neg c, zs_if (S := zs S 206 p x), zs_if (S := zs (yR66 S S) 206 p x)]
    by_cases d : a = 37 ∧ i = 71
    · rw [if_pos d, if_pos d]
    · rw [if_neg d, if_neg d, zs_if (S := S), zs_if (S := yR66 S S)]
      by_cases e : a = 206 ∧ i = p
      · rw [if_pos e, if_pos e]
      · rw [if_neg e, if_neg e]
        exact (if_neg (fun z => c ⟨z.1, by omega⟩)).symm
theorem yLyB_z (hz : ¬(0 < yX (yLyN S k) (yEp (yLyN S k)) k)) : yLyB S p x w (k + 1) = zs (yLyB S p x w k) 95 k (w32 (yLyN S k 95 k + yCan (yLyN S k) k)) := by
  unfold yLyB
  rw [yLyN_s]
  unfold yLy1
  rw [if_neg hz, yR_zs (by decide), zs_p206 (by decide), zs_p71a (by decide)]
theorem yLyB_p (hp : 0 < yX (yLyN S k) (yEp (yLyN S k)) k) (hv : (((yLyN S k 79 k).toNat : Nat) : Int) < S 37 1) : yLyB S p x w (k + 1) = zs (zs (zs (zs (zs (zs (zs (zs (yLyB S p x w k) 95 k (w32 (yLyN S k 95 k + yCan (yLyN S k) k))) 170 (yLyN S k 37 64).toNat k) 171 (yLyN S k 37 64).toNat (yLyN S k 37 0)) 172 (yLyN S k 37 64).toNat (yLyN S k 85 k)) 173 (yLyN S k 37 64).toNat (yStq (yLyN S k) k (yLyN S k 81 k))) 174 (yLyN S k 37 64).toNat (yX (yLyN S k) (yEp (yLyN S k)) k)) 175 (yLyN S k 37 64).toNat (yX (yLyN S k) (yEp (yLyN S k)) k)) 37 64 (yLyN S k 37 64 + 1) := by
  unfold yLyB
  rw [yLyN_s]
  unfold yLy1
  rw [if_pos hp, yR_zs (by decide), yR_zs (by decide), yR_zs (by decide), yR_zs (by decide), yR_zs (by decide), yR_zs (by decide), yR_zs (by decide), yR_zs (by decide), yR_66 hv]
  rw [zs_p206 (by decide), zs_p206 (by decide), zs_p206 (by decide), zs_p206 (by decide), zs_p206 (by decide), zs_p206 (by decide), zs_p206 (by decide), zs_p206 (by decide)]
  rw [zs_p71b, zs_p71a (by decide), zs_p71a (by decide), zs_p71a (by decide), zs_p71a (by decide), zs_p71a (by decide), zs_p71a (by decide), zs_p71a (by decide)]
  rfl
/-- a laying, for the model -/
def yP1 (S : zT) : Nat := 6 * (S 37 0).toNat + 1
def yW1 (S : zT) : Int := w32 (S 37 71 + yToA S)
def yLyM (S : zT) : zT := zs (zs (yLyA S) 206 (yP1 S) (yToA S)) 37 71 (yW1 S)
theorem yR_end (h2 : n = (S 37 2).toNat) : yR66 S (yLyN S n) = yLyN S n := by
  subst h2
  funext a i
  unfold yR66
  split
  · rename_i c
    rw [c.1]
  · rfl
end YLB
end
section
/-! contracts of methods -/
-- WheelLandModel.strengthOf(II)I
theorem m175_z {sc : List Int} (h : Hp) (I : zI h) (a b : Int) (p1 : 0 ≤ a) (p2 : a ≤ 19) : zwC sc 2 175 [(2, 37), (0, a), (0, b)] h (zwRt 0 (fun x g => h = g ∧ (-2147483648 ≤ x ∧ x ≤ 2147483647) ∧ (0 ≤ x) ∧ (x = yStq (yM h) a.toNat b))) := by
  refine zwC_of (D := 1) 3 (by decide +kernel) rfl (ls := [(2, 37), (0, a), (0, b)]) rfl ?_
  have u0 : yM h 37 0 = fld h 37 0 := rfl
  have u1 : yM h 37 1 = fld h 37 1 := rfl
  have u2 : yM h 37 2 = fld h 37 2 := rfl
  have u64 : yM h 37 64 = fld h 37 64 := rfl
  have u78 : yM h 37 78 = fld h 37 78 := rfl
  refine zwW_p [(0, 20, 0), (1, 0, 2)] (q := 3) (ls' := [(2, 37), (0, a), (0, b)]) (st' := [(2, 37), (0, 20)]) (by decide +kernel) rfl ?_
  refine zwW_gc I (kd := 13) (bn := 6) (n := 97) (c := 65) (nx := 6) (by decide +kernel) ?_
  refine zwW_p [(1, 0, 2)] (q := 7) (ls' := [(2, 37), (0, a), (0, b)]) (st' := [(2, 37), (2, 65), (0, 20)]) (by decide +kernel) rfl ?_
  refine zwW_gc I (kd := 13) (bn := 20) (n := 97) (c := 79) (nx := 10) (by decide +kernel) ?_
  refine zwW_p [(1, 1, 0)] (q := 11) (ls' := [(2, 37), (0, a), (0, b)]) (st' := [(0, a), (2, 79), (2, 65), (0, 20)]) (by decide +kernel) rfl ?_
  have ib1 : 0 ≤ a ∧ a < ((20 : Nat) : Int) := (by first | omega | exact ⟨by omega, by omega⟩)
  refine zwW_al I (a1 := 79) (a2 := 79) (kd := 20) (n := 20) (t := 0) (lo := 0) (hi := 7) (nx := 12) (by decide +kernel) (by first | decide | exact ⟨by decide, by decide⟩) ib1 ?_
  intro v1 ev1 lv1 uv1
  have sv1 : v1 = (yM h) 79 a.toNat := Eq.trans ev1 (Eq.trans (Eq.symm (yM_p (h := h) (a := 79) (n := 20) (i := a.toNat) rfl (zit ib1))) (Eq.trans (congrFun (congrFun (rfl : yM h = yM h) 79) a.toNat) rfl))
  have ib2 : 0 ≤ v1 ∧ v1 < ((8 : Nat) : Int) := (by first | omega | exact ⟨by omega, by omega⟩)
  refine zwW_al I (a1 := 65) (a2 := 65) (kd := 20) (n := 8) (t := 0) (lo := 0) (hi := 9) (nx := 13) (by decide +kernel) (by first | decide | exact ⟨by decide, by decide⟩) ib2 ?_
  intro v2 ev2 lv2 uv2
  have sv2 : v2 = (yM h) 65 (((yM h) 79 a.toNat).toNat) := Eq.trans ev2 (Eq.trans (Eq.symm (yM_p (h := h) (a := 65) (n := 8) (i := v1.toNat) rfl (zit ib2))) (Eq.trans (congrArg (yM h 65) (show v1.toNat = ((yM h) 79 a.toNat).toNat by rw [sv1])) (Eq.trans (congrFun (congrFun (rfl : yM h = yM h) 65) (((yM h) 79 a.toNat).toNat)) rfl)))
  refine zwW_mul (nx := 14) (by decide +kernel) (by first | omega | exact ⟨by omega, by omega⟩) ?_
  refine zwW_p [(0, 3, 0), (1, 2, 0)] (q := 16) (ls' := [(2, 37), (0, a), (0, b)]) (st' := [(0, b), (0, 3), (0, (20 * v2))]) (by decide +kernel) rfl ?_
  refine zwW_mlw (nx := 17) (by decide +kernel) ?_
  intro v3 ev3 lv3 uv3
  refine zwW_adw (nx := 18) (by decide +kernel) ?_
  intro v4 ev4 lv4 uv4
  have Ev4 : v4 = w32 ((20 * ((yM h) 65 (((yM h) 79 a.toNat).toNat))) + (w32 (3 * b))) := by rw [ev4, sv2, ev3]
  refine zwW_p [(0, 2, 0), (1, 0, 2)] (q := 20) (ls' := [(2, 37), (0, a), (0, b)]) (st' := [(2, 37), (0, 2), (0, v4)]) (by decide +kernel) rfl ?_
  refine zwW_gc I (kd := 13) (bn := 26) (n := 97) (c := 85) (nx := 23) (by decide +kernel) ?_
  refine zwW_p [(1, 1, 0)] (q := 24) (ls' := [(2, 37), (0, a), (0, b)]) (st' := [(0, a), (2, 85), (0, 2), (0, v4)]) (by decide +kernel) rfl ?_
  refine zwW_al I (a1 := 85) (a2 := 85) (kd := 20) (n := 20) (t := 0) (lo := 0) (hi := 60) (nx := 25) (by decide +kernel) (by first | decide | exact ⟨by decide, by decide⟩) ib1 ?_
  intro v5 ev5 lv5 uv5
  have sv5 : v5 = (yM h) 85 a.toNat := Eq.trans ev5 (Eq.trans (Eq.symm (yM_p (h := h) (a := 85) (n := 20) (i := a.toNat) rfl (zit ib1))) (Eq.trans (congrFun (congrFun (rfl : yM h = yM h) 85) a.toNat) rfl))
  refine zwW_mul (nx := 26) (by decide +kernel) (by first | omega | exact ⟨by omega, by omega⟩) ?_
  refine zwW_sbw (nx := 27) (by decide +kernel) ?_
  intro v6 ev6 lv6 uv6
  have Ev6 : v6 = w32 ((w32 ((20 * ((yM h) 65 (((yM h) 79 a.toNat).toNat))) + (w32 (3 * b)))) - (2 * ((yM h) 85 a.toNat))) := by rw [ev6, Ev4, sv5]
  refine zwW_cs (k' := 129) (n := 1) (nx := 30) (as := [(0, v6)]) (st' := []) (by decide +kernel) rfl (m129 h v6 (by omega)) rfl ?_
  rintro v7 _ ⟨rfl, f8, f9, f10⟩
  refine zwW_ret (nx := 31) (a := 0) (b := 0) (by decide +kernel) rfl (Or.inl rfl) ?_
  exact ⟨rfl, by omega, by omega, by have w1 : w32 (20 * yM h 65 (yM h 79 a.toNat).toNat) = 20 * yM h 65 (yM h 79 a.toNat).toNat := (by unfold w32; omega); have w2 : w32 (2 * yM h 85 a.toNat) = 2 * yM h 85 a.toNat := (by unfold w32; omega); unfold yStq; rw [w1, w2]; omega⟩
-- WheelLandModel.lays()V
theorem m194_z {sc : List Int} (h : Hp) (I : zI h) (p1 : fld h 37 0 ≤ 155) (hA : zAM h) (B0z : zBs (yM h)) : zwC sc 3 194 [(2, 37)] h (zwRv (fun g => zI g ∧ zMR ms194 h g ∧ (yM g = yLyM (yM h)))) := by
  refine zwC_of (D := 2) 3 (by decide +kernel) rfl (ls := [(2, 37), (9, 0), (9, 0)]) rfl ?_
  have R : zMR ms194 h h := zMR.rf _ _
  have u0 : yM h 37 0 = fld h 37 0 := rfl
  have u1 : yM h 37 1 = fld h 37 1 := rfl
  have u2 : yM h 37 2 = fld h 37 2 := rfl
  have u64 : yM h 37 64 = fld h 37 64 := rfl
  have u71 : yM h 37 71 = fld h 37 71 := rfl
  have B0 := I.b (a1 := 37) (a2 := 37) (j1 := 2) (j2 := 3) (lo := 0) (hi := 20) (by decide +kernel) (r := 37) (j := 2) (by decide) (by decide) (by decide) (by decide)
  have N1 := I.b (a1 := 37) (a2 := 37) (j1 := 1) (j2 := 2) (lo := 0) (hi := 8) (by decide +kernel) (r := 37) (j := 1) (by decide) (by decide) (by decide) (by decide)
  have BO := zBs.cg (zAg_yM I).sy B0z
  have n9 : (((fld h 37 2).toNat : Nat) : Int) ≤ yM h 37 2 := by show _ ≤ fld h 37 2; omega
  refine zwW_p [(1, 0, 2)] (q := 1) (ls' := [(2, 37), (9, 0), (9, 0)]) (st' := [(2, 37)]) (by decide +kernel) rfl ?_
  refine zwW_cmv I (op := 60) (k' := 220) (n := 0) (kd := 13) (m := 97) (nx := 4) (r := 37) (tl := []) (st' := []) (by decide +kernel) rfl (by decide +kernel) rfl (m220_s h I) ?_
  rintro h2 ⟨Ih2, Qh2, f1⟩
  have Rh2 : zMR ms194 h h2 := R.tr Qh2 (by decide +kernel)
  have th2_37_0 : fld h2 37 0 = fld h 37 0 := Qh2.f (a1 := 37) (a2 := 37) (j1 := 0) (j2 := 1) (by decide +kernel) (by first | decide | exact ⟨by decide, by decide⟩) (by first | decide | exact ⟨by decide, by decide⟩)
  have th2_37_1 : fld h2 37 1 = fld h 37 1 := Qh2.f (a1 := 37) (a2 := 37) (j1 := 1) (j2 := 2) (by decide +kernel) (by first | decide | exact ⟨by decide, by decide⟩) (by first | decide | exact ⟨by decide, by decide⟩)
  have th2_37_2 : fld h2 37 2 = fld h 37 2 := Qh2.f (a1 := 37) (a2 := 37) (j1 := 2) (j2 := 3) (by decide +kernel) (by first | decide | exact ⟨by decide, by decide⟩) (by first | decide | exact ⟨by decide, by decide⟩)
  have th2_37_64 : fld h2 37 64 = fld h 37 64 := Qh2.f (a1 := 37) (a2 := 37) (j1 := 64) (j2 := 65) (by decide +kernel) (by first | decide | exact ⟨by decide, by decide⟩) (by first | decide | exact ⟨by decide, by decide⟩)
  have Zh2 : yM h2 = (yM h) := (yM_fr Qh2 (by decide +kernel) (I.b (a1 := 37) (a2 := 37) (j1 := 86) (j2 := 87) (lo := 0) (hi := 6) (by decide +kernel) (r := 37) (j := 86) (by decide) (by decide) (by decide) (by decide)).2).trans (rfl : yM h = yM h)
  have H4 := Rh2.f (a1 := 37) (a2 := 37) (j1 := 2) (j2 := 3) (by decide +kernel) (r := 37) (j := 2) (by first | decide | exact ⟨by decide, by decide⟩) (by first | decide | exact ⟨by decide, by decide⟩)
  have Z4 := zAg.as Qh2 (by decide +kernel) N1.2 B0.2 f1
  have B4 := zBs.cg Z4 BO
  have e4 : yEp (zOv h2) = yEp (zSt h) := by unfold yEp; rw [Z4.1.1]
  have A4 := fun n hn => Z4.sn BO (yEp_4 (S := zSt h)) n hn
  refine zwW_p [(1, 0, 2)] (q := 5) (ls' := [(2, 37), (9, 0), (9, 0)]) (st' := [(2, 37)]) (by decide +kernel) rfl ?_
  refine zwW_cm Ih2 (op := 60) (k' := 221) (n := 0) (kd := 13) (m := 97) (nx := 8) (r := 37) (tl := []) (st' := []) (by decide +kernel) rfl (by decide +kernel) rfl (m221_s h2 Ih2 (hA.mr Rh2 (by decide +kernel) (by omega)) B4) ?_
  rintro v3 h7 ⟨Ih7, Qh7, f4, f5, f6⟩
  have Rh7 : zMR ms194 h h7 := Rh2.tr Qh7 (by decide +kernel)
  have th7_37_0 : fld h7 37 0 = fld h2 37 0 := Qh7.f (a1 := 37) (a2 := 37) (j1 := 0) (j2 := 1) (by decide +kernel) (by first | decide | exact ⟨by decide, by decide⟩) (by first | decide | exact ⟨by decide, by decide⟩)
  have th7_37_1 : fld h7 37 1 = fld h2 37 1 := Qh7.f (a1 := 37) (a2 := 37) (j1 := 1) (j2 := 2) (by decide +kernel) (by first | decide | exact ⟨by decide, by decide⟩) (by first | decide | exact ⟨by decide, by decide⟩)
  have th7_37_2 : fld h7 37 2 = fld h2 37 2 := Qh7.f (a1 := 37) (a2 := 37) (j1 := 2) (j2 := 3) (by decide +kernel) (by first | decide | exact ⟨by decide, by decide⟩) (by first | decide | exact ⟨by decide, by decide⟩)
  have th7_37_64 : fld h7 37 64 = fld h2 37 64 := Qh7.f (a1 := 37) (a2 := 37) (j1 := 64) (j2 := 65) (by decide +kernel) (by first | decide | exact ⟨by decide, by decide⟩) (by first | decide | exact ⟨by decide, by decide⟩)
  have Zh7 : yM h7 = (yM h) := (yM_fr Qh7 (by decide +kernel) (Ih2.b (a1 := 37) (a2 := 37) (j1 := 86) (j2 := 87) (lo := 0) (hi := 6) (by decide +kernel) (r := 37) (j := 86) (by decide) (by decide) (by decide) (by decide)).2).trans Zh2
  have Z8 : zNZ (fld h7 176) (fld h 37 2).toNat ≤ 300 - fld h 37 64 := by have := f5; rw [H4] at this; omega
  have S8 := f6
  rw [e4, H4] at S8
  have n8 : (((fld h 37 2).toNat : Nat) : Int) ≤ zSt h 37 2 := by show _ ≤ fld h 37 2; omega
  have C8 : ∀ v : Nat, (v : Int) < fld h 37 1 → fld h7 177 v = ySN (zSt h) (yEp (zSt h)) (fld h 37 2).toNat 66 v := fun v hv => (S8.2.1 v).trans ((A4 _ n8).2.2 v (by rw [ySN_ne (b := 37) (by decide) (Or.inr (by decide))]; exact hv)).1.symm
  have X8 : ∀ k : Nat, (k : Int) < fld h 37 2 → fld h7 176 k = yX (ySN (zSt h) (yEp (zSt h)) k) (yEp (zSt h)) k := fun k hk => (S8.2.2 k hk).trans ((A4 k (show ((k : Nat) : Int) ≤ fld h 37 2 by omega)).xk (BO.sn (yEp_4 (S := zSt h)) k (show ((k : Nat) : Int) ≤ fld h 37 2 by omega)) (yEp_4 (S := zSt h)) (by rw [ySN_ne (b := 37) (by decide) (Or.inr (by decide))]; exact hk)).symm
  have Y8 : ySN (zSt h) (yEp (zSt h)) (fld h 37 2).toNat 37 64 = fld h 37 64 + zNZ (fld h7 176) (fld h 37 2).toNat := by
    rw [ySN_64 BO (yEp_4 (S := zSt h)) _ n8]
    show fld h 37 64 + _ = _
    rw [zNZ_c (f := fun k => yX (ySN (zSt h) (yEp (zSt h)) k) (yEp (zSt h)) k) (g := fld h7 176) _ (fun j hj => (X8 j (by omega)).symm)]
  have X9 : ∀ k : Nat, (k : Int) < fld h 37 2 → fld h7 176 k = yX (yLyN (yM h) k) (yEp (yLyN (yM h) k)) k := fun k hk => (X8 k hk).trans (yLy_x (zAg_yM I) B0z hk)
  have C9 : ∀ v : Nat, (v : Int) < fld h 37 1 → fld h7 177 v = yLyN (yM h) (yM h 37 2).toNat 66 v := fun v hv => (C8 v hv).trans (yLy_c (zAg_yM I) B0z n9 hv)
  have T9 : v3 = yToA (yM h) := S8.1.trans ((Z4.to BO (yEp_4 (S := zSt h)) _ n8).symm.trans (yLy_t (zAg_yM I) B0z n9))
  refine zwW_p [(2, 1, 0), (1, 0, 2)] (q := 10) (ls' := [(2, 37), (0, v3), (9, 0)]) (st' := [(2, 37)]) (by decide +kernel) rfl ?_
  refine zwW_gc Ih7 (kd := 13) (bn := 91) (n := 97) (c := 205) (nx := 13) (by decide +kernel) ?_
  refine zwW_p [(1, 0, 2)] (q := 14) (ls' := [(2, 37), (0, v3), (9, 0)]) (st' := [(2, 37), (2, 205)]) (by decide +kernel) rfl ?_
  refine zwW_gs Ih7 (kd := 13) (bn := 0) (n := 97) (t := 0) (lo := 0) (hi := 156) (nx := 17) (by decide +kernel) ?_
  intro v8 ev8 lv8 uv8
  have sv8 : v8 = (yM h) 37 0 := Eq.trans ev8 (Eq.trans (Eq.symm (yM_s (h := h7) (i := 0) rfl)) (Eq.trans (congrFun (congrFun Zh7 37) 0) rfl))
  refine zwW_ro Ih7 (a := 205) (n := 156) (kd := 26) (base := 206) (step := 1) (nx := 18) (by decide +kernel) rfl (by first | omega | exact ⟨by omega, by omega⟩) ?_
  rw [show ((206 : Nat) : Int) + ((1 : Nat) : Int) * v8 = (206 + v8) by omega]
  refine zwW_p [(0, 1, 0), (1, 1, 0)] (q := 20) (ls' := [(2, 37), (0, v3), (9, 0)]) (st' := [(0, v3), (0, 1), (2, (206 + v8))]) (by decide +kernel) rfl ?_
  refine zwW_as Ih7 (a1 := 206) (a2 := 361) (n := 6) (lo := -2147483648) (hi := 2147483647) (nx := 21) (by decide +kernel) (by first | omega | exact ⟨by omega, by omega⟩) (by first | decide | exact ⟨by decide, by decide⟩) (by first | omega | exact ⟨by omega, by omega⟩) ?_
  intro h9 eh9 Ih9
  have rbh9 : ((206 : Nat) : Int) ≤ (206 + v8) ∧ (206 + v8) ≤ ((361 : Nat) : Int) := (by first | omega | exact ⟨by omega, by omega⟩)
  have th9_37_0 : fld h9 37 0 = fld h7 37 0 := by rw [eh9]; exact fld_wr (Or.inl (zne_l (by decide) rbh9.1))
  have th9_37_1 : fld h9 37 1 = fld h7 37 1 := by rw [eh9]; exact fld_wr (Or.inl (zne_l (by decide) rbh9.1))
  have th9_37_2 : fld h9 37 2 = fld h7 37 2 := by rw [eh9]; exact fld_wr (Or.inl (zne_l (by decide) rbh9.1))
  have th9_37_64 : fld h9 37 64 = fld h7 37 64 := by rw [eh9]; exact fld_wr (Or.inl (zne_l (by decide) rbh9.1))
  have Kh9_176 : fld h9 176 = fld h7 176 := (funext fun j => fld_oth eh9 (Or.inl (zne_l (by decide) rbh9.1))).trans rfl
  have Kh9_177 : fld h9 177 = fld h7 177 := (funext fun j => fld_oth eh9 (Or.inl (zne_l (by decide) rbh9.1))).trans rfl
  have Zh9 : yM h9 = (zs (yM h) 206 (6 * v8.toNat + 1) v3) := by rw [yM_w2 (a := 206) (w := 6) (v := v8.toNat) (j := 1) (m := 6) (kd := 20) rfl (by omega) (Ih7.s (a1 := 206) (a2 := 361) (by decide +kernel) (by omega) (by omega)) (by omega) (by omega) (by show _ < 936; omega) eh9, Zh7]
  have Rh9 : zMR ms194 h h9 := Rh7.w (a1 := 206) (a2 := 361) (j1 := 0) (j2 := 6) (by decide +kernel) rbh9 (by first | decide | exact ⟨by decide, by decide⟩) eh9
  refine zwW_p [(1, 0, 2), (12, 0, 0)] (q := 23) (ls' := [(2, 37), (0, v3), (9, 0)]) (st' := [(2, 37), (2, 37)]) (by decide +kernel) rfl ?_
  refine zwW_gs Ih9 (kd := 13) (bn := 71) (n := 97) (t := 0) (lo := -2147483648) (hi := 2147483647) (nx := 26) (by decide +kernel) ?_
  intro v10 ev10 lv10 uv10
  have sv10 : v10 = (yM h) 37 71 := Eq.trans ev10 (Eq.trans (Eq.symm (yM_s (h := h9) (i := 71) rfl)) (Eq.trans (congrFun (congrFun Zh9 37) 71) (Eq.trans (zs_na (by decide) : (zs (yM h) 206 (6 * v8.toNat + 1) v3) 37 71 = (yM h) 37 71) rfl)))
  refine zwW_p [(1, 1, 0)] (q := 27) (ls' := [(2, 37), (0, v3), (9, 0)]) (st' := [(0, v3), (0, v10), (2, 37)]) (by decide +kernel) rfl ?_
  refine zwW_adw (nx := 28) (by decide +kernel) ?_
  intro v11 ev11 lv11 uv11
  have Ev11 : v11 = w32 (((yM h) 37 71) + v3) := by rw [ev11, sv10]
  refine zwW_ps Ih9 (kd := 13) (bn := 71) (n := 97) (lo := -2147483648) (hi := 2147483647) (nx := 31) (by decide +kernel) (by first | omega | exact ⟨by omega, by omega⟩) ?_
  intro h12 eh12 Ih12
  have th12_37_0 : fld h12 37 0 = fld h9 37 0 := by rw [eh12]; exact fld_wr (by decide)
  have th12_37_1 : fld h12 37 1 = fld h9 37 1 := by rw [eh12]; exact fld_wr (by decide)
  have th12_37_2 : fld h12 37 2 = fld h9 37 2 := by rw [eh12]; exact fld_wr (by decide)
  have th12_37_64 : fld h12 37 64 = fld h9 37 64 := by rw [eh12]; exact fld_wr (by decide)
  have Kh12_176 : fld h12 176 = fld h7 176 := (funext fun j => fld_oth eh12 (Or.inl (by decide))).trans Kh9_176
  have Kh12_177 : fld h12 177 = fld h7 177 := (funext fun j => fld_oth eh12 (Or.inl (by decide))).trans Kh9_177
  have Zh12 : yM h12 = (zs (zs (yM h) 206 (6 * v8.toNat + 1) v3) 37 71 (w32 (((yM h) 37 71) + v3))) := by rw [yM_ws (i := 71) (kd := 13) (n := 97) rfl (Ih9.s (a1 := 37) (a2 := 37) (by decide +kernel) (by decide) (by decide)) (by decide) eh12, Zh9, Ev11]
  have Rh12 : zMR ms194 h h12 := Rh9.w (a1 := 37) (a2 := 37) (j1 := 71) (j2 := 72) (by decide +kernel) (by first | decide | exact ⟨by decide, by decide⟩) (by first | decide | exact ⟨by decide, by decide⟩) eh12
  refine zwW_p [(0, 0, 0)] (q := 32) (ls' := [(2, 37), (0, v3), (9, 0)]) (st' := [(0, 0)]) (by decide +kernel) rfl ?_
  have E32 : (zs (zs (yM h) 206 (6 * v8.toNat + 1) v3) 37 71 (w32 (((yM h) 37 71) + v3))) = (zs (zs (yM h) 206 (yP1 (yM h)) (yToA (yM h))) 37 71 (yW1 (yM h))) := by
    unfold yW1 yP1
    exact zs_cg (zs_cg rfl (by omega) T9) rfl (by rw [T9])
  refine zwW_p [(2, 2, 0)] (q := 33) (ls' := [(2, 37), (0, v3), (0, 0)]) (st' := []) (by decide +kernel) rfl ?_
  have L13 : ∀ (n0 : Nat) (vL13 : Int) (hL13 : Hp), n0 = ((100 - vL13)).toNat → (0 ≤ vL13 ∧ vL13 ≤ 8) → (fld hL13 37 0 = fld h 37 0) → (fld hL13 37 64 = fld h 37 64) → (fld hL13 176 = fld h7 176) → (fld hL13 177 = fld h7 177) → (∀ u : Nat, (u : Int) < vL13 → fld hL13 66 u = fld h7 177 u) → (fld hL13 37 1 = fld h 37 1 ∧ fld hL13 37 2 = fld h 37 2 ∧ vL13 ≤ fld h 37 1) → (yM hL13 = (yCt (zs (zs (yM h) 206 (yP1 (yM h)) (yToA (yM h))) 37 71 (yW1 (yM h))) (fld h7 177) (vL13).toNat)) → zI hL13 → zMR ms194 h hL13 → zwW sc (2) 194 33 [(2, 37), (0, v3), (0, vL13)] [] hL13 (zwRv (fun g => zI g ∧ zMR ms194 h g ∧ (yM g = yLyM (yM h)))) := by
    intro n0
    induction n0 using Nat.strongRecOn with
    | ind n0 IHL13 =>
      intro vL13 hL13 hnL13 iL13_0 iL13_1 iL13_2 iL13_3 iL13_4 iL13_5 iL13_6 iL13_7 IhL13 RhL13
      refine zwW_p [(1, 2, 0), (1, 0, 2)] (q := 35) (ls' := [(2, 37), (0, v3), (0, vL13)]) (st' := [(2, 37), (0, vL13)]) (by decide +kernel) rfl ?_
      refine zwW_gs IhL13 (kd := 13) (bn := 1) (n := 97) (t := 0) (lo := 0) (hi := 8) (nx := 38) (by decide +kernel) ?_
      intro v14 ev14 lv14 uv14
      have sv14 : v14 = (yCt (zs (zs (yM h) 206 (yP1 (yM h)) (yToA (yM h))) 37 71 (yW1 (yM h))) (fld h7 177) (vL13).toNat) 37 1 := Eq.trans ev14 (Eq.trans (Eq.symm (yM_s (h := hL13) (i := 1) rfl)) (Eq.trans (congrFun (congrFun iL13_7 37) 1) rfl))
      refine zwic_ge (q := 59) (nx := 41) (by decide +kernel) (fun c15 => ?_) (fun c15 => ?_)
      · have r59 : fld hL13 37 1 = fld h 37 1 := RhL13.f (a1 := 37) (a2 := 37) (j1 := 1) (j2 := 2) (by decide +kernel) (by first | decide | exact ⟨by decide, by decide⟩) (by first | decide | exact ⟨by decide, by decide⟩)
        have D59 : ∀ u : Nat, (u : Int) < fld h 37 1 → fld hL13 66 u = ySN (zSt h) (yEp (zSt h)) (fld h 37 2).toNat 66 u := fun u hu => (iL13_5 u (by omega)).trans (C8 u hu)
        have E59 : yM hL13 = yLyB (yM h) (yP1 (yM h)) (yToA (yM h)) (yW1 (yM h)) 0 := iL13_7.trans (by rw [show (vL13).toNat = (yM h 37 1).toNat by show _ = (fld h 37 1).toNat; omega]; exact yLyB_i N1.1 C9)
        refine zwW_p [(0, 0, 0), (2, 2, 0)] (q := 61) (ls' := [(2, 37), (0, v3), (0, 0)]) (st' := []) (by decide +kernel) rfl ?_
        have L16 : ∀ (n0 : Nat) (qL16 : Int) (hL16 : Hp), n0 = ((100 - qL16)).toNat → (0 ≤ qL16 ∧ qL16 ≤ fld h 37 2) → (fld hL16 37 0 = fld h 37 0) → (fld hL16 37 64 = fld h 37 64 + zNZ (fld h7 176) (qL16).toNat) → (fld hL16 176 = fld h7 176) → (fld hL16 66 = fld hL13 66) → (fld hL16 37 1 = fld h 37 1 ∧ fld hL16 37 2 = fld h 37 2) → (yM hL16 = (yLyB (yM h) (yP1 (yM h)) (yToA (yM h)) (yW1 (yM h)) (qL16).toNat)) → zI hL16 → zMR ms194 h hL16 → zwW sc (2) 194 61 [(2, 37), (0, v3), (0, qL16)] [] hL16 (zwRv (fun g => zI g ∧ zMR ms194 h g ∧ (yM g = yLyM (yM h)))) := by
          intro n0
          induction n0 using Nat.strongRecOn with
          | ind n0 IHL16 =>
            intro qL16 hL16 hnL16 iL16_0 iL16_1 iL16_2 iL16_3 iL16_4 iL16_5 iL16_6 IhL16 RhL16
            refine zwW_p [(1, 2, 0), (1, 0, 2)] (q := 63) (ls' := [(2, 37), (0, v3), (0, qL16)]) (st' := [(2, 37), (0, qL16)]) (by decide +kernel) rfl ?_
            refine zwW_gs IhL16 (kd := 13) (bn := 2) (n := 97) (t := 0) (lo := 0) (hi := 20) (nx := 66) (by decide +kernel) ?_
            intro v17 ev17 lv17 uv17
            have sv17 : v17 = (yLyB (yM h) (yP1 (yM h)) (yToA (yM h)) (yW1 (yM h)) (qL16).toNat) 37 2 := Eq.trans ev17 (Eq.trans (Eq.symm (yM_s (h := hL16) (i := 2) rfl)) (Eq.trans (congrFun (congrFun iL16_6 37) 2) rfl))
            refine zwic_ge (q := 233) (nx := 69) (by decide +kernel) (fun c18 => ?_) (fun c18 => ?_)
            · have r233 : fld hL16 37 2 = fld h 37 2 := RhL16.f (a1 := 37) (a2 := 37) (j1 := 2) (j2 := 3) (by decide +kernel) (by first | decide | exact ⟨by decide, by decide⟩) (by first | decide | exact ⟨by decide, by decide⟩)
              refine zwW_retv (nx := 234) (a := 0) (b := 0) (by decide +kernel) ?_
              exact ⟨IhL16, RhL16, by refine Eq.trans iL16_6 ?_; unfold yLyM yLyB yLyA; rw [show (qL16).toNat = (yM h 37 2).toNat by show _ = (fld h 37 2).toNat; omega, yR_end rfl]⟩
            · have H69 := RhL16.f (a1 := 37) (a2 := 37) (j1 := 2) (j2 := 3) (by decide +kernel) (r := 37) (j := 2) (by first | decide | exact ⟨by decide, by decide⟩) (by first | decide | exact ⟨by decide, by decide⟩)
              have EL := yLyN_e B0z (k := (qL16).toNat) (by show _ ≤ fld h 37 2; omega)
              have BT := B0z.lyn (k := (qL16).toNat) (by show _ ≤ fld h 37 2; omega)
              have q2 : (((qL16).toNat : Nat) : Int) < yM h 37 2 := by show _ < fld h 37 2; omega
              have KB := BT.1 (qL16).toNat (by rw [EL.2.1]; exact q2)
              have XB := yX_b BT (yEp_4 (S := (yLyN (yM h) (qL16).toNat))) (k := (qL16).toNat) (by rw [EL.2.1]; exact q2)
              have HV : ((((yLyN (yM h) (qL16).toNat) 79 (qL16).toNat).toNat : Nat) : Int) < yM h 37 1 := by omega
              have E64 : ((yLyB (yM h) (yP1 (yM h)) (yToA (yM h)) (yW1 (yM h)) (qL16).toNat) 37 64).toNat = ((yLyN (yM h) (qL16).toNat) 37 64).toNat := by rw [yLyB_64]
              refine zwW_p [(1, 0, 2)] (q := 70) (ls' := [(2, 37), (0, v3), (0, qL16)]) (st' := [(2, 37)]) (by decide +kernel) rfl ?_
              refine zwW_gc IhL16 (kd := 13) (bn := 36) (n := 97) (c := 95) (nx := 73) (by decide +kernel) ?_
              refine zwW_p [(1, 2, 0), (14, 0, 0)] (q := 75) (ls' := [(2, 37), (0, v3), (0, qL16)]) (st' := [(0, qL16), (2, 95), (0, qL16), (2, 95)]) (by decide +kernel) rfl ?_
              have ib1 : 0 ≤ qL16 ∧ qL16 < ((20 : Nat) : Int) := (by first | omega | exact ⟨by omega, by omega⟩)
              refine zwW_al IhL16 (a1 := 95) (a2 := 95) (kd := 20) (n := 20) (t := 0) (lo := -2147483648) (hi := 2147483647) (nx := 76) (by decide +kernel) (by first | decide | exact ⟨by decide, by decide⟩) ib1 ?_
              intro v19 ev19 lv19 uv19
              have sv19 : v19 = (yLyB (yM h) (yP1 (yM h)) (yToA (yM h)) (yW1 (yM h)) (qL16).toNat) 95 qL16.toNat := Eq.trans ev19 (Eq.trans (Eq.symm (yM_p (h := hL16) (a := 95) (n := 20) (i := qL16.toNat) rfl (zit ib1))) (Eq.trans (congrFun (congrFun iL16_6 95) qL16.toNat) rfl))
              refine zwW_p [(1, 0, 2)] (q := 77) (ls' := [(2, 37), (0, v3), (0, qL16)]) (st' := [(2, 37), (0, v19), (0, qL16), (2, 95)]) (by decide +kernel) rfl ?_
              refine zwW_gc IhL16 (kd := 13) (bn := 21) (n := 97) (c := 80) (nx := 80) (by decide +kernel) ?_
              refine zwW_p [(1, 2, 0)] (q := 81) (ls' := [(2, 37), (0, v3), (0, qL16)]) (st' := [(0, qL16), (2, 80), (0, v19), (0, qL16), (2, 95)]) (by decide +kernel) rfl ?_
              refine zwW_al IhL16 (a1 := 80) (a2 := 80) (kd := 20) (n := 20) (t := 0) (lo := 0) (hi := 5) (nx := 82) (by decide +kernel) (by first | decide | exact ⟨by decide, by decide⟩) ib1 ?_
              intro v20 ev20 lv20 uv20
              have sv20 : v20 = (yLyB (yM h) (yP1 (yM h)) (yToA (yM h)) (yW1 (yM h)) (qL16).toNat) 80 qL16.toNat := Eq.trans ev20 (Eq.trans (Eq.symm (yM_p (h := hL16) (a := 80) (n := 20) (i := qL16.toNat) rfl (zit ib1))) (Eq.trans (congrFun (congrFun iL16_6 80) qL16.toNat) rfl))
              refine zwW_p [(1, 0, 2)] (q := 83) (ls' := [(2, 37), (0, v3), (0, qL16)]) (st' := [(2, 37), (0, v20), (0, v19), (0, qL16), (2, 95)]) (by decide +kernel) rfl ?_
              refine zwW_gc IhL16 (kd := 13) (bn := 3) (n := 97) (c := 38) (nx := 86) (by decide +kernel) ?_
              refine zwW_p [(1, 0, 2)] (q := 87) (ls' := [(2, 37), (0, v3), (0, qL16)]) (st' := [(2, 37), (2, 38), (0, v20), (0, v19), (0, qL16), (2, 95)]) (by decide +kernel) rfl ?_
              refine zwW_gc IhL16 (kd := 13) (bn := 20) (n := 97) (c := 79) (nx := 90) (by decide +kernel) ?_
              refine zwW_p [(1, 2, 0)] (q := 91) (ls' := [(2, 37), (0, v3), (0, qL16)]) (st' := [(0, qL16), (2, 79), (2, 38), (0, v20), (0, v19), (0, qL16), (2, 95)]) (by decide +kernel) rfl ?_
              refine zwW_al IhL16 (a1 := 79) (a2 := 79) (kd := 20) (n := 20) (t := 0) (lo := 0) (hi := 7) (nx := 92) (by decide +kernel) (by first | decide | exact ⟨by decide, by decide⟩) ib1 ?_
              intro v21 ev21 lv21 uv21
              have sv21 : v21 = (yLyB (yM h) (yP1 (yM h)) (yToA (yM h)) (yW1 (yM h)) (qL16).toNat) 79 qL16.toNat := Eq.trans ev21 (Eq.trans (Eq.symm (yM_p (h := hL16) (a := 79) (n := 20) (i := qL16.toNat) rfl (zit ib1))) (Eq.trans (congrFun (congrFun iL16_6 79) qL16.toNat) rfl))
              refine zwW_ro IhL16 (a := 38) (n := 8) (kd := 26) (base := 39) (step := 1) (nx := 93) (by decide +kernel) rfl (by first | omega | exact ⟨by omega, by omega⟩) ?_
              rw [show ((39 : Nat) : Int) + ((1 : Nat) : Int) * v21 = (39 + v21) by omega]
              refine zwW_p [(1, 0, 2)] (q := 94) (ls' := [(2, 37), (0, v3), (0, qL16)]) (st' := [(2, 37), (2, (39 + v21)), (0, v20), (0, v19), (0, qL16), (2, 95)]) (by decide +kernel) rfl ?_
              refine zwW_gs IhL16 (kd := 13) (bn := 0) (n := 97) (t := 0) (lo := 0) (hi := 156) (nx := 97) (by decide +kernel) ?_
              intro v22 ev22 lv22 uv22
              have sv22 : v22 = (yLyB (yM h) (yP1 (yM h)) (yToA (yM h)) (yW1 (yM h)) (qL16).toNat) 37 0 := Eq.trans ev22 (Eq.trans (Eq.symm (yM_s (h := hL16) (i := 0) rfl)) (Eq.trans (congrFun (congrFun iL16_6 37) 0) rfl))
              refine zwW_cs (k' := 174) (n := 1) (nx := 100) (as := [(0, v22)]) (st' := [(2, (39 + v21)), (0, v20), (0, v19), (0, qL16), (2, 95)]) (by decide +kernel) rfl (m174 hL16 v22 (by omega) (by omega)) rfl ?_
              rintro v23 _ ⟨rfl, f24, f25, f26, f27⟩
              have ib2 : 0 ≤ v23 ∧ v23 < ((4 : Nat) : Int) := (by first | omega | exact ⟨by omega, by omega⟩)
              refine zwW_al IhL16 (a1 := 39) (a2 := 46) (kd := 20) (n := 4) (t := 0) (lo := 0) (hi := 40) (nx := 101) (by decide +kernel) (by first | omega | exact ⟨by omega, by omega⟩) ib2 ?_
              intro v28 ev28 lv28 uv28
              have sv28 : v28 = (yLyB (yM h) (yP1 (yM h)) (yToA (yM h)) (yW1 (yM h)) (qL16).toNat) 39 (4 * v21.toNat + v23.toNat) := Eq.trans (show v28 = yM hL16 39 (4 * v21.toNat + v23.toNat) by rw [yM_2 (a := 39) (w := 4) (v := v21.toNat) (j := v23.toNat) rfl (by omega) (by show _ < 32; omega), ev28]; congr 1; omega) (Eq.trans (congrFun (congrFun iL16_6 39) (4 * v21.toNat + v23.toNat)) rfl)
              refine zwW_mulp (A := 5) (B := 40) (nx := 102) (by decide +kernel) (by first | omega | exact ⟨by omega, by omega⟩) (by first | omega | exact ⟨by omega, by omega⟩) (by decide) ?_
              intro v29 ev29 lv29 uv29
              have Ev29 : v29 = ((yLyB (yM h) (yP1 (yM h)) (yToA (yM h)) (yW1 (yM h)) (qL16).toNat) 80 qL16.toNat) * ((yLyB (yM h) (yP1 (yM h)) (yToA (yM h)) (yW1 (yM h)) (qL16).toNat) 39 (4 * v21.toNat + v23.toNat)) := by rw [ev29, sv20, sv28]
              refine zwW_p [(0, 10, 0), (1, 0, 2)] (q := 105) (ls' := [(2, 37), (0, v3), (0, qL16)]) (st' := [(2, 37), (0, 10), (0, v29), (0, v19), (0, qL16), (2, 95)]) (by decide +kernel) rfl ?_
              refine zwW_gc IhL16 (kd := 13) (bn := 22) (n := 97) (c := 81) (nx := 108) (by decide +kernel) ?_
              refine zwW_p [(1, 2, 0)] (q := 109) (ls' := [(2, 37), (0, v3), (0, qL16)]) (st' := [(0, qL16), (2, 81), (0, 10), (0, v29), (0, v19), (0, qL16), (2, 95)]) (by decide +kernel) rfl ?_
              refine zwW_al IhL16 (a1 := 81) (a2 := 81) (kd := 20) (n := 20) (t := 0) (lo := 0) (hi := 9) (nx := 110) (by decide +kernel) (by first | decide | exact ⟨by decide, by decide⟩) ib1 ?_
              intro v30 ev30 lv30 uv30
              have sv30 : v30 = (yLyB (yM h) (yP1 (yM h)) (yToA (yM h)) (yW1 (yM h)) (qL16).toNat) 81 qL16.toNat := Eq.trans ev30 (Eq.trans (Eq.symm (yM_p (h := hL16) (a := 81) (n := 20) (i := qL16.toNat) rfl (zit ib1))) (Eq.trans (congrFun (congrFun iL16_6 81) qL16.toNat) rfl))
              refine zwW_add (nx := 111) (by decide +kernel) (by first | omega | exact ⟨by omega, by omega⟩) ?_
              refine zwW_mulp (A := 200) (B := 19) (nx := 112) (by decide +kernel) (by first | omega | exact ⟨by omega, by omega⟩) (by first | omega | exact ⟨by omega, by omega⟩) (by decide) ?_
              intro v31 ev31 lv31 uv31
              have Ev31 : v31 = (((yLyB (yM h) (yP1 (yM h)) (yToA (yM h)) (yW1 (yM h)) (qL16).toNat) 80 qL16.toNat) * ((yLyB (yM h) (yP1 (yM h)) (yToA (yM h)) (yW1 (yM h)) (qL16).toNat) 39 (4 * v21.toNat + v23.toNat))) * (10 + ((yLyB (yM h) (yP1 (yM h)) (yToA (yM h)) (yW1 (yM h)) (qL16).toNat) 81 qL16.toNat)) := by rw [ev31, Ev29, sv30]
              refine zwW_p [(0, 24, 0)] (q := 114) (ls' := [(2, 37), (0, v3), (0, qL16)]) (st' := [(0, 24), (0, v31), (0, v19), (0, qL16), (2, 95)]) (by decide +kernel) rfl ?_
              refine zwW_div (nx := 115) (by decide +kernel) (by omega) (by omega) (by omega) ?_
              refine zwW_adw (nx := 116) (by decide +kernel) ?_
              intro v32 ev32 lv32 uv32
              have Ev32 : v32 = w32 (((yLyB (yM h) (yP1 (yM h)) (yToA (yM h)) (yW1 (yM h)) (qL16).toNat) 95 qL16.toNat) + (((((yLyB (yM h) (yP1 (yM h)) (yToA (yM h)) (yW1 (yM h)) (qL16).toNat) 80 qL16.toNat) * ((yLyB (yM h) (yP1 (yM h)) (yToA (yM h)) (yW1 (yM h)) (qL16).toNat) 39 (4 * v21.toNat + v23.toNat))) * (10 + ((yLyB (yM h) (yP1 (yM h)) (yToA (yM h)) (yW1 (yM h)) (qL16).toNat) 81 qL16.toNat))) / 24)) := by rw [ev32, sv19, Ev31]
              refine zwW_as IhL16 (a1 := 95) (a2 := 95) (n := 20) (lo := -2147483648) (hi := 2147483647) (nx := 117) (by decide +kernel) (by first | decide | exact ⟨by decide, by decide⟩) ib1 (by first | omega | exact ⟨by omega, by omega⟩) ?_
              intro h33 eh33 Ih33
              have jbh33 : 0 ≤ qL16.toNat ∧ qL16.toNat < 20 := ⟨Nat.zero_le _, zit ib1⟩
              have th33_37_0 : fld h33 37 0 = fld hL16 37 0 := by rw [eh33]; exact fld_wr (Or.inl (by decide))
              have th33_37_1 : fld h33 37 1 = fld hL16 37 1 := by rw [eh33]; exact fld_wr (Or.inl (by decide))
              have th33_37_2 : fld h33 37 2 = fld hL16 37 2 := by rw [eh33]; exact fld_wr (Or.inl (by decide))
              have th33_37_64 : fld h33 37 64 = fld hL16 37 64 := by rw [eh33]; exact fld_wr (Or.inl (by decide))
              have Kh33_176 : fld h33 176 = fld h7 176 := (funext fun j => fld_oth eh33 (Or.inl (by decide))).trans iL16_3
              have Kh33_66 : fld h33 66 = fld hL13 66 := (funext fun j => fld_oth eh33 (Or.inl (by decide))).trans iL16_4
              have V116 : v32 = w32 ((yLyN (yM h) (qL16).toNat) 95 (qL16).toNat + yCan (yLyN (yM h) (qL16).toNat) (qL16).toNat) := by
                rw [Ev32]
                unfold yCan yIdl
                rw [yLyB_n (by decide), yLyB_n (by decide), yLyB_n (by decide), yLyB_n (by decide), show (v21).toNat = ((yLyN (yM h) (qL16).toNat) 79 (qL16).toNat).toNat by rw [sv21, yLyB_n (by decide)], show (v23) = (yLyN (yM h) (qL16).toNat) 37 0 / 13 % 4 by rw [f25, sv22, yLyB_0]]
              have Zh33 : yM h33 = (zs (yLyB (yM h) (yP1 (yM h)) (yToA (yM h)) (yW1 (yM h)) (qL16).toNat) 95 qL16.toNat (w32 (((yLyB (yM h) (yP1 (yM h)) (yToA (yM h)) (yW1 (yM h)) (qL16).toNat) 95 qL16.toNat) + (((((yLyB (yM h) (yP1 (yM h)) (yToA (yM h)) (yW1 (yM h)) (qL16).toNat) 80 qL16.toNat) * ((yLyB (yM h) (yP1 (yM h)) (yToA (yM h)) (yW1 (yM h)) (qL16).toNat) 39 (4 * v21.toNat + v23.toNat))) * (10 + ((yLyB (yM h) (yP1 (yM h)) (yToA (yM h)) (yW1 (yM h)) (qL16).toNat) 81 qL16.toNat))) / 24)))) := by rw [yM_w (a := 95) (n := 20) (i := qL16.toNat) (kd := 20) rfl (IhL16.s (a1 := 95) (a2 := 95) (by decide +kernel) (by decide) (by decide)) jbh33.2 eh33, iL16_6, Ev32]
              have Rh33 : zMR ms194 h h33 := RhL16.w (a1 := 95) (a2 := 95) (j1 := 0) (j2 := 20) (by decide +kernel) (by first | decide | exact ⟨by decide, by decide⟩) jbh33 eh33
              refine zwW_p [(1, 0, 2)] (q := 118) (ls' := [(2, 37), (0, v3), (0, qL16)]) (st' := [(2, 37)]) (by decide +kernel) rfl ?_
              refine zwW_gc Ih33 (kd := 13) (bn := 65) (n := 97) (c := 176) (nx := 121) (by decide +kernel) ?_
              refine zwW_p [(1, 2, 0)] (q := 122) (ls' := [(2, 37), (0, v3), (0, qL16)]) (st' := [(0, qL16), (2, 176)]) (by decide +kernel) rfl ?_
              refine zwW_al Ih33 (a1 := 176) (a2 := 176) (kd := 20) (n := 20) (t := 0) (lo := -2147483648) (hi := 2147483647) (nx := 123) (by decide +kernel) (by first | decide | exact ⟨by decide, by decide⟩) ib1 ?_
              intro v34 ev34 lv34 uv34
              have V123 : v34 = yX (yLyN (yM h) (qL16).toNat) (yEp (yLyN (yM h) (qL16).toNat)) (qL16).toNat := by rw [ev34]; exact (congrFun Kh33_176 _).trans (X9 _ (by omega))
              refine zwif_ne (q := 129) (nx := 126) (by decide +kernel) (fun c35 => ?_) (fun c35 => ?_)
              · have K129 := congrFun Kh33_176 (qL16).toNat
                have S129 : zNZ (fld h7 176) ((qL16).toNat + 1) = zNZ (fld h7 176) (qL16).toNat + (if fld h7 176 (qL16).toNat = 0 then 0 else 1) := rfl
                rw [if_neg (by omega)] at S129
                have M129 := zNZ_le (fld h7 176) ((qL16).toNat + 1) ((fld h 37 2).toNat - ((qL16).toNat + 1))
                rw [show (qL16).toNat + 1 + ((fld h 37 2).toNat - ((qL16).toNat + 1)) = (fld h 37 2).toNat by omega] at M129
                refine zwW_p [(1, 0, 2)] (q := 130) (ls' := [(2, 37), (0, v3), (0, qL16)]) (st' := [(2, 37)]) (by decide +kernel) rfl ?_
                refine zwW_gc Ih33 (kd := 13) (bn := 58) (n := 97) (c := 170) (nx := 133) (by decide +kernel) ?_
                refine zwW_p [(1, 0, 2)] (q := 134) (ls' := [(2, 37), (0, v3), (0, qL16)]) (st' := [(2, 37), (2, 170)]) (by decide +kernel) rfl ?_
                refine zwW_gs Ih33 (kd := 13) (bn := 64) (n := 97) (t := 0) (lo := 0) (hi := 300) (nx := 137) (by decide +kernel) ?_
                intro v36 ev36 lv36 uv36
                have sv36 : v36 = (yLyB (yM h) (yP1 (yM h)) (yToA (yM h)) (yW1 (yM h)) (qL16).toNat) 37 64 := Eq.trans ev36 (Eq.trans (Eq.symm (yM_s (h := h33) (i := 64) rfl)) (Eq.trans (congrFun (congrFun Zh33 37) 64) (Eq.trans (zs_na (by decide) : (zs (yLyB (yM h) (yP1 (yM h)) (yToA (yM h)) (yW1 (yM h)) (qL16).toNat) 95 qL16.toNat (w32 (((yLyB (yM h) (yP1 (yM h)) (yToA (yM h)) (yW1 (yM h)) (qL16).toNat) 95 qL16.toNat) + (((((yLyB (yM h) (yP1 (yM h)) (yToA (yM h)) (yW1 (yM h)) (qL16).toNat) 80 qL16.toNat) * ((yLyB (yM h) (yP1 (yM h)) (yToA (yM h)) (yW1 (yM h)) (qL16).toNat) 39 (4 * v21.toNat + v23.toNat))) * (10 + ((yLyB (yM h) (yP1 (yM h)) (yToA (yM h)) (yW1 (yM h)) (qL16).toNat) 81 qL16.toNat))) / 24)))) 37 64 = (yLyB (yM h) (yP1 (yM h)) (yToA (yM h)) (yW1 (yM h)) (qL16).toNat) 37 64) rfl)))
                refine zwW_p [(1, 2, 0)] (q := 138) (ls' := [(2, 37), (0, v3), (0, qL16)]) (st' := [(0, qL16), (0, v36), (2, 170)]) (by decide +kernel) rfl ?_
                have ib3 : 0 ≤ v36 ∧ v36 < ((300 : Nat) : Int) := (by first | omega | exact ⟨by omega, by omega⟩)
                refine zwW_as Ih33 (a1 := 170) (a2 := 170) (n := 300) (lo := 0) (hi := 19) (nx := 139) (by decide +kernel) (by first | decide | exact ⟨by decide, by decide⟩) ib3 (by first | omega | exact ⟨by omega, by omega⟩) ?_
                intro h37 eh37 Ih37
                have jbh37 : 0 ≤ v36.toNat ∧ v36.toNat < 300 := ⟨Nat.zero_le _, zit ib3⟩
                have th37_37_0 : fld h37 37 0 = fld h33 37 0 := by rw [eh37]; exact fld_wr (Or.inl (by decide))
                have th37_37_1 : fld h37 37 1 = fld h33 37 1 := by rw [eh37]; exact fld_wr (Or.inl (by decide))
                have th37_37_2 : fld h37 37 2 = fld h33 37 2 := by rw [eh37]; exact fld_wr (Or.inl (by decide))
                have th37_37_64 : fld h37 37 64 = fld h33 37 64 := by rw [eh37]; exact fld_wr (Or.inl (by decide))
                have Kh37_176 : fld h37 176 = fld h7 176 := (funext fun j => fld_oth eh37 (Or.inl (by decide))).trans Kh33_176
                have Kh37_66 : fld h37 66 = fld hL13 66 := (funext fun j => fld_oth eh37 (Or.inl (by decide))).trans Kh33_66
                have Zh37 : yM h37 = (zs (zs (yLyB (yM h) (yP1 (yM h)) (yToA (yM h)) (yW1 (yM h)) (qL16).toNat) 95 qL16.toNat (w32 (((yLyB (yM h) (yP1 (yM h)) (yToA (yM h)) (yW1 (yM h)) (qL16).toNat) 95 qL16.toNat) + (((((yLyB (yM h) (yP1 (yM h)) (yToA (yM h)) (yW1 (yM h)) (qL16).toNat) 80 qL16.toNat) * ((yLyB (yM h) (yP1 (yM h)) (yToA (yM h)) (yW1 (yM h)) (qL16).toNat) 39 (4 * v21.toNat + v23.toNat))) * (10 + ((yLyB (yM h) (yP1 (yM h)) (yToA (yM h)) (yW1 (yM h)) (qL16).toNat) 81 qL16.toNat))) / 24)))) 170 (((yLyB (yM h) (yP1 (yM h)) (yToA (yM h)) (yW1 (yM h)) (qL16).toNat) 37 64).toNat) qL16) := by rw [yM_w (a := 170) (n := 300) (i := v36.toNat) (kd := 20) rfl (Ih33.s (a1 := 170) (a2 := 170) (by decide +kernel) (by decide) (by decide)) jbh37.2 eh37, Zh33, sv36]
                have Rh37 : zMR ms194 h h37 := Rh33.w (a1 := 170) (a2 := 170) (j1 := 0) (j2 := 300) (by decide +kernel) (by first | decide | exact ⟨by decide, by decide⟩) jbh37 eh37
                refine zwW_p [(1, 0, 2)] (q := 140) (ls' := [(2, 37), (0, v3), (0, qL16)]) (st' := [(2, 37)]) (by decide +kernel) rfl ?_
                refine zwW_gc Ih37 (kd := 13) (bn := 59) (n := 97) (c := 171) (nx := 143) (by decide +kernel) ?_
                refine zwW_p [(1, 0, 2)] (q := 144) (ls' := [(2, 37), (0, v3), (0, qL16)]) (st' := [(2, 37), (2, 171)]) (by decide +kernel) rfl ?_
                refine zwW_gs Ih37 (kd := 13) (bn := 64) (n := 97) (t := 0) (lo := 0) (hi := 300) (nx := 147) (by decide +kernel) ?_
                intro v38 ev38 lv38 uv38
                have sv38 : v38 = (yLyB (yM h) (yP1 (yM h)) (yToA (yM h)) (yW1 (yM h)) (qL16).toNat) 37 64 := Eq.trans ev38 (Eq.trans (Eq.symm (yM_s (h := h37) (i := 64) rfl)) (Eq.trans (congrFun (congrFun Zh37 37) 64) (Eq.trans (zs_na (by decide) : (zs (zs (yLyB (yM h) (yP1 (yM h)) (yToA (yM h)) (yW1 (yM h)) (qL16).toNat) 95 qL16.toNat (w32 (((yLyB (yM h) (yP1 (yM h)) (yToA (yM h)) (yW1 (yM h)) (qL16).toNat) 95 qL16.toNat) + (((((yLyB (yM h) (yP1 (yM h)) (yToA (yM h)) (yW1 (yM h)) (qL16).toNat) 80 qL16.toNat) * ((yLyB (yM h) (yP1 (yM h)) (yToA (yM h)) (yW1 (yM h)) (qL16).toNat) 39 (4 * v21.toNat + v23.toNat))) * (10 + ((yLyB (yM h) (yP1 (yM h)) (yToA (yM h)) (yW1 (yM h)) (qL16).toNat) 81 qL16.toNat))) / 24)))) 170 (((yLyB (yM h) (yP1 (yM h)) (yToA (yM h)) (yW1 (yM h)) (qL16).toNat) 37 64).toNat) qL16) 37 64 = (zs (yLyB (yM h) (yP1 (yM h)) (yToA (yM h)) (yW1 (yM h)) (qL16).toNat) 95 qL16.toNat (w32 (((yLyB (yM h) (yP1 (yM h)) (yToA (yM h)) (yW1 (yM h)) (qL16).toNat) 95 qL16.toNat) + (((((yLyB (yM h) (yP1 (yM h)) (yToA (yM h)) (yW1 (yM h)) (qL16).toNat) 80 qL16.toNat) * ((yLyB (yM h) (yP1 (yM h)) (yToA (yM h)) (yW1 (yM h)) (qL16).toNat) 39 (4 * v21.toNat + v23.toNat))) * (10 + ((yLyB (yM h) (yP1 (yM h)) (yToA (yM h)) (yW1 (yM h)) (qL16).toNat) 81 qL16.toNat))) / 24)))) 37 64) (Eq.trans (zs_na (by decide) : (zs (yLyB (yM h) (yP1 (yM h)) (yToA (yM h)) (yW1 (yM h)) (qL16).toNat) 95 qL16.toNat (w32 (((yLyB (yM h) (yP1 (yM h)) (yToA (yM h)) (yW1 (yM h)) (qL16).toNat) 95 qL16.toNat) + (((((yLyB (yM h) (yP1 (yM h)) (yToA (yM h)) (yW1 (yM h)) (qL16).toNat) 80 qL16.toNat) * ((yLyB (yM h) (yP1 (yM h)) (yToA (yM h)) (yW1 (yM h)) (qL16).toNat) 39 (4 * v21.toNat + v23.toNat))) * (10 + ((yLyB (yM h) (yP1 (yM h)) (yToA (yM h)) (yW1 (yM h)) (qL16).toNat) 81 qL16.toNat))) / 24)))) 37 64 = (yLyB (yM h) (yP1 (yM h)) (yToA (yM h)) (yW1 (yM h)) (qL16).toNat) 37 64) rfl))))
                refine zwW_p [(1, 0, 2)] (q := 148) (ls' := [(2, 37), (0, v3), (0, qL16)]) (st' := [(2, 37), (0, v38), (2, 171)]) (by decide +kernel) rfl ?_
                refine zwW_gs Ih37 (kd := 13) (bn := 0) (n := 97) (t := 0) (lo := 0) (hi := 156) (nx := 151) (by decide +kernel) ?_
                intro v39 ev39 lv39 uv39
                have sv39 : v39 = (yLyB (yM h) (yP1 (yM h)) (yToA (yM h)) (yW1 (yM h)) (qL16).toNat) 37 0 := Eq.trans ev39 (Eq.trans (Eq.symm (yM_s (h := h37) (i := 0) rfl)) (Eq.trans (congrFun (congrFun Zh37 37) 0) (Eq.trans (zs_na (by decide) : (zs (zs (yLyB (yM h) (yP1 (yM h)) (yToA (yM h)) (yW1 (yM h)) (qL16).toNat) 95 qL16.toNat (w32 (((yLyB (yM h) (yP1 (yM h)) (yToA (yM h)) (yW1 (yM h)) (qL16).toNat) 95 qL16.toNat) + (((((yLyB (yM h) (yP1 (yM h)) (yToA (yM h)) (yW1 (yM h)) (qL16).toNat) 80 qL16.toNat) * ((yLyB (yM h) (yP1 (yM h)) (yToA (yM h)) (yW1 (yM h)) (qL16).toNat) 39 (4 * v21.toNat + v23.toNat))) * (10 + ((yLyB (yM h) (yP1 (yM h)) (yToA (yM h)) (yW1 (yM h)) (qL16).toNat) 81 qL16.toNat))) / 24)))) 170 (((yLyB (yM h) (yP1 (yM h)) (yToA (yM h)) (yW1 (yM h)) (qL16).toNat) 37 64).toNat) qL16) 37 0 = (zs (yLyB (yM h) (yP1 (yM h)) (yToA (yM h)) (yW1 (yM h)) (qL16).toNat) 95 qL16.toNat (w32 (((yLyB (yM h) (yP1 (yM h)) (yToA (yM h)) (yW1 (yM h)) (qL16).toNat) 95 qL16.toNat) + (((((yLyB (yM h) (yP1 (yM h)) (yToA (yM h)) (yW1 (yM h)) (qL16).toNat) 80 qL16.toNat) * ((yLyB (yM h) (yP1 (yM h)) (yToA (yM h)) (yW1 (yM h)) (qL16).toNat) 39 (4 * v21.toNat + v23.toNat))) * (10 + ((yLyB (yM h) (yP1 (yM h)) (yToA (yM h)) (yW1 (yM h)) (qL16).toNat) 81 qL16.toNat))) / 24)))) 37 0) (Eq.trans (zs_na (by decide) : (zs (yLyB (yM h) (yP1 (yM h)) (yToA (yM h)) (yW1 (yM h)) (qL16).toNat) 95 qL16.toNat (w32 (((yLyB (yM h) (yP1 (yM h)) (yToA (yM h)) (yW1 (yM h)) (qL16).toNat) 95 qL16.toNat) + (((((yLyB (yM h) (yP1 (yM h)) (yToA (yM h)) (yW1 (yM h)) (qL16).toNat) 80 qL16.toNat) * ((yLyB (yM h) (yP1 (yM h)) (yToA (yM h)) (yW1 (yM h)) (qL16).toNat) 39 (4 * v21.toNat + v23.toNat))) * (10 + ((yLyB (yM h) (yP1 (yM h)) (yToA (yM h)) (yW1 (yM h)) (qL16).toNat) 81 qL16.toNat))) / 24)))) 37 0 = (yLyB (yM h) (yP1 (yM h)) (yToA (yM h)) (yW1 (yM h)) (qL16).toNat) 37 0) rfl))))
                have ib4 : 0 ≤ v38 ∧ v38 < ((300 : Nat) : Int) := (by first | omega | exact ⟨by omega, by omega⟩)
                refine zwW_as Ih37 (a1 := 171) (a2 := 171) (n := 300) (lo := -2147483648) (hi := 2147483647) (nx := 152) (by decide +kernel) (by first | decide | exact ⟨by decide, by decide⟩) ib4 (by first | omega | exact ⟨by omega, by omega⟩) ?_
                intro h40 eh40 Ih40
                have jbh40 : 0 ≤ v38.toNat ∧ v38.toNat < 300 := ⟨Nat.zero_le _, zit ib4⟩
                have th40_37_0 : fld h40 37 0 = fld h37 37 0 := by rw [eh40]; exact fld_wr (Or.inl (by decide))
                have th40_37_1 : fld h40 37 1 = fld h37 37 1 := by rw [eh40]; exact fld_wr (Or.inl (by decide))
                have th40_37_2 : fld h40 37 2 = fld h37 37 2 := by rw [eh40]; exact fld_wr (Or.inl (by decide))
                have th40_37_64 : fld h40 37 64 = fld h37 37 64 := by rw [eh40]; exact fld_wr (Or.inl (by decide))
                have Kh40_176 : fld h40 176 = fld h7 176 := (funext fun j => fld_oth eh40 (Or.inl (by decide))).trans Kh37_176
                have Kh40_66 : fld h40 66 = fld hL13 66 := (funext fun j => fld_oth eh40 (Or.inl (by decide))).trans Kh37_66
                have Zh40 : yM h40 = (zs (zs (zs (yLyB (yM h) (yP1 (yM h)) (yToA (yM h)) (yW1 (yM h)) (qL16).toNat) 95 qL16.toNat (w32 (((yLyB (yM h) (yP1 (yM h)) (yToA (yM h)) (yW1 (yM h)) (qL16).toNat) 95 qL16.toNat) + (((((yLyB (yM h) (yP1 (yM h)) (yToA (yM h)) (yW1 (yM h)) (qL16).toNat) 80 qL16.toNat) * ((yLyB (yM h) (yP1 (yM h)) (yToA (yM h)) (yW1 (yM h)) (qL16).toNat) 39 (4 * v21.toNat + v23.toNat))) * (10 + ((yLyB (yM h) (yP1 (yM h)) (yToA (yM h)) (yW1 (yM h)) (qL16).toNat) 81 qL16.toNat))) / 24)))) 170 (((yLyB (yM h) (yP1 (yM h)) (yToA (yM h)) (yW1 (yM h)) (qL16).toNat) 37 64).toNat) qL16) 171 (((yLyB (yM h) (yP1 (yM h)) (yToA (yM h)) (yW1 (yM h)) (qL16).toNat) 37 64).toNat) ((yLyB (yM h) (yP1 (yM h)) (yToA (yM h)) (yW1 (yM h)) (qL16).toNat) 37 0)) := by rw [yM_w (a := 171) (n := 300) (i := v38.toNat) (kd := 20) rfl (Ih37.s (a1 := 171) (a2 := 171) (by decide +kernel) (by decide) (by decide)) jbh40.2 eh40, Zh37, sv39, sv38]
                have Rh40 : zMR ms194 h h40 := Rh37.w (a1 := 171) (a2 := 171) (j1 := 0) (j2 := 300) (by decide +kernel) (by first | decide | exact ⟨by decide, by decide⟩) jbh40 eh40
                refine zwW_p [(1, 0, 2)] (q := 153) (ls' := [(2, 37), (0, v3), (0, qL16)]) (st' := [(2, 37)]) (by decide +kernel) rfl ?_
                refine zwW_gc Ih40 (kd := 13) (bn := 60) (n := 97) (c := 172) (nx := 156) (by decide +kernel) ?_
                refine zwW_p [(1, 0, 2)] (q := 157) (ls' := [(2, 37), (0, v3), (0, qL16)]) (st' := [(2, 37), (2, 172)]) (by decide +kernel) rfl ?_
                refine zwW_gs Ih40 (kd := 13) (bn := 64) (n := 97) (t := 0) (lo := 0) (hi := 300) (nx := 160) (by decide +kernel) ?_
                intro v41 ev41 lv41 uv41
                have sv41 : v41 = (yLyB (yM h) (yP1 (yM h)) (yToA (yM h)) (yW1 (yM h)) (qL16).toNat) 37 64 := Eq.trans ev41 (Eq.trans (Eq.symm (yM_s (h := h40) (i := 64) rfl)) (Eq.trans (congrFun (congrFun Zh40 37) 64) (Eq.trans (zs_na (by decide) : (zs (zs (zs (yLyB (yM h) (yP1 (yM h)) (yToA (yM h)) (yW1 (yM h)) (qL16).toNat) 95 qL16.toNat (w32 (((yLyB (yM h) (yP1 (yM h)) (yToA (yM h)) (yW1 (yM h)) (qL16).toNat) 95 qL16.toNat) + (((((yLyB (yM h) (yP1 (yM h)) (yToA (yM h)) (yW1 (yM h)) (qL16).toNat) 80 qL16.toNat) * ((yLyB (yM h) (yP1 (yM h)) (yToA (yM h)) (yW1 (yM h)) (qL16).toNat) 39 (4 * v21.toNat + v23.toNat))) * (10 + ((yLyB (yM h) (yP1 (yM h)) (yToA (yM h)) (yW1 (yM h)) (qL16).toNat) 81 qL16.toNat))) / 24)))) 170 (((yLyB (yM h) (yP1 (yM h)) (yToA (yM h)) (yW1 (yM h)) (qL16).toNat) 37 64).toNat) qL16) 171 (((yLyB (yM h) (yP1 (yM h)) (yToA (yM h)) (yW1 (yM h)) (qL16).toNat) 37 64).toNat) ((yLyB (yM h) (yP1 (yM h)) (yToA (yM h)) (yW1 (yM h)) (qL16).toNat) 37 0)) 37 64 = (zs (zs (yLyB (yM h) (yP1 (yM h)) (yToA (yM h)) (yW1 (yM h)) (qL16).toNat) 95 qL16.toNat (w32 (((yLyB (yM h) (yP1 (yM h)) (yToA (yM h)) (yW1 (yM h)) (qL16).toNat) 95 qL16.toNat) + (((((yLyB (yM h) (yP1 (yM h)) (yToA (yM h)) (yW1 (yM h)) (qL16).toNat) 80 qL16.toNat) * ((yLyB (yM h) (yP1 (yM h)) (yToA (yM h)) (yW1 (yM h)) (qL16).toNat) 39 (4 * v21.toNat + v23.toNat))) * (10 + ((yLyB (yM h) (yP1 (yM h)) (yToA (yM h)) (yW1 (yM h)) (qL16).toNat) 81 qL16.toNat))) / 24)))) 170 (((yLyB (yM h) (yP1 (yM h)) (yToA (yM h)) (yW1 (yM h)) (qL16).toNat) 37 64).toNat) qL16) 37 64) (Eq.trans (zs_na (by decide) : (zs (zs (yLyB (yM h) (yP1 (yM h)) (yToA (yM h)) (yW1 (yM h)) (qL16).toNat) 95 qL16.toNat (w32 (((yLyB (yM h) (yP1 (yM h)) (yToA (yM h)) (yW1 (yM h)) (qL16).toNat) 95 qL16.toNat) + (((((yLyB (yM h) (yP1 (yM h)) (yToA (yM h)) (yW1 (yM h)) (qL16).toNat) 80 qL16.toNat) * ((yLyB (yM h) (yP1 (yM h)) (yToA (yM h)) (yW1 (yM h)) (qL16).toNat) 39 (4 * v21.toNat + v23.toNat))) * (10 + ((yLyB (yM h) (yP1 (yM h)) (yToA (yM h)) (yW1 (yM h)) (qL16).toNat) 81 qL16.toNat))) / 24)))) 170 (((yLyB (yM h) (yP1 (yM h)) (yToA (yM h)) (yW1 (yM h)) (qL16).toNat) 37 64).toNat) qL16) 37 64 = (zs (yLyB (yM h) (yP1 (yM h)) (yToA (yM h)) (yW1 (yM h)) (qL16).toNat) 95 qL16.toNat (w32 (((yLyB (yM h) (yP1 (yM h)) (yToA (yM h)) (yW1 (yM h)) (qL16).toNat) 95 qL16.toNat) + (((((yLyB (yM h) (yP1 (yM h)) (yToA (yM h)) (yW1 (yM h)) (qL16).toNat) 80 qL16.toNat) * ((yLyB (yM h) (yP1 (yM h)) (yToA (yM h)) (yW1 (yM h)) (qL16).toNat) 39 (4 * v21.toNat + v23.toNat))) * (10 + ((yLyB (yM h) (yP1 (yM h)) (yToA (yM h)) (yW1 (yM h)) (qL16).toNat) 81 qL16.toNat))) / 24)))) 37 64) (Eq.trans (zs_na (by decide) : (zs (yLyB (yM h) (yP1 (yM h)) (yToA (yM h)) (yW1 (yM h)) (qL16).toNat) 95 qL16.toNat (w32 (((yLyB (yM h) (yP1 (yM h)) (yToA (yM h)) (yW1 (yM h)) (qL16).toNat) 95 qL16.toNat) + (((((yLyB (yM h) (yP1 (yM h)) (yToA (yM h)) (yW1 (yM h)) (qL16).toNat) 80 qL16.toNat) * ((yLyB (yM h) (yP1 (yM h)) (yToA (yM h)) (yW1 (yM h)) (qL16).toNat) 39 (4 * v21.toNat + v23.toNat))) * (10 + ((yLyB (yM h) (yP1 (yM h)) (yToA (yM h)) (yW1 (yM h)) (qL16).toNat) 81 qL16.toNat))) / 24)))) 37 64 = (yLyB (yM h) (yP1 (yM h)) (yToA (yM h)) (yW1 (yM h)) (qL16).toNat) 37 64) rfl)))))
                refine zwW_p [(1, 0, 2)] (q := 161) (ls' := [(2, 37), (0, v3), (0, qL16)]) (st' := [(2, 37), (0, v41), (2, 172)]) (by decide +kernel) rfl ?_
                refine zwW_gc Ih40 (kd := 13) (bn := 26) (n := 97) (c := 85) (nx := 164) (by decide +kernel) ?_
                refine zwW_p [(1, 2, 0)] (q := 165) (ls' := [(2, 37), (0, v3), (0, qL16)]) (st' := [(0, qL16), (2, 85), (0, v41), (2, 172)]) (by decide +kernel) rfl ?_
                refine zwW_al Ih40 (a1 := 85) (a2 := 85) (kd := 20) (n := 20) (t := 0) (lo := 0) (hi := 60) (nx := 166) (by decide +kernel) (by first | decide | exact ⟨by decide, by decide⟩) ib1 ?_
                intro v42 ev42 lv42 uv42
                have sv42 : v42 = (yLyB (yM h) (yP1 (yM h)) (yToA (yM h)) (yW1 (yM h)) (qL16).toNat) 85 qL16.toNat := Eq.trans ev42 (Eq.trans (Eq.symm (yM_p (h := h40) (a := 85) (n := 20) (i := qL16.toNat) rfl (zit ib1))) (Eq.trans (congrFun (congrFun Zh40 85) qL16.toNat) (Eq.trans (zs_na (by decide) : (zs (zs (zs (yLyB (yM h) (yP1 (yM h)) (yToA (yM h)) (yW1 (yM h)) (qL16).toNat) 95 qL16.toNat (w32 (((yLyB (yM h) (yP1 (yM h)) (yToA (yM h)) (yW1 (yM h)) (qL16).toNat) 95 qL16.toNat) + (((((yLyB (yM h) (yP1 (yM h)) (yToA (yM h)) (yW1 (yM h)) (qL16).toNat) 80 qL16.toNat) * ((yLyB (yM h) (yP1 (yM h)) (yToA (yM h)) (yW1 (yM h)) (qL16).toNat) 39 (4 * v21.toNat + v23.toNat))) * (10 + ((yLyB (yM h) (yP1 (yM h)) (yToA (yM h)) (yW1 (yM h)) (qL16).toNat) 81 qL16.toNat))) / 24)))) 170 (((yLyB (yM h) (yP1 (yM h)) (yToA (yM h)) (yW1 (yM h)) (qL16).toNat) 37 64).toNat) qL16) 171 (((yLyB (yM h) (yP1 (yM h)) (yToA (yM h)) (yW1 (yM h)) (qL16).toNat) 37 64).toNat) ((yLyB (yM h) (yP1 (yM h)) (yToA (yM h)) (yW1 (yM h)) (qL16).toNat) 37 0)) 85 qL16.toNat = (zs (zs (yLyB (yM h) (yP1 (yM h)) (yToA (yM h)) (yW1 (yM h)) (qL16).toNat) 95 qL16.toNat (w32 (((yLyB (yM h) (yP1 (yM h)) (yToA (yM h)) (yW1 (yM h)) (qL16).toNat) 95 qL16.toNat) + (((((yLyB (yM h) (yP1 (yM h)) (yToA (yM h)) (yW1 (yM h)) (qL16).toNat) 80 qL16.toNat) * ((yLyB (yM h) (yP1 (yM h)) (yToA (yM h)) (yW1 (yM h)) (qL16).toNat) 39 (4 * v21.toNat + v23.toNat))) * (10 + ((yLyB (yM h) (yP1 (yM h)) (yToA (yM h)) (yW1 (yM h)) (qL16).toNat) 81 qL16.toNat))) / 24)))) 170 (((yLyB (yM h) (yP1 (yM h)) (yToA (yM h)) (yW1 (yM h)) (qL16).toNat) 37 64).toNat) qL16) 85 qL16.toNat) (Eq.trans (zs_na (by decide) : (zs (zs (yLyB (yM h) (yP1 (yM h)) (yToA (yM h)) (yW1 (yM h)) (qL16).toNat) 95 qL16.toNat (w32 (((yLyB (yM h) (yP1 (yM h)) (yToA (yM h)) (yW1 (yM h)) (qL16).toNat) 95 qL16.toNat) + (((((yLyB (yM h) (yP1 (yM h)) (yToA (yM h)) (yW1 (yM h)) (qL16).toNat) 80 qL16.toNat) * ((yLyB (yM h) (yP1 (yM h)) (yToA (yM h)) (yW1 (yM h)) (qL16).toNat) 39 (4 * v21.toNat + v23.toNat))) * (10 + ((yLyB (yM h) (yP1 (yM h)) (yToA (yM h)) (yW1 (yM h)) (qL16).toNat) 81 qL16.toNat))) / 24)))) 170 (((yLyB (yM h) (yP1 (yM h)) (yToA (yM h)) (yW1 (yM h)) (qL16).toNat) 37 64).toNat) qL16) 85 qL16.toNat = (zs (yLyB (yM h) (yP1 (yM h)) (yToA (yM h)) (yW1 (yM h)) (qL16).toNat) 95 qL16.toNat (w32 (((yLyB (yM h) (yP1 (yM h)) (yToA (yM h)) (yW1 (yM h)) (qL16).toNat) 95 qL16.toNat) + (((((yLyB (yM h) (yP1 (yM h)) (yToA (yM h)) (yW1 (yM h)) (qL16).toNat) 80 qL16.toNat) * ((yLyB (yM h) (yP1 (yM h)) (yToA (yM h)) (yW1 (yM h)) (qL16).toNat) 39 (4 * v21.toNat + v23.toNat))) * (10 + ((yLyB (yM h) (yP1 (yM h)) (yToA (yM h)) (yW1 (yM h)) (qL16).toNat) 81 qL16.toNat))) / 24)))) 85 qL16.toNat) (Eq.trans (zs_na (by decide) : (zs (yLyB (yM h) (yP1 (yM h)) (yToA (yM h)) (yW1 (yM h)) (qL16).toNat) 95 qL16.toNat (w32 (((yLyB (yM h) (yP1 (yM h)) (yToA (yM h)) (yW1 (yM h)) (qL16).toNat) 95 qL16.toNat) + (((((yLyB (yM h) (yP1 (yM h)) (yToA (yM h)) (yW1 (yM h)) (qL16).toNat) 80 qL16.toNat) * ((yLyB (yM h) (yP1 (yM h)) (yToA (yM h)) (yW1 (yM h)) (qL16).toNat) 39 (4 * v21.toNat + v23.toNat))) * (10 + ((yLyB (yM h) (yP1 (yM h)) (yToA (yM h)) (yW1 (yM h)) (qL16).toNat) 81 qL16.toNat))) / 24)))) 85 qL16.toNat = (yLyB (yM h) (yP1 (yM h)) (yToA (yM h)) (yW1 (yM h)) (qL16).toNat) 85 qL16.toNat) rfl)))))
                have ib5 : 0 ≤ v41 ∧ v41 < ((300 : Nat) : Int) := (by first | omega | exact ⟨by omega, by omega⟩)
                refine zwW_as Ih40 (a1 := 172) (a2 := 172) (n := 300) (lo := -2147483648) (hi := 2147483647) (nx := 167) (by decide +kernel) (by first | decide | exact ⟨by decide, by decide⟩) ib5 (by first | omega | exact ⟨by omega, by omega⟩) ?_
                intro h43 eh43 Ih43
                have jbh43 : 0 ≤ v41.toNat ∧ v41.toNat < 300 := ⟨Nat.zero_le _, zit ib5⟩
                have th43_37_0 : fld h43 37 0 = fld h40 37 0 := by rw [eh43]; exact fld_wr (Or.inl (by decide))
                have th43_37_1 : fld h43 37 1 = fld h40 37 1 := by rw [eh43]; exact fld_wr (Or.inl (by decide))
                have th43_37_2 : fld h43 37 2 = fld h40 37 2 := by rw [eh43]; exact fld_wr (Or.inl (by decide))
                have th43_37_64 : fld h43 37 64 = fld h40 37 64 := by rw [eh43]; exact fld_wr (Or.inl (by decide))
                have Kh43_176 : fld h43 176 = fld h7 176 := (funext fun j => fld_oth eh43 (Or.inl (by decide))).trans Kh40_176
                have Kh43_66 : fld h43 66 = fld hL13 66 := (funext fun j => fld_oth eh43 (Or.inl (by decide))).trans Kh40_66
                have Zh43 : yM h43 = (zs (zs (zs (zs (yLyB (yM h) (yP1 (yM h)) (yToA (yM h)) (yW1 (yM h)) (qL16).toNat) 95 qL16.toNat (w32 (((yLyB (yM h) (yP1 (yM h)) (yToA (yM h)) (yW1 (yM h)) (qL16).toNat) 95 qL16.toNat) + (((((yLyB (yM h) (yP1 (yM h)) (yToA (yM h)) (yW1 (yM h)) (qL16).toNat) 80 qL16.toNat) * ((yLyB (yM h) (yP1 (yM h)) (yToA (yM h)) (yW1 (yM h)) (qL16).toNat) 39 (4 * v21.toNat + v23.toNat))) * (10 + ((yLyB (yM h) (yP1 (yM h)) (yToA (yM h)) (yW1 (yM h)) (qL16).toNat) 81 qL16.toNat))) / 24)))) 170 (((yLyB (yM h) (yP1 (yM h)) (yToA (yM h)) (yW1 (yM h)) (qL16).toNat) 37 64).toNat) qL16) 171 (((yLyB (yM h) (yP1 (yM h)) (yToA (yM h)) (yW1 (yM h)) (qL16).toNat) 37 64).toNat) ((yLyB (yM h) (yP1 (yM h)) (yToA (yM h)) (yW1 (yM h)) (qL16).toNat) 37 0)) 172 (((yLyB (yM h) (yP1 (yM h)) (yToA (yM h)) (yW1 (yM h)) (qL16).toNat) 37 64).toNat) ((yLyB (yM h) (yP1 (yM h)) (yToA (yM h)) (yW1 (yM h)) (qL16).toNat) 85 qL16.toNat)) := by rw [yM_w (a := 172) (n := 300) (i := v41.toNat) (kd := 20) rfl (Ih40.s (a1 := 172) (a2 := 172) (by decide +kernel) (by decide) (by decide)) jbh43.2 eh43, Zh40, sv42, sv41]
                have Rh43 : zMR ms194 h h43 := Rh40.w (a1 := 172) (a2 := 172) (j1 := 0) (j2 := 300) (by decide +kernel) (by first | decide | exact ⟨by decide, by decide⟩) jbh43 eh43
                refine zwW_p [(1, 0, 2)] (q := 168) (ls' := [(2, 37), (0, v3), (0, qL16)]) (st' := [(2, 37)]) (by decide +kernel) rfl ?_
                refine zwW_gc Ih43 (kd := 13) (bn := 61) (n := 97) (c := 173) (nx := 171) (by decide +kernel) ?_
                refine zwW_p [(1, 0, 2)] (q := 172) (ls' := [(2, 37), (0, v3), (0, qL16)]) (st' := [(2, 37), (2, 173)]) (by decide +kernel) rfl ?_
                refine zwW_gs Ih43 (kd := 13) (bn := 64) (n := 97) (t := 0) (lo := 0) (hi := 300) (nx := 175) (by decide +kernel) ?_
                intro v44 ev44 lv44 uv44
                have sv44 : v44 = (yLyB (yM h) (yP1 (yM h)) (yToA (yM h)) (yW1 (yM h)) (qL16).toNat) 37 64 := Eq.trans ev44 (Eq.trans (Eq.symm (yM_s (h := h43) (i := 64) rfl)) (Eq.trans (congrFun (congrFun Zh43 37) 64) (Eq.trans (zs_na (by decide) : (zs (zs (zs (zs (yLyB (yM h) (yP1 (yM h)) (yToA (yM h)) (yW1 (yM h)) (qL16).toNat) 95 qL16.toNat (w32 (((yLyB (yM h) (yP1 (yM h)) (yToA (yM h)) (yW1 (yM h)) (qL16).toNat) 95 qL16.toNat) + (((((yLyB (yM h) (yP1 (yM h)) (yToA (yM h)) (yW1 (yM h)) (qL16).toNat) 80 qL16.toNat) * ((yLyB (yM h) (yP1 (yM h)) (yToA (yM h)) (yW1 (yM h)) (qL16).toNat) 39 (4 * v21.toNat + v23.toNat))) * (10 + ((yLyB (yM h) (yP1 (yM h)) (yToA (yM h)) (yW1 (yM h)) (qL16).toNat) 81 qL16.toNat))) / 24)))) 170 (((yLyB (yM h) (yP1 (yM h)) (yToA (yM h)) (yW1 (yM h)) (qL16).toNat) 37 64).toNat) qL16) 171 (((yLyB (yM h) (yP1 (yM h)) (yToA (yM h)) (yW1 (yM h)) (qL16).toNat) 37 64).toNat) ((yLyB (yM h) (yP1 (yM h)) (yToA (yM h)) (yW1 (yM h)) (qL16).toNat) 37 0)) 172 (((yLyB (yM h) (yP1 (yM h)) (yToA (yM h)) (yW1 (yM h)) (qL16).toNat) 37 64).toNat) ((yLyB (yM h) (yP1 (yM h)) (yToA (yM h)) (yW1 (yM h)) (qL16).toNat) 85 qL16.toNat)) 37 64 = (zs (zs (zs (yLyB (yM h) (yP1 (yM h)) (yToA (yM h)) (yW1 (yM h)) (qL16).toNat) 95 qL16.toNat (w32 (((yLyB (yM h) (yP1 (yM h)) (yToA (yM h)) (yW1 (yM h)) (qL16).toNat) 95 qL16.toNat) + (((((yLyB (yM h) (yP1 (yM h)) (yToA (yM h)) (yW1 (yM h)) (qL16).toNat) 80 qL16.toNat) * ((yLyB (yM h) (yP1 (yM h)) (yToA (yM h)) (yW1 (yM h)) (qL16).toNat) 39 (4 * v21.toNat + v23.toNat))) * (10 + ((yLyB (yM h) (yP1 (yM h)) (yToA (yM h)) (yW1 (yM h)) (qL16).toNat) 81 qL16.toNat))) / 24)))) 170 (((yLyB (yM h) (yP1 (yM h)) (yToA (yM h)) (yW1 (yM h)) (qL16).toNat) 37 64).toNat) qL16) 171 (((yLyB (yM h) (yP1 (yM h)) (yToA (yM h)) (yW1 (yM h)) (qL16).toNat) 37 64).toNat) ((yLyB (yM h) (yP1 (yM h)) (yToA (yM h)) (yW1 (yM h)) (qL16).toNat) 37 0)) 37 64) (Eq.trans (zs_na (by decide) : (zs (zs (zs (yLyB (yM h) (yP1 (yM h)) (yToA (yM h)) (yW1 (yM h)) (qL16).toNat) 95 qL16.toNat (w32 (((yLyB (yM h) (yP1 (yM h)) (yToA (yM h)) (yW1 (yM h)) (qL16).toNat) 95 qL16.toNat) + (((((yLyB (yM h) (yP1 (yM h)) (yToA (yM h)) (yW1 (yM h)) (qL16).toNat) 80 qL16.toNat) * ((yLyB (yM h) (yP1 (yM h)) (yToA (yM h)) (yW1 (yM h)) (qL16).toNat) 39 (4 * v21.toNat + v23.toNat))) * (10 + ((yLyB (yM h) (yP1 (yM h)) (yToA (yM h)) (yW1 (yM h)) (qL16).toNat) 81 qL16.toNat))) / 24)))) 170 (((yLyB (yM h) (yP1 (yM h)) (yToA (yM h)) (yW1 (yM h)) (qL16).toNat) 37 64).toNat) qL16) 171 (((yLyB (yM h) (yP1 (yM h)) (yToA (yM h)) (yW1 (yM h)) (qL16).toNat) 37 64).toNat) ((yLyB (yM h) (yP1 (yM h)) (yToA (yM h)) (yW1 (yM h)) (qL16).toNat) 37 0)) 37 64 = (zs (zs (yLyB (yM h) (yP1 (yM h)) (yToA (yM h)) (yW1 (yM h)) (qL16).toNat) 95 qL16.toNat (w32 (((yLyB (yM h) (yP1 (yM h)) (yToA (yM h)) (yW1 (yM h)) (qL16).toNat) 95 qL16.toNat) + (((((yLyB (yM h) (yP1 (yM h)) (yToA (yM h)) (yW1 (yM h)) (qL16).toNat) 80 qL16.toNat) * ((yLyB (yM h) (yP1 (yM h)) (yToA (yM h)) (yW1 (yM h)) (qL16).toNat) 39 (4 * v21.toNat + v23.toNat))) * (10 + ((yLyB (yM h) (yP1 (yM h)) (yToA (yM h)) (yW1 (yM h)) (qL16).toNat) 81 qL16.toNat))) / 24)))) 170 (((yLyB (yM h) (yP1 (yM h)) (yToA (yM h)) (yW1 (yM h)) (qL16).toNat) 37 64).toNat) qL16) 37 64) (Eq.trans (zs_na (by decide) : (zs (zs (yLyB (yM h) (yP1 (yM h)) (yToA (yM h)) (yW1 (yM h)) (qL16).toNat) 95 qL16.toNat (w32 (((yLyB (yM h) (yP1 (yM h)) (yToA (yM h)) (yW1 (yM h)) (qL16).toNat) 95 qL16.toNat) + (((((yLyB (yM h) (yP1 (yM h)) (yToA (yM h)) (yW1 (yM h)) (qL16).toNat) 80 qL16.toNat) * ((yLyB (yM h) (yP1 (yM h)) (yToA (yM h)) (yW1 (yM h)) (qL16).toNat) 39 (4 * v21.toNat + v23.toNat))) * (10 + ((yLyB (yM h) (yP1 (yM h)) (yToA (yM h)) (yW1 (yM h)) (qL16).toNat) 81 qL16.toNat))) / 24)))) 170 (((yLyB (yM h) (yP1 (yM h)) (yToA (yM h)) (yW1 (yM h)) (qL16).toNat) 37 64).toNat) qL16) 37 64 = (zs (yLyB (yM h) (yP1 (yM h)) (yToA (yM h)) (yW1 (yM h)) (qL16).toNat) 95 qL16.toNat (w32 (((yLyB (yM h) (yP1 (yM h)) (yToA (yM h)) (yW1 (yM h)) (qL16).toNat) 95 qL16.toNat) + (((((yLyB (yM h) (yP1 (yM h)) (yToA (yM h)) (yW1 (yM h)) (qL16).toNat) 80 qL16.toNat) * ((yLyB (yM h) (yP1 (yM h)) (yToA (yM h)) (yW1 (yM h)) (qL16).toNat) 39 (4 * v21.toNat + v23.toNat))) * (10 + ((yLyB (yM h) (yP1 (yM h)) (yToA (yM h)) (yW1 (yM h)) (qL16).toNat) 81 qL16.toNat))) / 24)))) 37 64) (Eq.trans (zs_na (by decide) : (zs (yLyB (yM h) (yP1 (yM h)) (yToA (yM h)) (yW1 (yM h)) (qL16).toNat) 95 qL16.toNat (w32 (((yLyB (yM h) (yP1 (yM h)) (yToA (yM h)) (yW1 (yM h)) (qL16).toNat) 95 qL16.toNat) + (((((yLyB (yM h) (yP1 (yM h)) (yToA (yM h)) (yW1 (yM h)) (qL16).toNat) 80 qL16.toNat) * ((yLyB (yM h) (yP1 (yM h)) (yToA (yM h)) (yW1 (yM h)) (qL16).toNat) 39 (4 * v21.toNat + v23.toNat))) * (10 + ((yLyB (yM h) (yP1 (yM h)) (yToA (yM h)) (yW1 (yM h)) (qL16).toNat) 81 qL16.toNat))) / 24)))) 37 64 = (yLyB (yM h) (yP1 (yM h)) (yToA (yM h)) (yW1 (yM h)) (qL16).toNat) 37 64) rfl))))))
                refine zwW_p [(1, 0, 2), (1, 2, 0), (1, 0, 2)] (q := 178) (ls' := [(2, 37), (0, v3), (0, qL16)]) (st' := [(2, 37), (0, qL16), (2, 37), (0, v44), (2, 173)]) (by decide +kernel) rfl ?_
                refine zwW_gc Ih43 (kd := 13) (bn := 22) (n := 97) (c := 81) (nx := 181) (by decide +kernel) ?_
                refine zwW_p [(1, 2, 0)] (q := 182) (ls' := [(2, 37), (0, v3), (0, qL16)]) (st' := [(0, qL16), (2, 81), (0, qL16), (2, 37), (0, v44), (2, 173)]) (by decide +kernel) rfl ?_
                refine zwW_al Ih43 (a1 := 81) (a2 := 81) (kd := 20) (n := 20) (t := 0) (lo := 0) (hi := 9) (nx := 183) (by decide +kernel) (by first | decide | exact ⟨by decide, by decide⟩) ib1 ?_
                intro v45 ev45 lv45 uv45
                have sv45 : v45 = (yLyB (yM h) (yP1 (yM h)) (yToA (yM h)) (yW1 (yM h)) (qL16).toNat) 81 qL16.toNat := Eq.trans ev45 (Eq.trans (Eq.symm (yM_p (h := h43) (a := 81) (n := 20) (i := qL16.toNat) rfl (zit ib1))) (Eq.trans (congrFun (congrFun Zh43 81) qL16.toNat) (Eq.trans (zs_na (by decide) : (zs (zs (zs (zs (yLyB (yM h) (yP1 (yM h)) (yToA (yM h)) (yW1 (yM h)) (qL16).toNat) 95 qL16.toNat (w32 (((yLyB (yM h) (yP1 (yM h)) (yToA (yM h)) (yW1 (yM h)) (qL16).toNat) 95 qL16.toNat) + (((((yLyB (yM h) (yP1 (yM h)) (yToA (yM h)) (yW1 (yM h)) (qL16).toNat) 80 qL16.toNat) * ((yLyB (yM h) (yP1 (yM h)) (yToA (yM h)) (yW1 (yM h)) (qL16).toNat) 39 (4 * v21.toNat + v23.toNat))) * (10 + ((yLyB (yM h) (yP1 (yM h)) (yToA (yM h)) (yW1 (yM h)) (qL16).toNat) 81 qL16.toNat))) / 24)))) 170 (((yLyB (yM h) (yP1 (yM h)) (yToA (yM h)) (yW1 (yM h)) (qL16).toNat) 37 64).toNat) qL16) 171 (((yLyB (yM h) (yP1 (yM h)) (yToA (yM h)) (yW1 (yM h)) (qL16).toNat) 37 64).toNat) ((yLyB (yM h) (yP1 (yM h)) (yToA (yM h)) (yW1 (yM h)) (qL16).toNat) 37 0)) 172 (((yLyB (yM h) (yP1 (yM h)) (yToA (yM h)) (yW1 (yM h)) (qL16).toNat) 37 64).toNat) ((yLyB (yM h) (yP1 (yM h)) (yToA (yM h)) (yW1 (yM h)) (qL16).toNat) 85 qL16.toNat)) 81 qL16.toNat = (zs (zs (zs (yLyB (yM h) (yP1 (yM h)) (yToA (yM h)) (yW1 (yM h)) (qL16).toNat) 95 qL16.toNat (w32 (((yLyB (yM h) (yP1 (yM h)) (yToA (yM h)) (yW1 (yM h)) (qL16).toNat) 95 qL16.toNat) + (((((yLyB (yM h) (yP1 (yM h)) (yToA (yM h)) (yW1 (yM h)) (qL16).toNat) 80 qL16.toNat) * ((yLyB (yM h) (yP1 (yM h)) (yToA (yM h)) (yW1 (yM h)) (qL16).toNat) 39 (4 * v21.toNat + v23.toNat))) * (10 + ((yLyB (yM h) (yP1 (yM h)) (yToA (yM h)) (yW1 (yM h)) (qL16).toNat) 81 qL16.toNat))) / 24)))) 170 (((yLyB (yM h) (yP1 (yM h)) (yToA (yM h)) (yW1 (yM h)) (qL16).toNat) 37 64).toNat) qL16) 171 (((yLyB (yM h) (yP1 (yM h)) (yToA (yM h)) (yW1 (yM h)) (qL16).toNat) 37 64).toNat) ((yLyB (yM h) (yP1 (yM h)) (yToA (yM h)) (yW1 (yM h)) (qL16).toNat) 37 0)) 81 qL16.toNat) (Eq.trans (zs_na (by decide) : (zs (zs (zs (yLyB (yM h) (yP1 (yM h)) (yToA (yM h)) (yW1 (yM h)) (qL16).toNat) 95 qL16.toNat (w32 (((yLyB (yM h) (yP1 (yM h)) (yToA (yM h)) (yW1 (yM h)) (qL16).toNat) 95 qL16.toNat) + (((((yLyB (yM h) (yP1 (yM h)) (yToA (yM h)) (yW1 (yM h)) (qL16).toNat) 80 qL16.toNat) * ((yLyB (yM h) (yP1 (yM h)) (yToA (yM h)) (yW1 (yM h)) (qL16).toNat) 39 (4 * v21.toNat + v23.toNat))) * (10 + ((yLyB (yM h) (yP1 (yM h)) (yToA (yM h)) (yW1 (yM h)) (qL16).toNat) 81 qL16.toNat))) / 24)))) 170 (((yLyB (yM h) (yP1 (yM h)) (yToA (yM h)) (yW1 (yM h)) (qL16).toNat) 37 64).toNat) qL16) 171 (((yLyB (yM h) (yP1 (yM h)) (yToA (yM h)) (yW1 (yM h)) (qL16).toNat) 37 64).toNat) ((yLyB (yM h) (yP1 (yM h)) (yToA (yM h)) (yW1 (yM h)) (qL16).toNat) 37 0)) 81 qL16.toNat = (zs (zs (yLyB (yM h) (yP1 (yM h)) (yToA (yM h)) (yW1 (yM h)) (qL16).toNat) 95 qL16.toNat (w32 (((yLyB (yM h) (yP1 (yM h)) (yToA (yM h)) (yW1 (yM h)) (qL16).toNat) 95 qL16.toNat) + (((((yLyB (yM h) (yP1 (yM h)) (yToA (yM h)) (yW1 (yM h)) (qL16).toNat) 80 qL16.toNat) * ((yLyB (yM h) (yP1 (yM h)) (yToA (yM h)) (yW1 (yM h)) (qL16).toNat) 39 (4 * v21.toNat + v23.toNat))) * (10 + ((yLyB (yM h) (yP1 (yM h)) (yToA (yM h)) (yW1 (yM h)) (qL16).toNat) 81 qL16.toNat))) / 24)))) 170 (((yLyB (yM h) (yP1 (yM h)) (yToA (yM h)) (yW1 (yM h)) (qL16).toNat) 37 64).toNat) qL16) 81 qL16.toNat) (Eq.trans (zs_na (by decide) : (zs (zs (yLyB (yM h) (yP1 (yM h)) (yToA (yM h)) (yW1 (yM h)) (qL16).toNat) 95 qL16.toNat (w32 (((yLyB (yM h) (yP1 (yM h)) (yToA (yM h)) (yW1 (yM h)) (qL16).toNat) 95 qL16.toNat) + (((((yLyB (yM h) (yP1 (yM h)) (yToA (yM h)) (yW1 (yM h)) (qL16).toNat) 80 qL16.toNat) * ((yLyB (yM h) (yP1 (yM h)) (yToA (yM h)) (yW1 (yM h)) (qL16).toNat) 39 (4 * v21.toNat + v23.toNat))) * (10 + ((yLyB (yM h) (yP1 (yM h)) (yToA (yM h)) (yW1 (yM h)) (qL16).toNat) 81 qL16.toNat))) / 24)))) 170 (((yLyB (yM h) (yP1 (yM h)) (yToA (yM h)) (yW1 (yM h)) (qL16).toNat) 37 64).toNat) qL16) 81 qL16.toNat = (zs (yLyB (yM h) (yP1 (yM h)) (yToA (yM h)) (yW1 (yM h)) (qL16).toNat) 95 qL16.toNat (w32 (((yLyB (yM h) (yP1 (yM h)) (yToA (yM h)) (yW1 (yM h)) (qL16).toNat) 95 qL16.toNat) + (((((yLyB (yM h) (yP1 (yM h)) (yToA (yM h)) (yW1 (yM h)) (qL16).toNat) 80 qL16.toNat) * ((yLyB (yM h) (yP1 (yM h)) (yToA (yM h)) (yW1 (yM h)) (qL16).toNat) 39 (4 * v21.toNat + v23.toNat))) * (10 + ((yLyB (yM h) (yP1 (yM h)) (yToA (yM h)) (yW1 (yM h)) (qL16).toNat) 81 qL16.toNat))) / 24)))) 81 qL16.toNat) (Eq.trans (zs_na (by decide) : (zs (yLyB (yM h) (yP1 (yM h)) (yToA (yM h)) (yW1 (yM h)) (qL16).toNat) 95 qL16.toNat (w32 (((yLyB (yM h) (yP1 (yM h)) (yToA (yM h)) (yW1 (yM h)) (qL16).toNat) 95 qL16.toNat) + (((((yLyB (yM h) (yP1 (yM h)) (yToA (yM h)) (yW1 (yM h)) (qL16).toNat) 80 qL16.toNat) * ((yLyB (yM h) (yP1 (yM h)) (yToA (yM h)) (yW1 (yM h)) (qL16).toNat) 39 (4 * v21.toNat + v23.toNat))) * (10 + ((yLyB (yM h) (yP1 (yM h)) (yToA (yM h)) (yW1 (yM h)) (qL16).toNat) 81 qL16.toNat))) / 24)))) 81 qL16.toNat = (yLyB (yM h) (yP1 (yM h)) (yToA (yM h)) (yW1 (yM h)) (qL16).toNat) 81 qL16.toNat) rfl))))))
                refine zwW_cm Ih43 (op := 60) (k' := 175) (n := 2) (kd := 13) (m := 97) (nx := 186) (r := 37) (tl := [(0, qL16), (0, v45)]) (st' := [(0, v44), (2, 173)]) (by decide +kernel) rfl (by decide +kernel) rfl (m175_z h43 Ih43 qL16 v45 (by omega) (by omega)) ?_
                rintro v46 _ ⟨rfl, f47, f48, f49⟩
                have sv46 : v46 = yStq (zs (zs (zs (zs (yLyB (yM h) (yP1 (yM h)) (yToA (yM h)) (yW1 (yM h)) (qL16).toNat) 95 qL16.toNat (w32 (((yLyB (yM h) (yP1 (yM h)) (yToA (yM h)) (yW1 (yM h)) (qL16).toNat) 95 qL16.toNat) + (((((yLyB (yM h) (yP1 (yM h)) (yToA (yM h)) (yW1 (yM h)) (qL16).toNat) 80 qL16.toNat) * ((yLyB (yM h) (yP1 (yM h)) (yToA (yM h)) (yW1 (yM h)) (qL16).toNat) 39 (4 * v21.toNat + v23.toNat))) * (10 + ((yLyB (yM h) (yP1 (yM h)) (yToA (yM h)) (yW1 (yM h)) (qL16).toNat) 81 qL16.toNat))) / 24)))) 170 (((yLyB (yM h) (yP1 (yM h)) (yToA (yM h)) (yW1 (yM h)) (qL16).toNat) 37 64).toNat) qL16) 171 (((yLyB (yM h) (yP1 (yM h)) (yToA (yM h)) (yW1 (yM h)) (qL16).toNat) 37 64).toNat) ((yLyB (yM h) (yP1 (yM h)) (yToA (yM h)) (yW1 (yM h)) (qL16).toNat) 37 0)) 172 (((yLyB (yM h) (yP1 (yM h)) (yToA (yM h)) (yW1 (yM h)) (qL16).toNat) 37 64).toNat) ((yLyB (yM h) (yP1 (yM h)) (yToA (yM h)) (yW1 (yM h)) (qL16).toNat) 85 qL16.toNat)) qL16.toNat ((yLyB (yM h) (yP1 (yM h)) (yToA (yM h)) (yW1 (yM h)) (qL16).toNat) 81 qL16.toNat) := by rw [f49, Zh43, sv45]
                have ib6 : 0 ≤ v44 ∧ v44 < ((300 : Nat) : Int) := (by first | omega | exact ⟨by omega, by omega⟩)
                refine zwW_as Ih43 (a1 := 173) (a2 := 173) (n := 300) (lo := -2147483648) (hi := 2147483647) (nx := 187) (by decide +kernel) (by first | decide | exact ⟨by decide, by decide⟩) ib6 (by first | omega | exact ⟨by omega, by omega⟩) ?_
                intro h50 eh50 Ih50
                have jbh50 : 0 ≤ v44.toNat ∧ v44.toNat < 300 := ⟨Nat.zero_le _, zit ib6⟩
                have th50_37_0 : fld h50 37 0 = fld h43 37 0 := by rw [eh50]; exact fld_wr (Or.inl (by decide))
                have th50_37_1 : fld h50 37 1 = fld h43 37 1 := by rw [eh50]; exact fld_wr (Or.inl (by decide))
                have th50_37_2 : fld h50 37 2 = fld h43 37 2 := by rw [eh50]; exact fld_wr (Or.inl (by decide))
                have th50_37_64 : fld h50 37 64 = fld h43 37 64 := by rw [eh50]; exact fld_wr (Or.inl (by decide))
                have Kh50_176 : fld h50 176 = fld h7 176 := (funext fun j => fld_oth eh50 (Or.inl (by decide))).trans Kh43_176
                have Kh50_66 : fld h50 66 = fld hL13 66 := (funext fun j => fld_oth eh50 (Or.inl (by decide))).trans Kh43_66
                have Zh50 : yM h50 = (zs (zs (zs (zs (zs (yLyB (yM h) (yP1 (yM h)) (yToA (yM h)) (yW1 (yM h)) (qL16).toNat) 95 qL16.toNat (w32 (((yLyB (yM h) (yP1 (yM h)) (yToA (yM h)) (yW1 (yM h)) (qL16).toNat) 95 qL16.toNat) + (((((yLyB (yM h) (yP1 (yM h)) (yToA (yM h)) (yW1 (yM h)) (qL16).toNat) 80 qL16.toNat) * ((yLyB (yM h) (yP1 (yM h)) (yToA (yM h)) (yW1 (yM h)) (qL16).toNat) 39 (4 * v21.toNat + v23.toNat))) * (10 + ((yLyB (yM h) (yP1 (yM h)) (yToA (yM h)) (yW1 (yM h)) (qL16).toNat) 81 qL16.toNat))) / 24)))) 170 (((yLyB (yM h) (yP1 (yM h)) (yToA (yM h)) (yW1 (yM h)) (qL16).toNat) 37 64).toNat) qL16) 171 (((yLyB (yM h) (yP1 (yM h)) (yToA (yM h)) (yW1 (yM h)) (qL16).toNat) 37 64).toNat) ((yLyB (yM h) (yP1 (yM h)) (yToA (yM h)) (yW1 (yM h)) (qL16).toNat) 37 0)) 172 (((yLyB (yM h) (yP1 (yM h)) (yToA (yM h)) (yW1 (yM h)) (qL16).toNat) 37 64).toNat) ((yLyB (yM h) (yP1 (yM h)) (yToA (yM h)) (yW1 (yM h)) (qL16).toNat) 85 qL16.toNat)) 173 (((yLyB (yM h) (yP1 (yM h)) (yToA (yM h)) (yW1 (yM h)) (qL16).toNat) 37 64).toNat) (yStq (zs (zs (zs (zs (yLyB (yM h) (yP1 (yM h)) (yToA (yM h)) (yW1 (yM h)) (qL16).toNat) 95 qL16.toNat (w32 (((yLyB (yM h) (yP1 (yM h)) (yToA (yM h)) (yW1 (yM h)) (qL16).toNat) 95 qL16.toNat) + (((((yLyB (yM h) (yP1 (yM h)) (yToA (yM h)) (yW1 (yM h)) (qL16).toNat) 80 qL16.toNat) * ((yLyB (yM h) (yP1 (yM h)) (yToA (yM h)) (yW1 (yM h)) (qL16).toNat) 39 (4 * v21.toNat + v23.toNat))) * (10 + ((yLyB (yM h) (yP1 (yM h)) (yToA (yM h)) (yW1 (yM h)) (qL16).toNat) 81 qL16.toNat))) / 24)))) 170 (((yLyB (yM h) (yP1 (yM h)) (yToA (yM h)) (yW1 (yM h)) (qL16).toNat) 37 64).toNat) qL16) 171 (((yLyB (yM h) (yP1 (yM h)) (yToA (yM h)) (yW1 (yM h)) (qL16).toNat) 37 64).toNat) ((yLyB (yM h) (yP1 (yM h)) (yToA (yM h)) (yW1 (yM h)) (qL16).toNat) 37 0)) 172 (((yLyB (yM h) (yP1 (yM h)) (yToA (yM h)) (yW1 (yM h)) (qL16).toNat) 37 64).toNat) ((yLyB (yM h) (yP1 (yM h)) (yToA (yM h)) (yW1 (yM h)) (qL16).toNat) 85 qL16.toNat)) qL16.toNat ((yLyB (yM h) (yP1 (yM h)) (yToA (yM h)) (yW1 (yM h)) (qL16).toNat) 81 qL16.toNat))) := by rw [yM_w (a := 173) (n := 300) (i := v44.toNat) (kd := 20) rfl (Ih43.s (a1 := 173) (a2 := 173) (by decide +kernel) (by decide) (by decide)) jbh50.2 eh50, Zh43, sv46, sv44]
                have Rh50 : zMR ms194 h h50 := Rh43.w (a1 := 173) (a2 := 173) (j1 := 0) (j2 := 300) (by decide +kernel) (by first | decide | exact ⟨by decide, by decide⟩) jbh50 eh50
                refine zwW_p [(1, 0, 2)] (q := 188) (ls' := [(2, 37), (0, v3), (0, qL16)]) (st' := [(2, 37)]) (by decide +kernel) rfl ?_
                refine zwW_gc Ih50 (kd := 13) (bn := 62) (n := 97) (c := 174) (nx := 191) (by decide +kernel) ?_
                refine zwW_p [(1, 0, 2)] (q := 192) (ls' := [(2, 37), (0, v3), (0, qL16)]) (st' := [(2, 37), (2, 174)]) (by decide +kernel) rfl ?_
                refine zwW_gs Ih50 (kd := 13) (bn := 64) (n := 97) (t := 0) (lo := 0) (hi := 300) (nx := 195) (by decide +kernel) ?_
                intro v51 ev51 lv51 uv51
                have sv51 : v51 = (yLyB (yM h) (yP1 (yM h)) (yToA (yM h)) (yW1 (yM h)) (qL16).toNat) 37 64 := Eq.trans ev51 (Eq.trans (Eq.symm (yM_s (h := h50) (i := 64) rfl)) (Eq.trans (congrFun (congrFun Zh50 37) 64) (Eq.trans (zs_na (by decide) : (zs (zs (zs (zs (zs (yLyB (yM h) (yP1 (yM h)) (yToA (yM h)) (yW1 (yM h)) (qL16).toNat) 95 qL16.toNat (w32 (((yLyB (yM h) (yP1 (yM h)) (yToA (yM h)) (yW1 (yM h)) (qL16).toNat) 95 qL16.toNat) + (((((yLyB (yM h) (yP1 (yM h)) (yToA (yM h)) (yW1 (yM h)) (qL16).toNat) 80 qL16.toNat) * ((yLyB (yM h) (yP1 (yM h)) (yToA (yM h)) (yW1 (yM h)) (qL16).toNat) 39 (4 * v21.toNat + v23.toNat))) * (10 + ((yLyB (yM h) (yP1 (yM h)) (yToA (yM h)) (yW1 (yM h)) (qL16).toNat) 81 qL16.toNat))) / 24)))) 170 (((yLyB (yM h) (yP1 (yM h)) (yToA (yM h)) (yW1 (yM h)) (qL16).toNat) 37 64).toNat) qL16) 171 (((yLyB (yM h) (yP1 (yM h)) (yToA (yM h)) (yW1 (yM h)) (qL16).toNat) 37 64).toNat) ((yLyB (yM h) (yP1 (yM h)) (yToA (yM h)) (yW1 (yM h)) (qL16).toNat) 37 0)) 172 (((yLyB (yM h) (yP1 (yM h)) (yToA (yM h)) (yW1 (yM h)) (qL16).toNat) 37 64).toNat) ((yLyB (yM h) (yP1 (yM h)) (yToA (yM h)) (yW1 (yM h)) (qL16).toNat) 85 qL16.toNat)) 173 (((yLyB (yM h) (yP1 (yM h)) (yToA (yM h)) (yW1 (yM h)) (qL16).toNat) 37 64).toNat) (yStq (zs (zs (zs (zs (yLyB (yM h) (yP1 (yM h)) (yToA (yM h)) (yW1 (yM h)) (qL16).toNat) 95 qL16.toNat (w32 (((yLyB (yM h) (yP1 (yM h)) (yToA (yM h)) (yW1 (yM h)) (qL16).toNat) 95 qL16.toNat) + (((((yLyB (yM h) (yP1 (yM h)) (yToA (yM h)) (yW1 (yM h)) (qL16).toNat) 80 qL16.toNat) * ((yLyB (yM h) (yP1 (yM h)) (yToA (yM h)) (yW1 (yM h)) (qL16).toNat) 39 (4 * v21.toNat + v23.toNat))) * (10 + ((yLyB (yM h) (yP1 (yM h)) (yToA (yM h)) (yW1 (yM h)) (qL16).toNat) 81 qL16.toNat))) / 24)))) 170 (((yLyB (yM h) (yP1 (yM h)) (yToA (yM h)) (yW1 (yM h)) (qL16).toNat) 37 64).toNat) qL16) 171 (((yLyB (yM h) (yP1 (yM h)) (yToA (yM h)) (yW1 (yM h)) (qL16).toNat) 37 64).toNat) ((yLyB (yM h) (yP1 (yM h)) (yToA (yM h)) (yW1 (yM h)) (qL16).toNat) 37 0)) 172 (((yLyB (yM h) (yP1 (yM h)) (yToA (yM h)) (yW1 (yM h)) (qL16).toNat) 37 64).toNat) ((yLyB (yM h) (yP1 (yM h)) (yToA (yM h)) (yW1 (yM h)) (qL16).toNat) 85 qL16.toNat)) qL16.toNat ((yLyB (yM h) (yP1 (yM h)) (yToA (yM h)) (yW1 (yM h)) (qL16).toNat) 81 qL16.toNat))) 37 64 = (zs (zs (zs (zs (yLyB (yM h) (yP1 (yM h)) (yToA (yM h)) (yW1 (yM h)) (qL16).toNat) 95 qL16.toNat (w32 (((yLyB (yM h) (yP1 (yM h)) (yToA (yM h)) (yW1 (yM h)) (qL16).toNat) 95 qL16.toNat) + (((((yLyB (yM h) (yP1 (yM h)) (yToA (yM h)) (yW1 (yM h)) (qL16).toNat) 80 qL16.toNat) * ((yLyB (yM h) (yP1 (yM h)) (yToA (yM h)) (yW1 (yM h)) (qL16).toNat) 39 (4 * v21.toNat + v23.toNat))) * (10 + ((yLyB (yM h) (yP1 (yM h)) (yToA (yM h)) (yW1 (yM h)) (qL16).toNat) 81 qL16.toNat))) / 24)))) 170 (((yLyB (yM h) (yP1 (yM h)) (yToA (yM h)) (yW1 (yM h)) (qL16).toNat) 37 64).toNat) qL16) 171 (((yLyB (yM h) (yP1 (yM h)) (yToA (yM h)) (yW1 (yM h)) (qL16).toNat) 37 64).toNat) ((yLyB (yM h) (yP1 (yM h)) (yToA (yM h)) (yW1 (yM h)) (qL16).toNat) 37 0)) 172 (((yLyB (yM h) (yP1 (yM h)) (yToA (yM h)) (yW1 (yM h)) (qL16).toNat) 37 64).toNat) ((yLyB (yM h) (yP1 (yM h)) (yToA (yM h)) (yW1 (yM h)) (qL16).toNat) 85 qL16.toNat)) 37 64) (Eq.trans (zs_na (by decide) : (zs (zs (zs (zs (yLyB (yM h) (yP1 (yM h)) (yToA (yM h)) (yW1 (yM h)) (qL16).toNat) 95 qL16.toNat (w32 (((yLyB (yM h) (yP1 (yM h)) (yToA (yM h)) (yW1 (yM h)) (qL16).toNat) 95 qL16.toNat) + (((((yLyB (yM h) (yP1 (yM h)) (yToA (yM h)) (yW1 (yM h)) (qL16).toNat) 80 qL16.toNat) * ((yLyB (yM h) (yP1 (yM h)) (yToA (yM h)) (yW1 (yM h)) (qL16).toNat) 39 (4 * v21.toNat + v23.toNat))) * (10 + ((yLyB (yM h) (yP1 (yM h)) (yToA (yM h)) (yW1 (yM h)) (qL16).toNat) 81 qL16.toNat))) / 24)))) 170 (((yLyB (yM h) (yP1 (yM h)) (yToA (yM h)) (yW1 (yM h)) (qL16).toNat) 37 64).toNat) qL16) 171 (((yLyB (yM h) (yP1 (yM h)) (yToA (yM h)) (yW1 (yM h)) (qL16).toNat) 37 64).toNat) ((yLyB (yM h) (yP1 (yM h)) (yToA (yM h)) (yW1 (yM h)) (qL16).toNat) 37 0)) 172 (((yLyB (yM h) (yP1 (yM h)) (yToA (yM h)) (yW1 (yM h)) (qL16).toNat) 37 64).toNat) ((yLyB (yM h) (yP1 (yM h)) (yToA (yM h)) (yW1 (yM h)) (qL16).toNat) 85 qL16.toNat)) 37 64 = (zs (zs (zs (yLyB (yM h) (yP1 (yM h)) (yToA (yM h)) (yW1 (yM h)) (qL16).toNat) 95 qL16.toNat (w32 (((yLyB (yM h) (yP1 (yM h)) (yToA (yM h)) (yW1 (yM h)) (qL16).toNat) 95 qL16.toNat) + (((((yLyB (yM h) (yP1 (yM h)) (yToA (yM h)) (yW1 (yM h)) (qL16).toNat) 80 qL16.toNat) * ((yLyB (yM h) (yP1 (yM h)) (yToA (yM h)) (yW1 (yM h)) (qL16).toNat) 39 (4 * v21.toNat + v23.toNat))) * (10 + ((yLyB (yM h) (yP1 (yM h)) (yToA (yM h)) (yW1 (yM h)) (qL16).toNat) 81 qL16.toNat))) / 24)))) 170 (((yLyB (yM h) (yP1 (yM h)) (yToA (yM h)) (yW1 (yM h)) (qL16).toNat) 37 64).toNat) qL16) 171 (((yLyB (yM h) (yP1 (yM h)) (yToA (yM h)) (yW1 (yM h)) (qL16).toNat) 37 64).toNat) ((yLyB (yM h) (yP1 (yM h)) (yToA (yM h)) (yW1 (yM h)) (qL16).toNat) 37 0)) 37 64) (Eq.trans (zs_na (by decide) : (zs (zs (zs (yLyB (yM h) (yP1 (yM h)) (yToA (yM h)) (yW1 (yM h)) (qL16).toNat) 95 qL16.toNat (w32 (((yLyB (yM h) (yP1 (yM h)) (yToA (yM h)) (yW1 (yM h)) (qL16).toNat) 95 qL16.toNat) + (((((yLyB (yM h) (yP1 (yM h)) (yToA (yM h)) (yW1 (yM h)) (qL16).toNat) 80 qL16.toNat) * ((yLyB (yM h) (yP1 (yM h)) (yToA (yM h)) (yW1 (yM h)) (qL16).toNat) 39 (4 * v21.toNat + v23.toNat))) * (10 + ((yLyB (yM h) (yP1 (yM h)) (yToA (yM h)) (yW1 (yM h)) (qL16).toNat) 81 qL16.toNat))) / 24)))) 170 (((yLyB (yM h) (yP1 (yM h)) (yToA (yM h)) (yW1 (yM h)) (qL16).toNat) 37 64).toNat) qL16) 171 (((yLyB (yM h) (yP1 (yM h)) (yToA (yM h)) (yW1 (yM h)) (qL16).toNat) 37 64).toNat) ((yLyB (yM h) (yP1 (yM h)) (yToA (yM h)) (yW1 (yM h)) (qL16).toNat) 37 0)) 37 64 = (zs (zs (yLyB (yM h) (yP1 (yM h)) (yToA (yM h)) (yW1 (yM h)) (qL16).toNat) 95 qL16.toNat (w32 (((yLyB (yM h) (yP1 (yM h)) (yToA (yM h)) (yW1 (yM h)) (qL16).toNat) 95 qL16.toNat) + (((((yLyB (yM h) (yP1 (yM h)) (yToA (yM h)) (yW1 (yM h)) (qL16).toNat) 80 qL16.toNat) * ((yLyB (yM h) (yP1 (yM h)) (yToA (yM h)) (yW1 (yM h)) (qL16).toNat) 39 (4 * v21.toNat + v23.toNat))) * (10 + ((yLyB (yM h) (yP1 (yM h)) (yToA (yM h)) (yW1 (yM h)) (qL16).toNat) 81 qL16.toNat))) / 24)))) 170 (((yLyB (yM h) (yP1 (yM h)) (yToA (yM h)) (yW1 (yM h)) (qL16).toNat) 37 64).toNat) qL16) 37 64) (Eq.trans (zs_na (by decide) : (zs (zs (yLyB (yM h) (yP1 (yM h)) (yToA (yM h)) (yW1 (yM h)) (qL16).toNat) 95 qL16.toNat (w32 (((yLyB (yM h) (yP1 (yM h)) (yToA (yM h)) (yW1 (yM h)) (qL16).toNat) 95 qL16.toNat) + (((((yLyB (yM h) (yP1 (yM h)) (yToA (yM h)) (yW1 (yM h)) (qL16).toNat) 80 qL16.toNat) * ((yLyB (yM h) (yP1 (yM h)) (yToA (yM h)) (yW1 (yM h)) (qL16).toNat) 39 (4 * v21.toNat + v23.toNat))) * (10 + ((yLyB (yM h) (yP1 (yM h)) (yToA (yM h)) (yW1 (yM h)) (qL16).toNat) 81 qL16.toNat))) / 24)))) 170 (((yLyB (yM h) (yP1 (yM h)) (yToA (yM h)) (yW1 (yM h)) (qL16).toNat) 37 64).toNat) qL16) 37 64 = (zs (yLyB (yM h) (yP1 (yM h)) (yToA (yM h)) (yW1 (yM h)) (qL16).toNat) 95 qL16.toNat (w32 (((yLyB (yM h) (yP1 (yM h)) (yToA (yM h)) (yW1 (yM h)) (qL16).toNat) 95 qL16.toNat) + (((((yLyB (yM h) (yP1 (yM h)) (yToA (yM h)) (yW1 (yM h)) (qL16).toNat) 80 qL16.toNat) * ((yLyB (yM h) (yP1 (yM h)) (yToA (yM h)) (yW1 (yM h)) (qL16).toNat) 39 (4 * v21.toNat + v23.toNat))) * (10 + ((yLyB (yM h) (yP1 (yM h)) (yToA (yM h)) (yW1 (yM h)) (qL16).toNat) 81 qL16.toNat))) / 24)))) 37 64) (Eq.trans (zs_na (by decide) : (zs (yLyB (yM h) (yP1 (yM h)) (yToA (yM h)) (yW1 (yM h)) (qL16).toNat) 95 qL16.toNat (w32 (((yLyB (yM h) (yP1 (yM h)) (yToA (yM h)) (yW1 (yM h)) (qL16).toNat) 95 qL16.toNat) + (((((yLyB (yM h) (yP1 (yM h)) (yToA (yM h)) (yW1 (yM h)) (qL16).toNat) 80 qL16.toNat) * ((yLyB (yM h) (yP1 (yM h)) (yToA (yM h)) (yW1 (yM h)) (qL16).toNat) 39 (4 * v21.toNat + v23.toNat))) * (10 + ((yLyB (yM h) (yP1 (yM h)) (yToA (yM h)) (yW1 (yM h)) (qL16).toNat) 81 qL16.toNat))) / 24)))) 37 64 = (yLyB (yM h) (yP1 (yM h)) (yToA (yM h)) (yW1 (yM h)) (qL16).toNat) 37 64) rfl)))))))
                refine zwW_p [(1, 0, 2)] (q := 196) (ls' := [(2, 37), (0, v3), (0, qL16)]) (st' := [(2, 37), (0, v51), (2, 174)]) (by decide +kernel) rfl ?_
                refine zwW_gc Ih50 (kd := 13) (bn := 65) (n := 97) (c := 176) (nx := 199) (by decide +kernel) ?_
                refine zwW_p [(1, 2, 0)] (q := 200) (ls' := [(2, 37), (0, v3), (0, qL16)]) (st' := [(0, qL16), (2, 176), (0, v51), (2, 174)]) (by decide +kernel) rfl ?_
                refine zwW_al Ih50 (a1 := 176) (a2 := 176) (kd := 20) (n := 20) (t := 0) (lo := -2147483648) (hi := 2147483647) (nx := 201) (by decide +kernel) (by first | decide | exact ⟨by decide, by decide⟩) ib1 ?_
                intro v52 ev52 lv52 uv52
                have V201 : v52 = yX (yLyN (yM h) (qL16).toNat) (yEp (yLyN (yM h) (qL16).toNat)) (qL16).toNat := by rw [ev52]; exact (congrFun Kh50_176 _).trans (X9 _ (by omega))
                have ib7 : 0 ≤ v51 ∧ v51 < ((300 : Nat) : Int) := (by first | omega | exact ⟨by omega, by omega⟩)
                refine zwW_as Ih50 (a1 := 174) (a2 := 174) (n := 300) (lo := -2147483648) (hi := 2147483647) (nx := 202) (by decide +kernel) (by first | decide | exact ⟨by decide, by decide⟩) ib7 (by first | omega | exact ⟨by omega, by omega⟩) ?_
                intro h53 eh53 Ih53
                have jbh53 : 0 ≤ v51.toNat ∧ v51.toNat < 300 := ⟨Nat.zero_le _, zit ib7⟩
                have th53_37_0 : fld h53 37 0 = fld h50 37 0 := by rw [eh53]; exact fld_wr (Or.inl (by decide))
                have th53_37_1 : fld h53 37 1 = fld h50 37 1 := by rw [eh53]; exact fld_wr (Or.inl (by decide))
                have th53_37_2 : fld h53 37 2 = fld h50 37 2 := by rw [eh53]; exact fld_wr (Or.inl (by decide))
                have th53_37_64 : fld h53 37 64 = fld h50 37 64 := by rw [eh53]; exact fld_wr (Or.inl (by decide))
                have Kh53_176 : fld h53 176 = fld h7 176 := (funext fun j => fld_oth eh53 (Or.inl (by decide))).trans Kh50_176
                have Kh53_66 : fld h53 66 = fld hL13 66 := (funext fun j => fld_oth eh53 (Or.inl (by decide))).trans Kh50_66
                have Zh53 : yM h53 = (zs (zs (zs (zs (zs (zs (yLyB (yM h) (yP1 (yM h)) (yToA (yM h)) (yW1 (yM h)) (qL16).toNat) 95 qL16.toNat (w32 (((yLyB (yM h) (yP1 (yM h)) (yToA (yM h)) (yW1 (yM h)) (qL16).toNat) 95 qL16.toNat) + (((((yLyB (yM h) (yP1 (yM h)) (yToA (yM h)) (yW1 (yM h)) (qL16).toNat) 80 qL16.toNat) * ((yLyB (yM h) (yP1 (yM h)) (yToA (yM h)) (yW1 (yM h)) (qL16).toNat) 39 (4 * v21.toNat + v23.toNat))) * (10 + ((yLyB (yM h) (yP1 (yM h)) (yToA (yM h)) (yW1 (yM h)) (qL16).toNat) 81 qL16.toNat))) / 24)))) 170 (((yLyB (yM h) (yP1 (yM h)) (yToA (yM h)) (yW1 (yM h)) (qL16).toNat) 37 64).toNat) qL16) 171 (((yLyB (yM h) (yP1 (yM h)) (yToA (yM h)) (yW1 (yM h)) (qL16).toNat) 37 64).toNat) ((yLyB (yM h) (yP1 (yM h)) (yToA (yM h)) (yW1 (yM h)) (qL16).toNat) 37 0)) 172 (((yLyB (yM h) (yP1 (yM h)) (yToA (yM h)) (yW1 (yM h)) (qL16).toNat) 37 64).toNat) ((yLyB (yM h) (yP1 (yM h)) (yToA (yM h)) (yW1 (yM h)) (qL16).toNat) 85 qL16.toNat)) 173 (((yLyB (yM h) (yP1 (yM h)) (yToA (yM h)) (yW1 (yM h)) (qL16).toNat) 37 64).toNat) (yStq (zs (zs (zs (zs (yLyB (yM h) (yP1 (yM h)) (yToA (yM h)) (yW1 (yM h)) (qL16).toNat) 95 qL16.toNat (w32 (((yLyB (yM h) (yP1 (yM h)) (yToA (yM h)) (yW1 (yM h)) (qL16).toNat) 95 qL16.toNat) + (((((yLyB (yM h) (yP1 (yM h)) (yToA (yM h)) (yW1 (yM h)) (qL16).toNat) 80 qL16.toNat) * ((yLyB (yM h) (yP1 (yM h)) (yToA (yM h)) (yW1 (yM h)) (qL16).toNat) 39 (4 * v21.toNat + v23.toNat))) * (10 + ((yLyB (yM h) (yP1 (yM h)) (yToA (yM h)) (yW1 (yM h)) (qL16).toNat) 81 qL16.toNat))) / 24)))) 170 (((yLyB (yM h) (yP1 (yM h)) (yToA (yM h)) (yW1 (yM h)) (qL16).toNat) 37 64).toNat) qL16) 171 (((yLyB (yM h) (yP1 (yM h)) (yToA (yM h)) (yW1 (yM h)) (qL16).toNat) 37 64).toNat) ((yLyB (yM h) (yP1 (yM h)) (yToA (yM h)) (yW1 (yM h)) (qL16).toNat) 37 0)) 172 (((yLyB (yM h) (yP1 (yM h)) (yToA (yM h)) (yW1 (yM h)) (qL16).toNat) 37 64).toNat) ((yLyB (yM h) (yP1 (yM h)) (yToA (yM h)) (yW1 (yM h)) (qL16).toNat) 85 qL16.toNat)) qL16.toNat ((yLyB (yM h) (yP1 (yM h)) (yToA (yM h)) (yW1 (yM h)) (qL16).toNat) 81 qL16.toNat))) 174 (((yLyB (yM h) (yP1 (yM h)) (yToA (yM h)) (yW1 (yM h)) (qL16).toNat) 37 64).toNat) v52) := by rw [yM_w (a := 174) (n := 300) (i := v51.toNat) (kd := 20) rfl (Ih50.s (a1 := 174) (a2 := 174) (by decide +kernel) (by decide) (by decide)) jbh53.2 eh53, Zh50, sv51]
                have Rh53 : zMR ms194 h h53 := Rh50.w (a1 := 174) (a2 := 174) (j1 := 0) (j2 := 300) (by decide +kernel) (by first | decide | exact ⟨by decide, by decide⟩) jbh53 eh53
                refine zwW_p [(1, 0, 2)] (q := 203) (ls' := [(2, 37), (0, v3), (0, qL16)]) (st' := [(2, 37)]) (by decide +kernel) rfl ?_
                refine zwW_gc Ih53 (kd := 13) (bn := 63) (n := 97) (c := 175) (nx := 206) (by decide +kernel) ?_
                refine zwW_p [(1, 0, 2)] (q := 207) (ls' := [(2, 37), (0, v3), (0, qL16)]) (st' := [(2, 37), (2, 175)]) (by decide +kernel) rfl ?_
                refine zwW_gs Ih53 (kd := 13) (bn := 64) (n := 97) (t := 0) (lo := 0) (hi := 300) (nx := 210) (by decide +kernel) ?_
                intro v54 ev54 lv54 uv54
                have sv54 : v54 = (yLyB (yM h) (yP1 (yM h)) (yToA (yM h)) (yW1 (yM h)) (qL16).toNat) 37 64 := Eq.trans ev54 (Eq.trans (Eq.symm (yM_s (h := h53) (i := 64) rfl)) (Eq.trans (congrFun (congrFun Zh53 37) 64) (Eq.trans (zs_na (by decide) : (zs (zs (zs (zs (zs (zs (yLyB (yM h) (yP1 (yM h)) (yToA (yM h)) (yW1 (yM h)) (qL16).toNat) 95 qL16.toNat (w32 (((yLyB (yM h) (yP1 (yM h)) (yToA (yM h)) (yW1 (yM h)) (qL16).toNat) 95 qL16.toNat) + (((((yLyB (yM h) (yP1 (yM h)) (yToA (yM h)) (yW1 (yM h)) (qL16).toNat) 80 qL16.toNat) * ((yLyB (yM h) (yP1 (yM h)) (yToA (yM h)) (yW1 (yM h)) (qL16).toNat) 39 (4 * v21.toNat + v23.toNat))) * (10 + ((yLyB (yM h) (yP1 (yM h)) (yToA (yM h)) (yW1 (yM h)) (qL16).toNat) 81 qL16.toNat))) / 24)))) 170 (((yLyB (yM h) (yP1 (yM h)) (yToA (yM h)) (yW1 (yM h)) (qL16).toNat) 37 64).toNat) qL16) 171 (((yLyB (yM h) (yP1 (yM h)) (yToA (yM h)) (yW1 (yM h)) (qL16).toNat) 37 64).toNat) ((yLyB (yM h) (yP1 (yM h)) (yToA (yM h)) (yW1 (yM h)) (qL16).toNat) 37 0)) 172 (((yLyB (yM h) (yP1 (yM h)) (yToA (yM h)) (yW1 (yM h)) (qL16).toNat) 37 64).toNat) ((yLyB (yM h) (yP1 (yM h)) (yToA (yM h)) (yW1 (yM h)) (qL16).toNat) 85 qL16.toNat)) 173 (((yLyB (yM h) (yP1 (yM h)) (yToA (yM h)) (yW1 (yM h)) (qL16).toNat) 37 64).toNat) (yStq (zs (zs (zs (zs (yLyB (yM h) (yP1 (yM h)) (yToA (yM h)) (yW1 (yM h)) (qL16).toNat) 95 qL16.toNat (w32 (((yLyB (yM h) (yP1 (yM h)) (yToA (yM h)) (yW1 (yM h)) (qL16).toNat) 95 qL16.toNat) + (((((yLyB (yM h) (yP1 (yM h)) (yToA (yM h)) (yW1 (yM h)) (qL16).toNat) 80 qL16.toNat) * ((yLyB (yM h) (yP1 (yM h)) (yToA (yM h)) (yW1 (yM h)) (qL16).toNat) 39 (4 * v21.toNat + v23.toNat))) * (10 + ((yLyB (yM h) (yP1 (yM h)) (yToA (yM h)) (yW1 (yM h)) (qL16).toNat) 81 qL16.toNat))) / 24)))) 170 (((yLyB (yM h) (yP1 (yM h)) (yToA (yM h)) (yW1 (yM h)) (qL16).toNat) 37 64).toNat) qL16) 171 (((yLyB (yM h) (yP1 (yM h)) (yToA (yM h)) (yW1 (yM h)) (qL16).toNat) 37 64).toNat) ((yLyB (yM h) (yP1 (yM h)) (yToA (yM h)) (yW1 (yM h)) (qL16).toNat) 37 0)) 172 (((yLyB (yM h) (yP1 (yM h)) (yToA (yM h)) (yW1 (yM h)) (qL16).toNat) 37 64).toNat) ((yLyB (yM h) (yP1 (yM h)) (yToA (yM h)) (yW1 (yM h)) (qL16).toNat) 85 qL16.toNat)) qL16.toNat ((yLyB (yM h) (yP1 (yM h)) (yToA (yM h)) (yW1 (yM h)) (qL16).toNat) 81 qL16.toNat))) 174 (((yLyB (yM h) (yP1 (yM h)) (yToA (yM h)) (yW1 (yM h)) (qL16).toNat) 37 64).toNat) v52) 37 64 = (zs (zs (zs (zs (zs (yLyB (yM h) (yP1 (yM h)) (yToA (yM h)) (yW1 (yM h)) (qL16).toNat) 95 qL16.toNat (w32 (((yLyB (yM h) (yP1 (yM h)) (yToA (yM h)) (yW1 (yM h)) (qL16).toNat) 95 qL16.toNat) + (((((yLyB (yM h) (yP1 (yM h)) (yToA (yM h)) (yW1 (yM h)) (qL16).toNat) 80 qL16.toNat) * ((yLyB (yM h) (yP1 (yM h)) (yToA (yM h)) (yW1 (yM h)) (qL16).toNat) 39 (4 * v21.toNat + v23.toNat))) * (10 + ((yLyB (yM h) (yP1 (yM h)) (yToA (yM h)) (yW1 (yM h)) (qL16).toNat) 81 qL16.toNat))) / 24)))) 170 (((yLyB (yM h) (yP1 (yM h)) (yToA (yM h)) (yW1 (yM h)) (qL16).toNat) 37 64).toNat) qL16) 171 (((yLyB (yM h) (yP1 (yM h)) (yToA (yM h)) (yW1 (yM h)) (qL16).toNat) 37 64).toNat) ((yLyB (yM h) (yP1 (yM h)) (yToA (yM h)) (yW1 (yM h)) (qL16).toNat) 37 0)) 172 (((yLyB (yM h) (yP1 (yM h)) (yToA (yM h)) (yW1 (yM h)) (qL16).toNat) 37 64).toNat) ((yLyB (yM h) (yP1 (yM h)) (yToA (yM h)) (yW1 (yM h)) (qL16).toNat) 85 qL16.toNat)) 173 (((yLyB (yM h) (yP1 (yM h)) (yToA (yM h)) (yW1 (yM h)) (qL16).toNat) 37 64).toNat) (yStq (zs (zs (zs (zs (yLyB (yM h) (yP1 (yM h)) (yToA (yM h)) (yW1 (yM h)) (qL16).toNat) 95 qL16.toNat (w32 (((yLyB (yM h) (yP1 (yM h)) (yToA (yM h)) (yW1 (yM h)) (qL16).toNat) 95 qL16.toNat) + (((((yLyB (yM h) (yP1 (yM h)) (yToA (yM h)) (yW1 (yM h)) (qL16).toNat) 80 qL16.toNat) * ((yLyB (yM h) (yP1 (yM h)) (yToA (yM h)) (yW1 (yM h)) (qL16).toNat) 39 (4 * v21.toNat + v23.toNat))) * (10 + ((yLyB (yM h) (yP1 (yM h)) (yToA (yM h)) (yW1 (yM h)) (qL16).toNat) 81 qL16.toNat))) / 24)))) 170 (((yLyB (yM h) (yP1 (yM h)) (yToA (yM h)) (yW1 (yM h)) (qL16).toNat) 37 64).toNat) qL16) 171 (((yLyB (yM h) (yP1 (yM h)) (yToA (yM h)) (yW1 (yM h)) (qL16).toNat) 37 64).toNat) ((yLyB (yM h) (yP1 (yM h)) (yToA (yM h)) (yW1 (yM h)) (qL16).toNat) 37 0)) 172 (((yLyB (yM h) (yP1 (yM h)) (yToA (yM h)) (yW1 (yM h)) (qL16).toNat) 37 64).toNat) ((yLyB (yM h) (yP1 (yM h)) (yToA (yM h)) (yW1 (yM h)) (qL16).toNat) 85 qL16.toNat)) qL16.toNat ((yLyB (yM h) (yP1 (yM h)) (yToA (yM h)) (yW1 (yM h)) (qL16).toNat) 81 qL16.toNat))) 37 64) (Eq.trans (zs_na (by decide) : (zs (zs (zs (zs (zs (yLyB (yM h) (yP1 (yM h)) (yToA (yM h)) (yW1 (yM h)) (qL16).toNat) 95 qL16.toNat (w32 (((yLyB (yM h) (yP1 (yM h)) (yToA (yM h)) (yW1 (yM h)) (qL16).toNat) 95 qL16.toNat) + (((((yLyB (yM h) (yP1 (yM h)) (yToA (yM h)) (yW1 (yM h)) (qL16).toNat) 80 qL16.toNat) * ((yLyB (yM h) (yP1 (yM h)) (yToA (yM h)) (yW1 (yM h)) (qL16).toNat) 39 (4 * v21.toNat + v23.toNat))) * (10 + ((yLyB (yM h) (yP1 (yM h)) (yToA (yM h)) (yW1 (yM h)) (qL16).toNat) 81 qL16.toNat))) / 24)))) 170 (((yLyB (yM h) (yP1 (yM h)) (yToA (yM h)) (yW1 (yM h)) (qL16).toNat) 37 64).toNat) qL16) 171 (((yLyB (yM h) (yP1 (yM h)) (yToA (yM h)) (yW1 (yM h)) (qL16).toNat) 37 64).toNat) ((yLyB (yM h) (yP1 (yM h)) (yToA (yM h)) (yW1 (yM h)) (qL16).toNat) 37 0)) 172 (((yLyB (yM h) (yP1 (yM h)) (yToA (yM h)) (yW1 (yM h)) (qL16).toNat) 37 64).toNat) ((yLyB (yM h) (yP1 (yM h)) (yToA (yM h)) (yW1 (yM h)) (qL16).toNat) 85 qL16.toNat)) 173 (((yLyB (yM h) (yP1 (yM h)) (yToA (yM h)) (yW1 (yM h)) (qL16).toNat) 37 64).toNat) (yStq (zs (zs (zs (zs (yLyB (yM h) (yP1 (yM h)) (yToA (yM h)) (yW1 (yM h)) (qL16).toNat) 95 qL16.toNat (w32 (((yLyB (yM h) (yP1 (yM h)) (yToA (yM h)) (yW1 (yM h)) (qL16).toNat) 95 qL16.toNat) + (((((yLyB (yM h) (yP1 (yM h)) (yToA (yM h)) (yW1 (yM h)) (qL16).toNat) 80 qL16.toNat) * ((yLyB (yM h) (yP1 (yM h)) (yToA (yM h)) (yW1 (yM h)) (qL16).toNat) 39 (4 * v21.toNat + v23.toNat))) * (10 + ((yLyB (yM h) (yP1 (yM h)) (yToA (yM h)) (yW1 (yM h)) (qL16).toNat) 81 qL16.toNat))) / 24)))) 170 (((yLyB (yM h) (yP1 (yM h)) (yToA (yM h)) (yW1 (yM h)) (qL16).toNat) 37 64).toNat) qL16) 171 (((yLyB (yM h) (yP1 (yM h)) (yToA (yM h)) (yW1 (yM h)) (qL16).toNat) 37 64).toNat) ((yLyB (yM h) (yP1 (yM h)) (yToA (yM h)) (yW1 (yM h)) (qL16).toNat) 37 0)) 172 (((yLyB (yM h) (yP1 (yM h)) (yToA (yM h)) (yW1 (yM h)) (qL16).toNat) 37 64).toNat) ((yLyB (yM h) (yP1 (yM h)) (yToA (yM h)) (yW1 (yM h)) (qL16).toNat) 85 qL16.toNat)) qL16.toNat ((yLyB (yM h) (yP1 (yM h)) (yToA (yM h)) (yW1 (yM h)) (qL16).toNat) 81 qL16.toNat))) 37 64 = (zs (zs (zs (zs (yLyB (yM h) (yP1 (yM h)) (yToA (yM h)) (yW1 (yM h)) (qL16).toNat) 95 qL16.toNat (w32 (((yLyB (yM h) (yP1 (yM h)) (yToA (yM h)) (yW1 (yM h)) (qL16).toNat) 95 qL16.toNat) + (((((yLyB (yM h) (yP1 (yM h)) (yToA (yM h)) (yW1 (yM h)) (qL16).toNat) 80 qL16.toNat) * ((yLyB (yM h) (yP1 (yM h)) (yToA (yM h)) (yW1 (yM h)) (qL16).toNat) 39 (4 * v21.toNat + v23.toNat))) * (10 + ((yLyB (yM h) (yP1 (yM h)) (yToA (yM h)) (yW1 (yM h)) (qL16).toNat) 81 qL16.toNat))) / 24)))) 170 (((yLyB (yM h) (yP1 (yM h)) (yToA (yM h)) (yW1 (yM h)) (qL16).toNat) 37 64).toNat) qL16) 171 (((yLyB (yM h) (yP1 (yM h)) (yToA (yM h)) (yW1 (yM h)) (qL16).toNat) 37 64).toNat) ((yLyB (yM h) (yP1 (yM h)) (yToA (yM h)) (yW1 (yM h)) (qL16).toNat) 37 0)) 172 (((yLyB (yM h) (yP1 (yM h)) (yToA (yM h)) (yW1 (yM h)) (qL16).toNat) 37 64).toNat) ((yLyB (yM h) (yP1 (yM h)) (yToA (yM h)) (yW1 (yM h)) (qL16).toNat) 85 qL16.toNat)) 37 64) (Eq.trans (zs_na (by decide) : (zs (zs (zs (zs (yLyB (yM h) (yP1 (yM h)) (yToA (yM h)) (yW1 (yM h)) (qL16).toNat) 95 qL16.toNat (w32 (((yLyB (yM h) (yP1 (yM h)) (yToA (yM h)) (yW1 (yM h)) (qL16).toNat) 95 qL16.toNat) + (((((yLyB (yM h) (yP1 (yM h)) (yToA (yM h)) (yW1 (yM h)) (qL16).toNat) 80 qL16.toNat) * ((yLyB (yM h) (yP1 (yM h)) (yToA (yM h)) (yW1 (yM h)) (qL16).toNat) 39 (4 * v21.toNat + v23.toNat))) * (10 + ((yLyB (yM h) (yP1 (yM h)) (yToA (yM h)) (yW1 (yM h)) (qL16).toNat) 81 qL16.toNat))) / 24)))) 170 (((yLyB (yM h) (yP1 (yM h)) (yToA (yM h)) (yW1 (yM h)) (qL16).toNat) 37 64).toNat) qL16) 171 (((yLyB (yM h) (yP1 (yM h)) (yToA (yM h)) (yW1 (yM h)) (qL16).toNat) 37 64).toNat) ((yLyB (yM h) (yP1 (yM h)) (yToA (yM h)) (yW1 (yM h)) (qL16).toNat) 37 0)) 172 (((yLyB (yM h) (yP1 (yM h)) (yToA (yM h)) (yW1 (yM h)) (qL16).toNat) 37 64).toNat) ((yLyB (yM h) (yP1 (yM h)) (yToA (yM h)) (yW1 (yM h)) (qL16).toNat) 85 qL16.toNat)) 37 64 = (zs (zs (zs (yLyB (yM h) (yP1 (yM h)) (yToA (yM h)) (yW1 (yM h)) (qL16).toNat) 95 qL16.toNat (w32 (((yLyB (yM h) (yP1 (yM h)) (yToA (yM h)) (yW1 (yM h)) (qL16).toNat) 95 qL16.toNat) + (((((yLyB (yM h) (yP1 (yM h)) (yToA (yM h)) (yW1 (yM h)) (qL16).toNat) 80 qL16.toNat) * ((yLyB (yM h) (yP1 (yM h)) (yToA (yM h)) (yW1 (yM h)) (qL16).toNat) 39 (4 * v21.toNat + v23.toNat))) * (10 + ((yLyB (yM h) (yP1 (yM h)) (yToA (yM h)) (yW1 (yM h)) (qL16).toNat) 81 qL16.toNat))) / 24)))) 170 (((yLyB (yM h) (yP1 (yM h)) (yToA (yM h)) (yW1 (yM h)) (qL16).toNat) 37 64).toNat) qL16) 171 (((yLyB (yM h) (yP1 (yM h)) (yToA (yM h)) (yW1 (yM h)) (qL16).toNat) 37 64).toNat) ((yLyB (yM h) (yP1 (yM h)) (yToA (yM h)) (yW1 (yM h)) (qL16).toNat) 37 0)) 37 64) (Eq.trans (zs_na (by decide) : (zs (zs (zs (yLyB (yM h) (yP1 (yM h)) (yToA (yM h)) (yW1 (yM h)) (qL16).toNat) 95 qL16.toNat (w32 (((yLyB (yM h) (yP1 (yM h)) (yToA (yM h)) (yW1 (yM h)) (qL16).toNat) 95 qL16.toNat) + (((((yLyB (yM h) (yP1 (yM h)) (yToA (yM h)) (yW1 (yM h)) (qL16).toNat) 80 qL16.toNat) * ((yLyB (yM h) (yP1 (yM h)) (yToA (yM h)) (yW1 (yM h)) (qL16).toNat) 39 (4 * v21.toNat + v23.toNat))) * (10 + ((yLyB (yM h) (yP1 (yM h)) (yToA (yM h)) (yW1 (yM h)) (qL16).toNat) 81 qL16.toNat))) / 24)))) 170 (((yLyB (yM h) (yP1 (yM h)) (yToA (yM h)) (yW1 (yM h)) (qL16).toNat) 37 64).toNat) qL16) 171 (((yLyB (yM h) (yP1 (yM h)) (yToA (yM h)) (yW1 (yM h)) (qL16).toNat) 37 64).toNat) ((yLyB (yM h) (yP1 (yM h)) (yToA (yM h)) (yW1 (yM h)) (qL16).toNat) 37 0)) 37 64 = (zs (zs (yLyB (yM h) (yP1 (yM h)) (yToA (yM h)) (yW1 (yM h)) (qL16).toNat) 95 qL16.toNat (w32 (((yLyB (yM h) (yP1 (yM h)) (yToA (yM h)) (yW1 (yM h)) (qL16).toNat) 95 qL16.toNat) + (((((yLyB (yM h) (yP1 (yM h)) (yToA (yM h)) (yW1 (yM h)) (qL16).toNat) 80 qL16.toNat) * ((yLyB (yM h) (yP1 (yM h)) (yToA (yM h)) (yW1 (yM h)) (qL16).toNat) 39 (4 * v21.toNat + v23.toNat))) * (10 + ((yLyB (yM h) (yP1 (yM h)) (yToA (yM h)) (yW1 (yM h)) (qL16).toNat) 81 qL16.toNat))) / 24)))) 170 (((yLyB (yM h) (yP1 (yM h)) (yToA (yM h)) (yW1 (yM h)) (qL16).toNat) 37 64).toNat) qL16) 37 64) (Eq.trans (zs_na (by decide) : (zs (zs (yLyB (yM h) (yP1 (yM h)) (yToA (yM h)) (yW1 (yM h)) (qL16).toNat) 95 qL16.toNat (w32 (((yLyB (yM h) (yP1 (yM h)) (yToA (yM h)) (yW1 (yM h)) (qL16).toNat) 95 qL16.toNat) + (((((yLyB (yM h) (yP1 (yM h)) (yToA (yM h)) (yW1 (yM h)) (qL16).toNat) 80 qL16.toNat) * ((yLyB (yM h) (yP1 (yM h)) (yToA (yM h)) (yW1 (yM h)) (qL16).toNat) 39 (4 * v21.toNat + v23.toNat))) * (10 + ((yLyB (yM h) (yP1 (yM h)) (yToA (yM h)) (yW1 (yM h)) (qL16).toNat) 81 qL16.toNat))) / 24)))) 170 (((yLyB (yM h) (yP1 (yM h)) (yToA (yM h)) (yW1 (yM h)) (qL16).toNat) 37 64).toNat) qL16) 37 64 = (zs (yLyB (yM h) (yP1 (yM h)) (yToA (yM h)) (yW1 (yM h)) (qL16).toNat) 95 qL16.toNat (w32 (((yLyB (yM h) (yP1 (yM h)) (yToA (yM h)) (yW1 (yM h)) (qL16).toNat) 95 qL16.toNat) + (((((yLyB (yM h) (yP1 (yM h)) (yToA (yM h)) (yW1 (yM h)) (qL16).toNat) 80 qL16.toNat) * ((yLyB (yM h) (yP1 (yM h)) (yToA (yM h)) (yW1 (yM h)) (qL16).toNat) 39 (4 * v21.toNat + v23.toNat))) * (10 + ((yLyB (yM h) (yP1 (yM h)) (yToA (yM h)) (yW1 (yM h)) (qL16).toNat) 81 qL16.toNat))) / 24)))) 37 64) (Eq.trans (zs_na (by decide) : (zs (yLyB (yM h) (yP1 (yM h)) (yToA (yM h)) (yW1 (yM h)) (qL16).toNat) 95 qL16.toNat (w32 (((yLyB (yM h) (yP1 (yM h)) (yToA (yM h)) (yW1 (yM h)) (qL16).toNat) 95 qL16.toNat) + (((((yLyB (yM h) (yP1 (yM h)) (yToA (yM h)) (yW1 (yM h)) (qL16).toNat) 80 qL16.toNat) * ((yLyB (yM h) (yP1 (yM h)) (yToA (yM h)) (yW1 (yM h)) (qL16).toNat) 39 (4 * v21.toNat + v23.toNat))) * (10 + ((yLyB (yM h) (yP1 (yM h)) (yToA (yM h)) (yW1 (yM h)) (qL16).toNat) 81 qL16.toNat))) / 24)))) 37 64 = (yLyB (yM h) (yP1 (yM h)) (yToA (yM h)) (yW1 (yM h)) (qL16).toNat) 37 64) rfl))))))))
                refine zwW_p [(1, 0, 2)] (q := 211) (ls' := [(2, 37), (0, v3), (0, qL16)]) (st' := [(2, 37), (0, v54), (2, 175)]) (by decide +kernel) rfl ?_
                refine zwW_gc Ih53 (kd := 13) (bn := 65) (n := 97) (c := 176) (nx := 214) (by decide +kernel) ?_
                refine zwW_p [(1, 2, 0)] (q := 215) (ls' := [(2, 37), (0, v3), (0, qL16)]) (st' := [(0, qL16), (2, 176), (0, v54), (2, 175)]) (by decide +kernel) rfl ?_
                refine zwW_al Ih53 (a1 := 176) (a2 := 176) (kd := 20) (n := 20) (t := 0) (lo := -2147483648) (hi := 2147483647) (nx := 216) (by decide +kernel) (by first | decide | exact ⟨by decide, by decide⟩) ib1 ?_
                intro v55 ev55 lv55 uv55
                have V216 : v55 = yX (yLyN (yM h) (qL16).toNat) (yEp (yLyN (yM h) (qL16).toNat)) (qL16).toNat := by rw [ev55]; exact (congrFun Kh53_176 _).trans (X9 _ (by omega))
                have ib8 : 0 ≤ v54 ∧ v54 < ((300 : Nat) : Int) := (by first | omega | exact ⟨by omega, by omega⟩)
                refine zwW_as Ih53 (a1 := 175) (a2 := 175) (n := 300) (lo := -2147483648) (hi := 2147483647) (nx := 217) (by decide +kernel) (by first | decide | exact ⟨by decide, by decide⟩) ib8 (by first | omega | exact ⟨by omega, by omega⟩) ?_
                intro h56 eh56 Ih56
                have jbh56 : 0 ≤ v54.toNat ∧ v54.toNat < 300 := ⟨Nat.zero_le _, zit ib8⟩
                have th56_37_0 : fld h56 37 0 = fld h53 37 0 := by rw [eh56]; exact fld_wr (Or.inl (by decide))
                have th56_37_1 : fld h56 37 1 = fld h53 37 1 := by rw [eh56]; exact fld_wr (Or.inl (by decide))
                have th56_37_2 : fld h56 37 2 = fld h53 37 2 := by rw [eh56]; exact fld_wr (Or.inl (by decide))
                have th56_37_64 : fld h56 37 64 = fld h53 37 64 := by rw [eh56]; exact fld_wr (Or.inl (by decide))
                have Kh56_176 : fld h56 176 = fld h7 176 := (funext fun j => fld_oth eh56 (Or.inl (by decide))).trans Kh53_176
                have Kh56_66 : fld h56 66 = fld hL13 66 := (funext fun j => fld_oth eh56 (Or.inl (by decide))).trans Kh53_66
                have Zh56 : yM h56 = (zs (zs (zs (zs (zs (zs (zs (yLyB (yM h) (yP1 (yM h)) (yToA (yM h)) (yW1 (yM h)) (qL16).toNat) 95 qL16.toNat (w32 (((yLyB (yM h) (yP1 (yM h)) (yToA (yM h)) (yW1 (yM h)) (qL16).toNat) 95 qL16.toNat) + (((((yLyB (yM h) (yP1 (yM h)) (yToA (yM h)) (yW1 (yM h)) (qL16).toNat) 80 qL16.toNat) * ((yLyB (yM h) (yP1 (yM h)) (yToA (yM h)) (yW1 (yM h)) (qL16).toNat) 39 (4 * v21.toNat + v23.toNat))) * (10 + ((yLyB (yM h) (yP1 (yM h)) (yToA (yM h)) (yW1 (yM h)) (qL16).toNat) 81 qL16.toNat))) / 24)))) 170 (((yLyB (yM h) (yP1 (yM h)) (yToA (yM h)) (yW1 (yM h)) (qL16).toNat) 37 64).toNat) qL16) 171 (((yLyB (yM h) (yP1 (yM h)) (yToA (yM h)) (yW1 (yM h)) (qL16).toNat) 37 64).toNat) ((yLyB (yM h) (yP1 (yM h)) (yToA (yM h)) (yW1 (yM h)) (qL16).toNat) 37 0)) 172 (((yLyB (yM h) (yP1 (yM h)) (yToA (yM h)) (yW1 (yM h)) (qL16).toNat) 37 64).toNat) ((yLyB (yM h) (yP1 (yM h)) (yToA (yM h)) (yW1 (yM h)) (qL16).toNat) 85 qL16.toNat)) 173 (((yLyB (yM h) (yP1 (yM h)) (yToA (yM h)) (yW1 (yM h)) (qL16).toNat) 37 64).toNat) (yStq (zs (zs (zs (zs (yLyB (yM h) (yP1 (yM h)) (yToA (yM h)) (yW1 (yM h)) (qL16).toNat) 95 qL16.toNat (w32 (((yLyB (yM h) (yP1 (yM h)) (yToA (yM h)) (yW1 (yM h)) (qL16).toNat) 95 qL16.toNat) + (((((yLyB (yM h) (yP1 (yM h)) (yToA (yM h)) (yW1 (yM h)) (qL16).toNat) 80 qL16.toNat) * ((yLyB (yM h) (yP1 (yM h)) (yToA (yM h)) (yW1 (yM h)) (qL16).toNat) 39 (4 * v21.toNat + v23.toNat))) * (10 + ((yLyB (yM h) (yP1 (yM h)) (yToA (yM h)) (yW1 (yM h)) (qL16).toNat) 81 qL16.toNat))) / 24)))) 170 (((yLyB (yM h) (yP1 (yM h)) (yToA (yM h)) (yW1 (yM h)) (qL16).toNat) 37 64).toNat) qL16) 171 (((yLyB (yM h) (yP1 (yM h)) (yToA (yM h)) (yW1 (yM h)) (qL16).toNat) 37 64).toNat) ((yLyB (yM h) (yP1 (yM h)) (yToA (yM h)) (yW1 (yM h)) (qL16).toNat) 37 0)) 172 (((yLyB (yM h) (yP1 (yM h)) (yToA (yM h)) (yW1 (yM h)) (qL16).toNat) 37 64).toNat) ((yLyB (yM h) (yP1 (yM h)) (yToA (yM h)) (yW1 (yM h)) (qL16).toNat) 85 qL16.toNat)) qL16.toNat ((yLyB (yM h) (yP1 (yM h)) (yToA (yM h)) (yW1 (yM h)) (qL16).toNat) 81 qL16.toNat))) 174 (((yLyB (yM h) (yP1 (yM h)) (yToA (yM h)) (yW1 (yM h)) (qL16).toNat) 37 64).toNat) v52) 175 (((yLyB (yM h) (yP1 (yM h)) (yToA (yM h)) (yW1 (yM h)) (qL16).toNat) 37 64).toNat) v55) := by rw [yM_w (a := 175) (n := 300) (i := v54.toNat) (kd := 20) rfl (Ih53.s (a1 := 175) (a2 := 175) (by decide +kernel) (by decide) (by decide)) jbh56.2 eh56, Zh53, sv54]
                have Rh56 : zMR ms194 h h56 := Rh53.w (a1 := 175) (a2 := 175) (j1 := 0) (j2 := 300) (by decide +kernel) (by first | decide | exact ⟨by decide, by decide⟩) jbh56 eh56
                refine zwW_p [(1, 0, 2), (12, 0, 0)] (q := 219) (ls' := [(2, 37), (0, v3), (0, qL16)]) (st' := [(2, 37), (2, 37)]) (by decide +kernel) rfl ?_
                refine zwW_gs Ih56 (kd := 13) (bn := 64) (n := 97) (t := 0) (lo := 0) (hi := 300) (nx := 222) (by decide +kernel) ?_
                intro v57 ev57 lv57 uv57
                have sv57 : v57 = (yLyB (yM h) (yP1 (yM h)) (yToA (yM h)) (yW1 (yM h)) (qL16).toNat) 37 64 := Eq.trans ev57 (Eq.trans (Eq.symm (yM_s (h := h56) (i := 64) rfl)) (Eq.trans (congrFun (congrFun Zh56 37) 64) (Eq.trans (zs_na (by decide) : (zs (zs (zs (zs (zs (zs (zs (yLyB (yM h) (yP1 (yM h)) (yToA (yM h)) (yW1 (yM h)) (qL16).toNat) 95 qL16.toNat (w32 (((yLyB (yM h) (yP1 (yM h)) (yToA (yM h)) (yW1 (yM h)) (qL16).toNat) 95 qL16.toNat) + (((((yLyB (yM h) (yP1 (yM h)) (yToA (yM h)) (yW1 (yM h)) (qL16).toNat) 80 qL16.toNat) * ((yLyB (yM h) (yP1 (yM h)) (yToA (yM h)) (yW1 (yM h)) (qL16).toNat) 39 (4 * v21.toNat + v23.toNat))) * (10 + ((yLyB (yM h) (yP1 (yM h)) (yToA (yM h)) (yW1 (yM h)) (qL16).toNat) 81 qL16.toNat))) / 24)))) 170 (((yLyB (yM h) (yP1 (yM h)) (yToA (yM h)) (yW1 (yM h)) (qL16).toNat) 37 64).toNat) qL16) 171 (((yLyB (yM h) (yP1 (yM h)) (yToA (yM h)) (yW1 (yM h)) (qL16).toNat) 37 64).toNat) ((yLyB (yM h) (yP1 (yM h)) (yToA (yM h)) (yW1 (yM h)) (qL16).toNat) 37 0)) 172 (((yLyB (yM h) (yP1 (yM h)) (yToA (yM h)) (yW1 (yM h)) (qL16).toNat) 37 64).toNat) ((yLyB (yM h) (yP1 (yM h)) (yToA (yM h)) (yW1 (yM h)) (qL16).toNat) 85 qL16.toNat)) 173 (((yLyB (yM h) (yP1 (yM h)) (yToA (yM h)) (yW1 (yM h)) (qL16).toNat) 37 64).toNat) (yStq (zs (zs (zs (zs (yLyB (yM h) (yP1 (yM h)) (yToA (yM h)) (yW1 (yM h)) (qL16).toNat) 95 qL16.toNat (w32 (((yLyB (yM h) (yP1 (yM h)) (yToA (yM h)) (yW1 (yM h)) (qL16).toNat) 95 qL16.toNat) + (((((yLyB (yM h) (yP1 (yM h)) (yToA (yM h)) (yW1 (yM h)) (qL16).toNat) 80 qL16.toNat) * ((yLyB (yM h) (yP1 (yM h)) (yToA (yM h)) (yW1 (yM h)) (qL16).toNat) 39 (4 * v21.toNat + v23.toNat))) * (10 + ((yLyB (yM h) (yP1 (yM h)) (yToA (yM h)) (yW1 (yM h)) (qL16).toNat) 81 qL16.toNat))) / 24)))) 170 (((yLyB (yM h) (yP1 (yM h)) (yToA (yM h)) (yW1 (yM h)) (qL16).toNat) 37 64).toNat) qL16) 171 (((yLyB (yM h) (yP1 (yM h)) (yToA (yM h)) (yW1 (yM h)) (qL16).toNat) 37 64).toNat) ((yLyB (yM h) (yP1 (yM h)) (yToA (yM h)) (yW1 (yM h)) (qL16).toNat) 37 0)) 172 (((yLyB (yM h) (yP1 (yM h)) (yToA (yM h)) (yW1 (yM h)) (qL16).toNat) 37 64).toNat) ((yLyB (yM h) (yP1 (yM h)) (yToA (yM h)) (yW1 (yM h)) (qL16).toNat) 85 qL16.toNat)) qL16.toNat ((yLyB (yM h) (yP1 (yM h)) (yToA (yM h)) (yW1 (yM h)) (qL16).toNat) 81 qL16.toNat))) 174 (((yLyB (yM h) (yP1 (yM h)) (yToA (yM h)) (yW1 (yM h)) (qL16).toNat) 37 64).toNat) v52) 175 (((yLyB (yM h) (yP1 (yM h)) (yToA (yM h)) (yW1 (yM h)) (qL16).toNat) 37 64).toNat) v55) 37 64 = (zs (zs (zs (zs (zs (zs (yLyB (yM h) (yP1 (yM h)) (yToA (yM h)) (yW1 (yM h)) (qL16).toNat) 95 qL16.toNat (w32 (((yLyB (yM h) (yP1 (yM h)) (yToA (yM h)) (yW1 (yM h)) (qL16).toNat) 95 qL16.toNat) + (((((yLyB (yM h) (yP1 (yM h)) (yToA (yM h)) (yW1 (yM h)) (qL16).toNat) 80 qL16.toNat) * ((yLyB (yM h) (yP1 (yM h)) (yToA (yM h)) (yW1 (yM h)) (qL16).toNat) 39 (4 * v21.toNat + v23.toNat))) * (10 + ((yLyB (yM h) (yP1 (yM h)) (yToA (yM h)) (yW1 (yM h)) (qL16).toNat) 81 qL16.toNat))) / 24)))) 170 (((yLyB (yM h) (yP1 (yM h)) (yToA (yM h)) (yW1 (yM h)) (qL16).toNat) 37 64).toNat) qL16) 171 (((yLyB (yM h) (yP1 (yM h)) (yToA (yM h)) (yW1 (yM h)) (qL16).toNat) 37 64).toNat) ((yLyB (yM h) (yP1 (yM h)) (yToA (yM h)) (yW1 (yM h)) (qL16).toNat) 37 0)) 172 (((yLyB (yM h) (yP1 (yM h)) (yToA (yM h)) (yW1 (yM h)) (qL16).toNat) 37 64).toNat) ((yLyB (yM h) (yP1 (yM h)) (yToA (yM h)) (yW1 (yM h)) (qL16).toNat) 85 qL16.toNat)) 173 (((yLyB (yM h) (yP1 (yM h)) (yToA (yM h)) (yW1 (yM h)) (qL16).toNat) 37 64).toNat) (yStq (zs (zs (zs (zs (yLyB (yM h) (yP1 (yM h)) (yToA (yM h)) (yW1 (yM h)) (qL16).toNat) 95 qL16.toNat (w32 (((yLyB (yM h) (yP1 (yM h)) (yToA (yM h)) (yW1 (yM h)) (qL16).toNat) 95 qL16.toNat) + (((((yLyB (yM h) (yP1 (yM h)) (yToA (yM h)) (yW1 (yM h)) (qL16).toNat) 80 qL16.toNat) * ((yLyB (yM h) (yP1 (yM h)) (yToA (yM h)) (yW1 (yM h)) (qL16).toNat) 39 (4 * v21.toNat + v23.toNat))) * (10 + ((yLyB (yM h) (yP1 (yM h)) (yToA (yM h)) (yW1 (yM h)) (qL16).toNat) 81 qL16.toNat))) / 24)))) 170 (((yLyB (yM h) (yP1 (yM h)) (yToA (yM h)) (yW1 (yM h)) (qL16).toNat) 37 64).toNat) qL16) 171 (((yLyB (yM h) (yP1 (yM h)) (yToA (yM h)) (yW1 (yM h)) (qL16).toNat) 37 64).toNat) ((yLyB (yM h) (yP1 (yM h)) (yToA (yM h)) (yW1 (yM h)) (qL16).toNat) 37 0)) 172 (((yLyB (yM h) (yP1 (yM h)) (yToA (yM h)) (yW1 (yM h)) (qL16).toNat) 37 64).toNat) ((yLyB (yM h) (yP1 (yM h)) (yToA (yM h)) (yW1 (yM h)) (qL16).toNat) 85 qL16.toNat)) qL16.toNat ((yLyB (yM h) (yP1 (yM h)) (yToA (yM h)) (yW1 (yM h)) (qL16).toNat) 81 qL16.toNat))) 174 (((yLyB (yM h) (yP1 (yM h)) (yToA (yM h)) (yW1 (yM h)) (qL16).toNat) 37 64).toNat) v52) 37 64) (Eq.trans (zs_na (by decide) : (zs (zs (zs (zs (zs (zs (yLyB (yM h) (yP1 (yM h)) (yToA (yM h)) (yW1 (yM h)) (qL16).toNat) 95 qL16.toNat (w32 (((yLyB (yM h) (yP1 (yM h)) (yToA (yM h)) (yW1 (yM h)) (qL16).toNat) 95 qL16.toNat) + (((((yLyB (yM h) (yP1 (yM h)) (yToA (yM h)) (yW1 (yM h)) (qL16).toNat) 80 qL16.toNat) * ((yLyB (yM h) (yP1 (yM h)) (yToA (yM h)) (yW1 (yM h)) (qL16).toNat) 39 (4 * v21.toNat + v23.toNat))) * (10 + ((yLyB (yM h) (yP1 (yM h)) (yToA (yM h)) (yW1 (yM h)) (qL16).toNat) 81 qL16.toNat))) / 24)))) 170 (((yLyB (yM h) (yP1 (yM h)) (yToA (yM h)) (yW1 (yM h)) (qL16).toNat) 37 64).toNat) qL16) 171 (((yLyB (yM h) (yP1 (yM h)) (yToA (yM h)) (yW1 (yM h)) (qL16).toNat) 37 64).toNat) ((yLyB (yM h) (yP1 (yM h)) (yToA (yM h)) (yW1 (yM h)) (qL16).toNat) 37 0)) 172 (((yLyB (yM h) (yP1 (yM h)) (yToA (yM h)) (yW1 (yM h)) (qL16).toNat) 37 64).toNat) ((yLyB (yM h) (yP1 (yM h)) (yToA (yM h)) (yW1 (yM h)) (qL16).toNat) 85 qL16.toNat)) 173 (((yLyB (yM h) (yP1 (yM h)) (yToA (yM h)) (yW1 (yM h)) (qL16).toNat) 37 64).toNat) (yStq (zs (zs (zs (zs (yLyB (yM h) (yP1 (yM h)) (yToA (yM h)) (yW1 (yM h)) (qL16).toNat) 95 qL16.toNat (w32 (((yLyB (yM h) (yP1 (yM h)) (yToA (yM h)) (yW1 (yM h)) (qL16).toNat) 95 qL16.toNat) + (((((yLyB (yM h) (yP1 (yM h)) (yToA (yM h)) (yW1 (yM h)) (qL16).toNat) 80 qL16.toNat) * ((yLyB (yM h) (yP1 (yM h)) (yToA (yM h)) (yW1 (yM h)) (qL16).toNat) 39 (4 * v21.toNat + v23.toNat))) * (10 + ((yLyB (yM h) (yP1 (yM h)) (yToA (yM h)) (yW1 (yM h)) (qL16).toNat) 81 qL16.toNat))) / 24)))) 170 (((yLyB (yM h) (yP1 (yM h)) (yToA (yM h)) (yW1 (yM h)) (qL16).toNat) 37 64).toNat) qL16) 171 (((yLyB (yM h) (yP1 (yM h)) (yToA (yM h)) (yW1 (yM h)) (qL16).toNat) 37 64).toNat) ((yLyB (yM h) (yP1 (yM h)) (yToA (yM h)) (yW1 (yM h)) (qL16).toNat) 37 0)) 172 (((yLyB (yM h) (yP1 (yM h)) (yToA (yM h)) (yW1 (yM h)) (qL16).toNat) 37 64).toNat) ((yLyB (yM h) (yP1 (yM h)) (yToA (yM h)) (yW1 (yM h)) (qL16).toNat) 85 qL16.toNat)) qL16.toNat ((yLyB (yM h) (yP1 (yM h)) (yToA (yM h)) (yW1 (yM h)) (qL16).toNat) 81 qL16.toNat))) 174 (((yLyB (yM h) (yP1 (yM h)) (yToA (yM h)) (yW1 (yM h)) (qL16).toNat) 37 64).toNat) v52) 37 64 = (zs (zs (zs (zs (zs (yLyB (yM h) (yP1 (yM h)) (yToA (yM h)) (yW1 (yM h)) (qL16).toNat) 95 qL16.toNat (w32 (((yLyB (yM h) (yP1 (yM h)) (yToA (yM h)) (yW1 (yM h)) (qL16).toNat) 95 qL16.toNat) + (((((yLyB (yM h) (yP1 (yM h)) (yToA (yM h)) (yW1 (yM h)) (qL16).toNat) 80 qL16.toNat) * ((yLyB (yM h) (yP1 (yM h)) (yToA (yM h)) (yW1 (yM h)) (qL16).toNat) 39 (4 * v21.toNat + v23.toNat))) * (10 + ((yLyB (yM h) (yP1 (yM h)) (yToA (yM h)) (yW1 (yM h)) (qL16).toNat) 81 qL16.toNat))) / 24)))) 170 (((yLyB (yM h) (yP1 (yM h)) (yToA (yM h)) (yW1 (yM h)) (qL16).toNat) 37 64).toNat) qL16) 171 (((yLyB (yM h) (yP1 (yM h)) (yToA (yM h)) (yW1 (yM h)) (qL16).toNat) 37 64).toNat) ((yLyB (yM h) (yP1 (yM h)) (yToA (yM h)) (yW1 (yM h)) (qL16).toNat) 37 0)) 172 (((yLyB (yM h) (yP1 (yM h)) (yToA (yM h)) (yW1 (yM h)) (qL16).toNat) 37 64).toNat) ((yLyB (yM h) (yP1 (yM h)) (yToA (yM h)) (yW1 (yM h)) (qL16).toNat) 85 qL16.toNat)) 173 (((yLyB (yM h) (yP1 (yM h)) (yToA (yM h)) (yW1 (yM h)) (qL16).toNat) 37 64).toNat) (yStq (zs (zs (zs (zs (yLyB (yM h) (yP1 (yM h)) (yToA (yM h)) (yW1 (yM h)) (qL16).toNat) 95 qL16.toNat (w32 (((yLyB (yM h) (yP1 (yM h)) (yToA (yM h)) (yW1 (yM h)) (qL16).toNat) 95 qL16.toNat) + (((((yLyB (yM h) (yP1 (yM h)) (yToA (yM h)) (yW1 (yM h)) (qL16).toNat) 80 qL16.toNat) * ((yLyB (yM h) (yP1 (yM h)) (yToA (yM h)) (yW1 (yM h)) (qL16).toNat) 39 (4 * v21.toNat + v23.toNat))) * (10 + ((yLyB (yM h) (yP1 (yM h)) (yToA (yM h)) (yW1 (yM h)) (qL16).toNat) 81 qL16.toNat))) / 24)))) 170 (((yLyB (yM h) (yP1 (yM h)) (yToA (yM h)) (yW1 (yM h)) (qL16).toNat) 37 64).toNat) qL16) 171 (((yLyB (yM h) (yP1 (yM h)) (yToA (yM h)) (yW1 (yM h)) (qL16).toNat) 37 64).toNat) ((yLyB (yM h) (yP1 (yM h)) (yToA (yM h)) (yW1 (yM h)) (qL16).toNat) 37 0)) 172 (((yLyB (yM h) (yP1 (yM h)) (yToA (yM h)) (yW1 (yM h)) (qL16).toNat) 37 64).toNat) ((yLyB (yM h) (yP1 (yM h)) (yToA (yM h)) (yW1 (yM h)) (qL16).toNat) 85 qL16.toNat)) qL16.toNat ((yLyB (yM h) (yP1 (yM h)) (yToA (yM h)) (yW1 (yM h)) (qL16).toNat) 81 qL16.toNat))) 37 64) (Eq.trans (zs_na (by decide) : (zs (zs (zs (zs (zs (yLyB (yM h) (yP1 (yM h)) (yToA (yM h)) (yW1 (yM h)) (qL16).toNat) 95 qL16.toNat (w32 (((yLyB (yM h) (yP1 (yM h)) (yToA (yM h)) (yW1 (yM h)) (qL16).toNat) 95 qL16.toNat) + (((((yLyB (yM h) (yP1 (yM h)) (yToA (yM h)) (yW1 (yM h)) (qL16).toNat) 80 qL16.toNat) * ((yLyB (yM h) (yP1 (yM h)) (yToA (yM h)) (yW1 (yM h)) (qL16).toNat) 39 (4 * v21.toNat + v23.toNat))) * (10 + ((yLyB (yM h) (yP1 (yM h)) (yToA (yM h)) (yW1 (yM h)) (qL16).toNat) 81 qL16.toNat))) / 24)))) 170 (((yLyB (yM h) (yP1 (yM h)) (yToA (yM h)) (yW1 (yM h)) (qL16).toNat) 37 64).toNat) qL16) 171 (((yLyB (yM h) (yP1 (yM h)) (yToA (yM h)) (yW1 (yM h)) (qL16).toNat) 37 64).toNat) ((yLyB (yM h) (yP1 (yM h)) (yToA (yM h)) (yW1 (yM h)) (qL16).toNat) 37 0)) 172 (((yLyB (yM h) (yP1 (yM h)) (yToA (yM h)) (yW1 (yM h)) (qL16).toNat) 37 64).toNat) ((yLyB (yM h) (yP1 (yM h)) (yToA (yM h)) (yW1 (yM h)) (qL16).toNat) 85 qL16.toNat)) 173 (((yLyB (yM h) (yP1 (yM h)) (yToA (yM h)) (yW1 (yM h)) (qL16).toNat) 37 64).toNat) (yStq (zs (zs (zs (zs (yLyB (yM h) (yP1 (yM h)) (yToA (yM h)) (yW1 (yM h)) (qL16).toNat) 95 qL16.toNat (w32 (((yLyB (yM h) (yP1 (yM h)) (yToA (yM h)) (yW1 (yM h)) (qL16).toNat) 95 qL16.toNat) + (((((yLyB (yM h) (yP1 (yM h)) (yToA (yM h)) (yW1 (yM h)) (qL16).toNat) 80 qL16.toNat) * ((yLyB (yM h) (yP1 (yM h)) (yToA (yM h)) (yW1 (yM h)) (qL16).toNat) 39 (4 * v21.toNat + v23.toNat))) * (10 + ((yLyB (yM h) (yP1 (yM h)) (yToA (yM h)) (yW1 (yM h)) (qL16).toNat) 81 qL16.toNat))) / 24)))) 170 (((yLyB (yM h) (yP1 (yM h)) (yToA (yM h)) (yW1 (yM h)) (qL16).toNat) 37 64).toNat) qL16) 171 (((yLyB (yM h) (yP1 (yM h)) (yToA (yM h)) (yW1 (yM h)) (qL16).toNat) 37 64).toNat) ((yLyB (yM h) (yP1 (yM h)) (yToA (yM h)) (yW1 (yM h)) (qL16).toNat) 37 0)) 172 (((yLyB (yM h) (yP1 (yM h)) (yToA (yM h)) (yW1 (yM h)) (qL16).toNat) 37 64).toNat) ((yLyB (yM h) (yP1 (yM h)) (yToA (yM h)) (yW1 (yM h)) (qL16).toNat) 85 qL16.toNat)) qL16.toNat ((yLyB (yM h) (yP1 (yM h)) (yToA (yM h)) (yW1 (yM h)) (qL16).toNat) 81 qL16.toNat))) 37 64 = (zs (zs (zs (zs (yLyB (yM h) (yP1 (yM h)) (yToA (yM h)) (yW1 (yM h)) (qL16).toNat) 95 qL16.toNat (w32 (((yLyB (yM h) (yP1 (yM h)) (yToA (yM h)) (yW1 (yM h)) (qL16).toNat) 95 qL16.toNat) + (((((yLyB (yM h) (yP1 (yM h)) (yToA (yM h)) (yW1 (yM h)) (qL16).toNat) 80 qL16.toNat) * ((yLyB (yM h) (yP1 (yM h)) (yToA (yM h)) (yW1 (yM h)) (qL16).toNat) 39 (4 * v21.toNat + v23.toNat))) * (10 + ((yLyB (yM h) (yP1 (yM h)) (yToA (yM h)) (yW1 (yM h)) (qL16).toNat) 81 qL16.toNat))) / 24)))) 170 (((yLyB (yM h) (yP1 (yM h)) (yToA (yM h)) (yW1 (yM h)) (qL16).toNat) 37 64).toNat) qL16) 171 (((yLyB (yM h) (yP1 (yM h)) (yToA (yM h)) (yW1 (yM h)) (qL16).toNat) 37 64).toNat) ((yLyB (yM h) (yP1 (yM h)) (yToA (yM h)) (yW1 (yM h)) (qL16).toNat) 37 0)) 172 (((yLyB (yM h) (yP1 (yM h)) (yToA (yM h)) (yW1 (yM h)) (qL16).toNat) 37 64).toNat) ((yLyB (yM h) (yP1 (yM h)) (yToA (yM h)) (yW1 (yM h)) (qL16).toNat) 85 qL16.toNat)) 37 64) (Eq.trans (zs_na (by decide) : (zs (zs (zs (zs (yLyB (yM h) (yP1 (yM h)) (yToA (yM h)) (yW1 (yM h)) (qL16).toNat) 95 qL16.toNat (w32 (((yLyB (yM h) (yP1 (yM h)) (yToA (yM h)) (yW1 (yM h)) (qL16).toNat) 95 qL16.toNat) + (((((yLyB (yM h) (yP1 (yM h)) (yToA (yM h)) (yW1 (yM h)) (qL16).toNat) 80 qL16.toNat) * ((yLyB (yM h) (yP1 (yM h)) (yToA (yM h)) (yW1 (yM h)) (qL16).toNat) 39 (4 * v21.toNat + v23.toNat))) * (10 + ((yLyB (yM h) (yP1 (yM h)) (yToA (yM h)) (yW1 (yM h)) (qL16).toNat) 81 qL16.toNat))) / 24)))) 170 (((yLyB (yM h) (yP1 (yM h)) (yToA (yM h)) (yW1 (yM h)) (qL16).toNat) 37 64).toNat) qL16) 171 (((yLyB (yM h) (yP1 (yM h)) (yToA (yM h)) (yW1 (yM h)) (qL16).toNat) 37 64).toNat) ((yLyB (yM h) (yP1 (yM h)) (yToA (yM h)) (yW1 (yM h)) (qL16).toNat) 37 0)) 172 (((yLyB (yM h) (yP1 (yM h)) (yToA (yM h)) (yW1 (yM h)) (qL16).toNat) 37 64).toNat) ((yLyB (yM h) (yP1 (yM h)) (yToA (yM h)) (yW1 (yM h)) (qL16).toNat) 85 qL16.toNat)) 37 64 = (zs (zs (zs (yLyB (yM h) (yP1 (yM h)) (yToA (yM h)) (yW1 (yM h)) (qL16).toNat) 95 qL16.toNat (w32 (((yLyB (yM h) (yP1 (yM h)) (yToA (yM h)) (yW1 (yM h)) (qL16).toNat) 95 qL16.toNat) + (((((yLyB (yM h) (yP1 (yM h)) (yToA (yM h)) (yW1 (yM h)) (qL16).toNat) 80 qL16.toNat) * ((yLyB (yM h) (yP1 (yM h)) (yToA (yM h)) (yW1 (yM h)) (qL16).toNat) 39 (4 * v21.toNat + v23.toNat))) * (10 + ((yLyB (yM h) (yP1 (yM h)) (yToA (yM h)) (yW1 (yM h)) (qL16).toNat) 81 qL16.toNat))) / 24)))) 170 (((yLyB (yM h) (yP1 (yM h)) (yToA (yM h)) (yW1 (yM h)) (qL16).toNat) 37 64).toNat) qL16) 171 (((yLyB (yM h) (yP1 (yM h)) (yToA (yM h)) (yW1 (yM h)) (qL16).toNat) 37 64).toNat) ((yLyB (yM h) (yP1 (yM h)) (yToA (yM h)) (yW1 (yM h)) (qL16).toNat) 37 0)) 37 64) (Eq.trans (zs_na (by decide) : (zs (zs (zs (yLyB (yM h) (yP1 (yM h)) (yToA (yM h)) (yW1 (yM h)) (qL16).toNat) 95 qL16.toNat (w32 (((yLyB (yM h) (yP1 (yM h)) (yToA (yM h)) (yW1 (yM h)) (qL16).toNat) 95 qL16.toNat) + (((((yLyB (yM h) (yP1 (yM h)) (yToA (yM h)) (yW1 (yM h)) (qL16).toNat) 80 qL16.toNat) * ((yLyB (yM h) (yP1 (yM h)) (yToA (yM h)) (yW1 (yM h)) (qL16).toNat) 39 (4 * v21.toNat + v23.toNat))) * (10 + ((yLyB (yM h) (yP1 (yM h)) (yToA (yM h)) (yW1 (yM h)) (qL16).toNat) 81 qL16.toNat))) / 24)))) 170 (((yLyB (yM h) (yP1 (yM h)) (yToA (yM h)) (yW1 (yM h)) (qL16).toNat) 37 64).toNat) qL16) 171 (((yLyB (yM h) (yP1 (yM h)) (yToA (yM h)) (yW1 (yM h)) (qL16).toNat) 37 64).toNat) ((yLyB (yM h) (yP1 (yM h)) (yToA (yM h)) (yW1 (yM h)) (qL16).toNat) 37 0)) 37 64 = (zs (zs (yLyB (yM h) (yP1 (yM h)) (yToA (yM h)) (yW1 (yM h)) (qL16).toNat) 95 qL16.toNat (w32 (((yLyB (yM h) (yP1 (yM h)) (yToA (yM h)) (yW1 (yM h)) (qL16).toNat) 95 qL16.toNat) + (((((yLyB (yM h) (yP1 (yM h)) (yToA (yM h)) (yW1 (yM h)) (qL16).toNat) 80 qL16.toNat) * ((yLyB (yM h) (yP1 (yM h)) (yToA (yM h)) (yW1 (yM h)) (qL16).toNat) 39 (4 * v21.toNat + v23.toNat))) * (10 + ((yLyB (yM h) (yP1 (yM h)) (yToA (yM h)) (yW1 (yM h)) (qL16).toNat) 81 qL16.toNat))) / 24)))) 170 (((yLyB (yM h) (yP1 (yM h)) (yToA (yM h)) (yW1 (yM h)) (qL16).toNat) 37 64).toNat) qL16) 37 64) (Eq.trans (zs_na (by decide) : (zs (zs (yLyB (yM h) (yP1 (yM h)) (yToA (yM h)) (yW1 (yM h)) (qL16).toNat) 95 qL16.toNat (w32 (((yLyB (yM h) (yP1 (yM h)) (yToA (yM h)) (yW1 (yM h)) (qL16).toNat) 95 qL16.toNat) + (((((yLyB (yM h) (yP1 (yM h)) (yToA (yM h)) (yW1 (yM h)) (qL16).toNat) 80 qL16.toNat) * ((yLyB (yM h) (yP1 (yM h)) (yToA (yM h)) (yW1 (yM h)) (qL16).toNat) 39 (4 * v21.toNat + v23.toNat))) * (10 + ((yLyB (yM h) (yP1 (yM h)) (yToA (yM h)) (yW1 (yM h)) (qL16).toNat) 81 qL16.toNat))) / 24)))) 170 (((yLyB (yM h) (yP1 (yM h)) (yToA (yM h)) (yW1 (yM h)) (qL16).toNat) 37 64).toNat) qL16) 37 64 = (zs (yLyB (yM h) (yP1 (yM h)) (yToA (yM h)) (yW1 (yM h)) (qL16).toNat) 95 qL16.toNat (w32 (((yLyB (yM h) (yP1 (yM h)) (yToA (yM h)) (yW1 (yM h)) (qL16).toNat) 95 qL16.toNat) + (((((yLyB (yM h) (yP1 (yM h)) (yToA (yM h)) (yW1 (yM h)) (qL16).toNat) 80 qL16.toNat) * ((yLyB (yM h) (yP1 (yM h)) (yToA (yM h)) (yW1 (yM h)) (qL16).toNat) 39 (4 * v21.toNat + v23.toNat))) * (10 + ((yLyB (yM h) (yP1 (yM h)) (yToA (yM h)) (yW1 (yM h)) (qL16).toNat) 81 qL16.toNat))) / 24)))) 37 64) (Eq.trans (zs_na (by decide) : (zs (yLyB (yM h) (yP1 (yM h)) (yToA (yM h)) (yW1 (yM h)) (qL16).toNat) 95 qL16.toNat (w32 (((yLyB (yM h) (yP1 (yM h)) (yToA (yM h)) (yW1 (yM h)) (qL16).toNat) 95 qL16.toNat) + (((((yLyB (yM h) (yP1 (yM h)) (yToA (yM h)) (yW1 (yM h)) (qL16).toNat) 80 qL16.toNat) * ((yLyB (yM h) (yP1 (yM h)) (yToA (yM h)) (yW1 (yM h)) (qL16).toNat) 39 (4 * v21.toNat + v23.toNat))) * (10 + ((yLyB (yM h) (yP1 (yM h)) (yToA (yM h)) (yW1 (yM h)) (qL16).toNat) 81 qL16.toNat))) / 24)))) 37 64 = (yLyB (yM h) (yP1 (yM h)) (yToA (yM h)) (yW1 (yM h)) (qL16).toNat) 37 64) rfl)))))))))
                refine zwW_p [(0, 1, 0)] (q := 223) (ls' := [(2, 37), (0, v3), (0, qL16)]) (st' := [(0, 1), (0, v57), (2, 37)]) (by decide +kernel) rfl ?_
                refine zwW_add (nx := 224) (by decide +kernel) (by first | omega | exact ⟨by omega, by omega⟩) ?_
                refine zwW_ps Ih56 (kd := 13) (bn := 64) (n := 97) (lo := 0) (hi := 300) (nx := 227) (by decide +kernel) (by first | omega | exact ⟨by omega, by omega⟩) ?_
                intro h58 eh58 Ih58
                have th58_37_0 : fld h58 37 0 = fld h56 37 0 := by rw [eh58]; exact fld_wr (by decide)
                have th58_37_1 : fld h58 37 1 = fld h56 37 1 := by rw [eh58]; exact fld_wr (by decide)
                have th58_37_2 : fld h58 37 2 = fld h56 37 2 := by rw [eh58]; exact fld_wr (by decide)
                have th58_37_64 : fld h58 37 64 = (v57 + 1) := by rw [eh58]; exact fld_wr_eq (Ih56.s (a1 := 37) (a2 := 37) (k := 13) (n := 97) (by decide +kernel) (by decide) (by decide)) (by decide)
                have Kh58_176 : fld h58 176 = fld h7 176 := (funext fun j => fld_oth eh58 (Or.inl (by decide))).trans Kh56_176
                have Kh58_66 : fld h58 66 = fld hL13 66 := (funext fun j => fld_oth eh58 (Or.inl (by decide))).trans Kh56_66
                have Zh58 : yM h58 = (zs (zs (zs (zs (zs (zs (zs (zs (yLyB (yM h) (yP1 (yM h)) (yToA (yM h)) (yW1 (yM h)) (qL16).toNat) 95 qL16.toNat (w32 (((yLyB (yM h) (yP1 (yM h)) (yToA (yM h)) (yW1 (yM h)) (qL16).toNat) 95 qL16.toNat) + (((((yLyB (yM h) (yP1 (yM h)) (yToA (yM h)) (yW1 (yM h)) (qL16).toNat) 80 qL16.toNat) * ((yLyB (yM h) (yP1 (yM h)) (yToA (yM h)) (yW1 (yM h)) (qL16).toNat) 39 (4 * v21.toNat + v23.toNat))) * (10 + ((yLyB (yM h) (yP1 (yM h)) (yToA (yM h)) (yW1 (yM h)) (qL16).toNat) 81 qL16.toNat))) / 24)))) 170 (((yLyB (yM h) (yP1 (yM h)) (yToA (yM h)) (yW1 (yM h)) (qL16).toNat) 37 64).toNat) qL16) 171 (((yLyB (yM h) (yP1 (yM h)) (yToA (yM h)) (yW1 (yM h)) (qL16).toNat) 37 64).toNat) ((yLyB (yM h) (yP1 (yM h)) (yToA (yM h)) (yW1 (yM h)) (qL16).toNat) 37 0)) 172 (((yLyB (yM h) (yP1 (yM h)) (yToA (yM h)) (yW1 (yM h)) (qL16).toNat) 37 64).toNat) ((yLyB (yM h) (yP1 (yM h)) (yToA (yM h)) (yW1 (yM h)) (qL16).toNat) 85 qL16.toNat)) 173 (((yLyB (yM h) (yP1 (yM h)) (yToA (yM h)) (yW1 (yM h)) (qL16).toNat) 37 64).toNat) (yStq (zs (zs (zs (zs (yLyB (yM h) (yP1 (yM h)) (yToA (yM h)) (yW1 (yM h)) (qL16).toNat) 95 qL16.toNat (w32 (((yLyB (yM h) (yP1 (yM h)) (yToA (yM h)) (yW1 (yM h)) (qL16).toNat) 95 qL16.toNat) + (((((yLyB (yM h) (yP1 (yM h)) (yToA (yM h)) (yW1 (yM h)) (qL16).toNat) 80 qL16.toNat) * ((yLyB (yM h) (yP1 (yM h)) (yToA (yM h)) (yW1 (yM h)) (qL16).toNat) 39 (4 * v21.toNat + v23.toNat))) * (10 + ((yLyB (yM h) (yP1 (yM h)) (yToA (yM h)) (yW1 (yM h)) (qL16).toNat) 81 qL16.toNat))) / 24)))) 170 (((yLyB (yM h) (yP1 (yM h)) (yToA (yM h)) (yW1 (yM h)) (qL16).toNat) 37 64).toNat) qL16) 171 (((yLyB (yM h) (yP1 (yM h)) (yToA (yM h)) (yW1 (yM h)) (qL16).toNat) 37 64).toNat) ((yLyB (yM h) (yP1 (yM h)) (yToA (yM h)) (yW1 (yM h)) (qL16).toNat) 37 0)) 172 (((yLyB (yM h) (yP1 (yM h)) (yToA (yM h)) (yW1 (yM h)) (qL16).toNat) 37 64).toNat) ((yLyB (yM h) (yP1 (yM h)) (yToA (yM h)) (yW1 (yM h)) (qL16).toNat) 85 qL16.toNat)) qL16.toNat ((yLyB (yM h) (yP1 (yM h)) (yToA (yM h)) (yW1 (yM h)) (qL16).toNat) 81 qL16.toNat))) 174 (((yLyB (yM h) (yP1 (yM h)) (yToA (yM h)) (yW1 (yM h)) (qL16).toNat) 37 64).toNat) v52) 175 (((yLyB (yM h) (yP1 (yM h)) (yToA (yM h)) (yW1 (yM h)) (qL16).toNat) 37 64).toNat) v55) 37 64 (((yLyB (yM h) (yP1 (yM h)) (yToA (yM h)) (yW1 (yM h)) (qL16).toNat) 37 64) + 1)) := by rw [yM_ws (i := 64) (kd := 13) (n := 97) rfl (Ih56.s (a1 := 37) (a2 := 37) (by decide +kernel) (by decide) (by decide)) (by decide) eh58, Zh56, sv57]
                have Rh58 : zMR ms194 h h58 := Rh56.w (a1 := 37) (a2 := 37) (j1 := 64) (j2 := 65) (by decide +kernel) (by first | decide | exact ⟨by decide, by decide⟩) (by first | decide | exact ⟨by decide, by decide⟩) eh58
                have S227 : zNZ (fld h7 176) ((qL16).toNat + 1) = zNZ (fld h7 176) (qL16).toNat + (if fld h7 176 (qL16).toNat = 0 then 0 else 1) := rfl
                have K227 := congrFun Kh58_176 (qL16).toNat
                have K227 : (zs (zs (zs (zs (zs (zs (zs (zs (yLyB (yM h) (yP1 (yM h)) (yToA (yM h)) (yW1 (yM h)) (qL16).toNat) 95 qL16.toNat (w32 (((yLyB (yM h) (yP1 (yM h)) (yToA (yM h)) (yW1 (yM h)) (qL16).toNat) 95 qL16.toNat) + (((((yLyB (yM h) (yP1 (yM h)) (yToA (yM h)) (yW1 (yM h)) (qL16).toNat) 80 qL16.toNat) * ((yLyB (yM h) (yP1 (yM h)) (yToA (yM h)) (yW1 (yM h)) (qL16).toNat) 39 (4 * v21.toNat + v23.toNat))) * (10 + ((yLyB (yM h) (yP1 (yM h)) (yToA (yM h)) (yW1 (yM h)) (qL16).toNat) 81 qL16.toNat))) / 24)))) 170 (((yLyB (yM h) (yP1 (yM h)) (yToA (yM h)) (yW1 (yM h)) (qL16).toNat) 37 64).toNat) qL16) 171 (((yLyB (yM h) (yP1 (yM h)) (yToA (yM h)) (yW1 (yM h)) (qL16).toNat) 37 64).toNat) ((yLyB (yM h) (yP1 (yM h)) (yToA (yM h)) (yW1 (yM h)) (qL16).toNat) 37 0)) 172 (((yLyB (yM h) (yP1 (yM h)) (yToA (yM h)) (yW1 (yM h)) (qL16).toNat) 37 64).toNat) ((yLyB (yM h) (yP1 (yM h)) (yToA (yM h)) (yW1 (yM h)) (qL16).toNat) 85 qL16.toNat)) 173 (((yLyB (yM h) (yP1 (yM h)) (yToA (yM h)) (yW1 (yM h)) (qL16).toNat) 37 64).toNat) (yStq (zs (zs (zs (zs (yLyB (yM h) (yP1 (yM h)) (yToA (yM h)) (yW1 (yM h)) (qL16).toNat) 95 qL16.toNat (w32 (((yLyB (yM h) (yP1 (yM h)) (yToA (yM h)) (yW1 (yM h)) (qL16).toNat) 95 qL16.toNat) + (((((yLyB (yM h) (yP1 (yM h)) (yToA (yM h)) (yW1 (yM h)) (qL16).toNat) 80 qL16.toNat) * ((yLyB (yM h) (yP1 (yM h)) (yToA (yM h)) (yW1 (yM h)) (qL16).toNat) 39 (4 * v21.toNat + v23.toNat))) * (10 + ((yLyB (yM h) (yP1 (yM h)) (yToA (yM h)) (yW1 (yM h)) (qL16).toNat) 81 qL16.toNat))) / 24)))) 170 (((yLyB (yM h) (yP1 (yM h)) (yToA (yM h)) (yW1 (yM h)) (qL16).toNat) 37 64).toNat) qL16) 171 (((yLyB (yM h) (yP1 (yM h)) (yToA (yM h)) (yW1 (yM h)) (qL16).toNat) 37 64).toNat) ((yLyB (yM h) (yP1 (yM h)) (yToA (yM h)) (yW1 (yM h)) (qL16).toNat) 37 0)) 172 (((yLyB (yM h) (yP1 (yM h)) (yToA (yM h)) (yW1 (yM h)) (qL16).toNat) 37 64).toNat) ((yLyB (yM h) (yP1 (yM h)) (yToA (yM h)) (yW1 (yM h)) (qL16).toNat) 85 qL16.toNat)) qL16.toNat ((yLyB (yM h) (yP1 (yM h)) (yToA (yM h)) (yW1 (yM h)) (qL16).toNat) 81 qL16.toNat))) 174 (((yLyB (yM h) (yP1 (yM h)) (yToA (yM h)) (yW1 (yM h)) (qL16).toNat) 37 64).toNat) v52) 175 (((yLyB (yM h) (yP1 (yM h)) (yToA (yM h)) (yW1 (yM h)) (qL16).toNat) 37 64).toNat) v55) 37 64 (((yLyB (yM h) (yP1 (yM h)) (yToA (yM h)) (yW1 (yM h)) (qL16).toNat) 37 64) + 1)) = yLyB (yM h) (yP1 (yM h)) (yToA (yM h)) (yW1 (yM h)) ((qL16).toNat + 1) := by
                  first
                  | (rw [yLyB_z (by omega)]; exact zs_cg rfl rfl (Ev32.symm.trans V116))
                  | (rw [yLyB_p (by omega) HV]; exact zs_cg (zs_cg (zs_cg (zs_cg (zs_cg (zs_cg (zs_cg (zs_cg rfl rfl (Ev32.symm.trans V116)) E64 (by omega)) E64 yLyB_0) E64 (yLyB_n (by decide))) E64 (by unfold yStq; simp (disch := decide) only [zs_na, yLyB_n])) E64 V201) E64 V216) rfl (by rw [yLyB_64]))
                refine zwW_inc (i := 2) (c := 1) (x := qL16) (nx := 230) (by decide +kernel) rfl (by first | omega | exact ⟨by omega, by omega⟩) (ls' := [(2, 37), (0, v3), (0, (qL16 + 1))]) rfl ?_
                refine zwW_p [(24, 61, 0)] (q := 61) (ls' := [(2, 37), (0, v3), (0, (qL16 + 1))]) (st' := []) (by decide +kernel) rfl ?_
                exact IHL16 ((100 - (qL16 + 1))).toNat (by omega) (qL16 + 1) h58 rfl (by omega) (by omega) (by rw [show (qL16 + 1).toNat = (qL16).toNat + 1 by omega, S227]; first | (rw [if_neg (by omega)]; omega) | (rw [if_pos (by omega)]; omega)) (Kh58_176) (Kh58_66) (by omega) (by rw [show (qL16 + 1).toNat = (qL16).toNat + 1 by omega]; exact Zh58.trans K227) Ih58 Rh58
              · refine zwW_p [(24, 227, 0)] (q := 227) (ls' := [(2, 37), (0, v3), (0, qL16)]) (st' := []) (by decide +kernel) rfl ?_
                have S227 : zNZ (fld h7 176) ((qL16).toNat + 1) = zNZ (fld h7 176) (qL16).toNat + (if fld h7 176 (qL16).toNat = 0 then 0 else 1) := rfl
                have K227 := congrFun Kh33_176 (qL16).toNat
                have K227 : (zs (yLyB (yM h) (yP1 (yM h)) (yToA (yM h)) (yW1 (yM h)) (qL16).toNat) 95 qL16.toNat (w32 (((yLyB (yM h) (yP1 (yM h)) (yToA (yM h)) (yW1 (yM h)) (qL16).toNat) 95 qL16.toNat) + (((((yLyB (yM h) (yP1 (yM h)) (yToA (yM h)) (yW1 (yM h)) (qL16).toNat) 80 qL16.toNat) * ((yLyB (yM h) (yP1 (yM h)) (yToA (yM h)) (yW1 (yM h)) (qL16).toNat) 39 (4 * v21.toNat + v23.toNat))) * (10 + ((yLyB (yM h) (yP1 (yM h)) (yToA (yM h)) (yW1 (yM h)) (qL16).toNat) 81 qL16.toNat))) / 24)))) = yLyB (yM h) (yP1 (yM h)) (yToA (yM h)) (yW1 (yM h)) ((qL16).toNat + 1) := by
                  first
                  | (rw [yLyB_z (by omega)]; exact zs_cg rfl rfl (Ev32.symm.trans V116))
                  | (rw [yLyB_p (by omega) HV]; exact zs_cg (zs_cg (zs_cg (zs_cg (zs_cg (zs_cg (zs_cg (zs_cg rfl rfl (Ev32.symm.trans V116)) E64 (by omega)) E64 yLyB_0) E64 (yLyB_n (by decide))) E64 (by unfold yStq; simp (disch := decide) only [zs_na, yLyB_n])) E64 V201) E64 V216) rfl (by rw [yLyB_64]))
                refine zwW_inc (i := 2) (c := 1) (x := qL16) (nx := 230) (by decide +kernel) rfl (by first | omega | exact ⟨by omega, by omega⟩) (ls' := [(2, 37), (0, v3), (0, (qL16 + 1))]) rfl ?_
                refine zwW_p [(24, 61, 0)] (q := 61) (ls' := [(2, 37), (0, v3), (0, (qL16 + 1))]) (st' := []) (by decide +kernel) rfl ?_
                exact IHL16 ((100 - (qL16 + 1))).toNat (by omega) (qL16 + 1) h33 rfl (by omega) (by omega) (by rw [show (qL16 + 1).toNat = (qL16).toNat + 1 by omega, S227]; first | (rw [if_neg (by omega)]; omega) | (rw [if_pos (by omega)]; omega)) (Kh33_176) (Kh33_66) (by omega) (by rw [show (qL16 + 1).toNat = (qL16).toNat + 1 by omega]; exact Zh33.trans K227) Ih33 Rh33
        exact L16 _ 0 hL13 rfl (by omega) (by omega) (by show _ = _ + 0; omega) (iL13_3) ((rfl : fld hL13 66 = _)) (by omega) (E59) IhL13 RhL13
      · refine zwW_p [(1, 0, 2)] (q := 42) (ls' := [(2, 37), (0, v3), (0, vL13)]) (st' := [(2, 37)]) (by decide +kernel) rfl ?_
        refine zwW_gc IhL13 (kd := 13) (bn := 7) (n := 97) (c := 66) (nx := 45) (by decide +kernel) ?_
        refine zwW_p [(1, 2, 0), (1, 0, 2)] (q := 47) (ls' := [(2, 37), (0, v3), (0, vL13)]) (st' := [(2, 37), (0, vL13), (2, 66)]) (by decide +kernel) rfl ?_
        refine zwW_gc IhL13 (kd := 13) (bn := 66) (n := 97) (c := 177) (nx := 50) (by decide +kernel) ?_
        refine zwW_p [(1, 2, 0)] (q := 51) (ls' := [(2, 37), (0, v3), (0, vL13)]) (st' := [(0, vL13), (2, 177), (0, vL13), (2, 66)]) (by decide +kernel) rfl ?_
        have ib9 : 0 ≤ vL13 ∧ vL13 < ((8 : Nat) : Int) := (by first | omega | exact ⟨by omega, by omega⟩)
        refine zwW_al IhL13 (a1 := 177) (a2 := 177) (kd := 20) (n := 8) (t := 0) (lo := -2147483648) (hi := 2147483647) (nx := 52) (by decide +kernel) (by first | decide | exact ⟨by decide, by decide⟩) ib9 ?_
        intro v59 ev59 lv59 uv59
        refine zwW_as IhL13 (a1 := 66) (a2 := 66) (n := 8) (lo := -2147483648) (hi := 2147483647) (nx := 53) (by decide +kernel) (by first | decide | exact ⟨by decide, by decide⟩) ib9 (by first | omega | exact ⟨by omega, by omega⟩) ?_
        intro h60 eh60 Ih60
        have jbh60 : 0 ≤ vL13.toNat ∧ vL13.toNat < 8 := ⟨Nat.zero_le _, zit ib9⟩
        have th60_37_0 : fld h60 37 0 = fld hL13 37 0 := by rw [eh60]; exact fld_wr (Or.inl (by decide))
        have th60_37_1 : fld h60 37 1 = fld hL13 37 1 := by rw [eh60]; exact fld_wr (Or.inl (by decide))
        have th60_37_2 : fld h60 37 2 = fld hL13 37 2 := by rw [eh60]; exact fld_wr (Or.inl (by decide))
        have th60_37_64 : fld h60 37 64 = fld hL13 37 64 := by rw [eh60]; exact fld_wr (Or.inl (by decide))
        have Kh60_176 : fld h60 176 = fld h7 176 := (funext fun j => fld_oth eh60 (Or.inl (by decide))).trans iL13_3
        have Kh60_177 : fld h60 177 = fld h7 177 := (funext fun j => fld_oth eh60 (Or.inl (by decide))).trans iL13_4
        have W52 : ∀ u : Nat, (u : Int) < vL13 + 1 → fld h60 66 u = fld h7 177 u := by
          intro u hu
          rw [fwi eh60 (IhL13.s (a1 := 66) (a2 := 66) (k := 20) (n := 8) (by decide +kernel) (by decide) (by decide)) (by omega) u]
          by_cases z : u = (vL13).toNat
          · rw [if_pos z, z, ev59]; exact congrFun iL13_4 _
          · rw [if_neg z]; exact iL13_5 u (by omega)
        have V52 : v59 = fld h7 177 (vL13).toNat := by rw [ev59]; exact congrFun iL13_4 _
        have Zh60 : yM h60 = (zs (yCt (zs (zs (yM h) 206 (yP1 (yM h)) (yToA (yM h))) 37 71 (yW1 (yM h))) (fld h7 177) (vL13).toNat) 66 vL13.toNat v59) := by rw [yM_w (a := 66) (n := 8) (i := vL13.toNat) (kd := 20) rfl (IhL13.s (a1 := 66) (a2 := 66) (by decide +kernel) (by decide) (by decide)) jbh60.2 eh60, iL13_7]
        have Rh60 : zMR ms194 h h60 := RhL13.w (a1 := 66) (a2 := 66) (j1 := 0) (j2 := 8) (by decide +kernel) (by first | decide | exact ⟨by decide, by decide⟩) jbh60 eh60
        refine zwW_inc (i := 2) (c := 1) (x := vL13) (nx := 56) (by decide +kernel) rfl (by first | omega | exact ⟨by omega, by omega⟩) (ls' := [(2, 37), (0, v3), (0, (vL13 + 1))]) rfl ?_
        refine zwW_p [(24, 33, 0)] (q := 33) (ls' := [(2, 37), (0, v3), (0, (vL13 + 1))]) (st' := []) (by decide +kernel) rfl ?_
        exact IHL13 ((100 - (vL13 + 1))).toNat (by omega) (vL13 + 1) h60 rfl (by omega) (by omega) (by omega) (Kh60_176) (Kh60_177) (W52) (by omega) (by rw [show (vL13 + 1).toNat = (vL13).toNat + 1 by omega]; exact Zh60.trans (zs_cg rfl rfl V52)) Ih60 Rh60
  exact L13 _ 0 h12 rfl (by omega) (by omega) (by omega) (Kh12_176) (Kh12_177) (fun u hu => by omega) (by omega) (Zh12.trans E32) Ih12 Rh12
end
section
/-! a week, pure -/
section YWK
variable {S T X : zT} {k v i j n a b : Nat} {x y w z : Int} {q : qT} {P : Nat → Nat → Prop}
/-- alike but for some places -/
def zOf (P : Nat → Nat → Prop) (S T : zT) : Prop := ∀ a i, ¬P a i → S a i = T a i
theorem zOf.s (H : zOf P S T) (e : x = y) : zOf P (zs S a i x) (zs T a i y) := fun b j hb => by
  rw [zs_if, zs_if, H b j hb, e]
theorem zOf.it {c d : Prop} [Decidable c] [Decidable d] {A B C D : zT} (e : c ↔ d) (H1 : zOf P A C) (H2 : zOf P B D) : zOf P (if c then A else B) (if d then C else D) := by
  by_cases h : c
  · rw [if_pos h, if_pos (e.1 h)]
    exact H1
  · rw [if_neg h, if_neg (fun z => h (e.2 z))]
    exact H2
def pL (a i : Nat) : Prop := a = 206 ∨ (a = 37 ∧ i = 71)
def pLW (a i : Nat) : Prop := pL a i ∨ a = 72
def pLS (a i : Nat) : Prop := pL a i ∨ a = 93 ∨ a = 71 ∨ a = 77 ∨ a = 78
theorem pL_n (e : a ≠ 206 ∧ (a ≠ 37 ∨ i ≠ 71)) : ¬pL a i := fun z => by unfold pL at z; omega
theorem pLW_n (e : (a ≠ 206 ∧ a ≠ 72) ∧ (a ≠ 37 ∨ i ≠ 71)) : ¬pLW a i := fun z => by unfold pLW pL at z; omega
theorem pLS_n (e : (a ≠ 206 ∧ a ≠ 93 ∧ a ≠ 71) ∧ (a ≠ 77 ∧ a ≠ 78) ∧ (a ≠ 37 ∨ i ≠ 71)) : ¬pLS a i := fun z => by unfold pLS pL at z; omega
/-- buying looks at no week's numbers -/
theorem yDut_c (H : zOf P S T) (h0 : ¬P 37 0) (h1 : ¬P 71 v) : yDut q S v = yDut q T v := by
  unfold yDut
  rw [H 37 0 h0, H 71 v h1]
theorem yByh_o (H : zOf pL S T) : zOf pL (yByh q S k) (yByh q T k) := by
  have t : ∀ b j, (b ≠ 206 ∧ (b ≠ 37 ∨ j ≠ 71)) → S b j = T b j := fun b j e => H b j (pL_n e)
  have d : yDut q S (S 79 k).toNat = yDut q T (T 79 k).toNat := by
    rw [yDut_c H (pL_n (by omega)) (pL_n (by omega)), t 79 k (by omega)]
  have e79 := t 79 k (by omega)
  have c : yCho S (S 79 k).toNat (S 84 k) (yDut q S (S 79 k).toNat) = yCho T (T 79 k).toNat (T 84 k) (yDut q T (T 79 k).toNat) := by
    rw [d, e79, t 84 k (by omega)]
    unfold yCho
    rw [t 67 _ (by omega), t 68 _ (by omega), t 69 _ (by omega), t 70 _ (by omega), t 71 _ (by omega), t 72 _ (by omega)]
  unfold yByh yByd yBya
  rw [c, d, e79]
  have sh : zOf pL (ySlH S (T 79 k).toNat) (ySlH T (T 79 k).toNat) := by
    unfold ySlH
    rw [t 67 _ (by omega), t 68 _ (by omega), t 70 _ (by omega), t 73 _ (by omega), t 76 _ (by omega)]
    exact zOf.it Iff.rfl (((H.s rfl).s rfl).s rfl) ((H.s rfl).s rfl)
  have sm : zOf pL (ySlM S (T 79 k).toNat) (ySlM T (T 79 k).toNat) := by
    unfold ySlM
    rw [t 69 _ (by omega), t 71 _ (by omega), t 73 _ (by omega), t 77 _ (by omega)]
    exact ((H.s rfl).s rfl).s rfl
  rw [t 70 _ (by omega), t 71 _ (by omega), t 84 _ (by omega), t 86 _ (by omega), t 87 _ (by omega), t 88 _ (by omega), t 37 38 (by omega)]
  exact zOf.it Iff.rfl ((sh.s rfl).s rfl) (zOf.it Iff.rfl (((sm.s rfl).s rfl).s rfl) (H.s rfl))
theorem yBys_o (H : zOf pL S T) : ∀ k : Nat, zOf pL (yBys q S k) (yBys q T k)
  | 0 => H
  | k + 1 => by
    have ih := yBys_o H k
    rw [yBys_s, yBys_s, ih 37 0 (pL_n (by omega)), ih 83 k (pL_n (by omega))]
    exact zOf.it Iff.rfl (yByh_o ih) ih
/-- dues and the mill's prices: nor do they, nor at the word -/
theorem yOwe_c (H : zOf pLW S T) : yOwe q S k = yOwe q T k := by
  have t : ∀ b j, ((b ≠ 206 ∧ b ≠ 72) ∧ (b ≠ 37 ∨ j ≠ 71)) → S b j = T b j := fun b j e => H b j (pLW_n e)
  unfold yOwe yNmH yIdl
  rw [t 37 0 (by omega), t 83 k (by omega), t 80 k (by omega), t 81 k (by omega), t 82 k (by omega), t 79 k (by omega), t 39 _ (by omega)]
theorem yDus_o (H : zOf pLW S T) : ∀ k : Nat, zOf pLW (yDus q S k) (yDus q T k)
  | 0 => H
  | k + 1 => by
    have ih := yDus_o H k
    show zOf pLW (yDu1 q _ k) (yDu1 q _ k)
    unfold yDu1
    rw [yOwe_c ih, ih 80 k (pLW_n (by omega)), ih 93 k (pLW_n (by omega))]
    exact zOf.it Iff.rfl (ih.s rfl) ih
theorem yMls_o (H : zOf pLW S T) : ∀ k : Nat, zOf pLW (yMls S k) (yMls T k)
  | 0 => H
  | k + 1 => by
    have ih := yMls_o H k
    show zOf pLW (yMl1 _ k) (yMl1 _ k)
    unfold yMl1
    rw [ih 71 k (pLW_n (by omega)), ih 77 k (pLW_n (by omega)), ih 78 k (pLW_n (by omega))]
    exact ((ih.s rfl).s rfl).s rfl
theorem ySea_o (H : zOf pLW S T) : zOf pLW (ySea q S) (ySea q T) := by
  unfold ySea yMlA yDuA
  have e : ∀ U : zT, yDus q U (U 37 2).toNat 37 1 = U 37 1 := fun U => yDus_n (by decide) _
  rw [e S, e T, H 37 2 (pLW_n (by omega)), H 37 1 (pLW_n (by omega))]
  exact yMls_o (yDus_o H _) _
theorem ySea_n (e : a ≠ 93 ∧ a ≠ 71 ∧ a ≠ 77 ∧ a ≠ 78) : ySea q S a i = S a i := (yMls_n e.2 _).trans (yDus_n e.1 _)
/-- the word looks at the word -/
theorem yWm_o (H : zOf pLS S T) : ∀ u : Nat, yWm S v u = yWm T v u
  | 0 => by rw [yWm_0, yWm_0, H 72 v (pLS_n (by omega))]
  | u + 1 => by rw [yWm_s, yWm_s, yWm_o H u, H 48 _ (pLS_n (by omega)), H 72 u (pLS_n (by omega))]
theorem yWds_o (H : zOf pLS S T) : ∀ k : Nat, zOf pLS (yWds S n k) (yWds T n k)
  | 0 => H
  | k + 1 => by
    rw [yWds_s, yWds_s]
    exact (yWds_o H k).s (yWm_o H n)
theorem yWrA_o (H : zOf pLS S T) : zOf pLS (yWrA S) (yWrA T) := by
  unfold yWrA
  rw [H 37 1 (pLS_n (by omega))]
  exact yWds_o H _
theorem yWrA_n (e : a ≠ 72) : yWrA S a i = S a i := yWds_n e _
/-- the word first or the season first -/
theorem ySea_w : ySea q (yWrA S) = yWrA (ySea q S) := by
  have H1 : zOf pLS S (ySea q S) := fun a i e => (ySea_n ⟨fun z => e (Or.inr (Or.inl z)), fun z => e (Or.inr (Or.inr (Or.inl z))), fun z => e (Or.inr (Or.inr (Or.inr (Or.inl z)))), fun z => e (Or.inr (Or.inr (Or.inr (Or.inr z))))⟩).symm
  have H2 : zOf pLW S (yWrA S) := fun a i e => (yWrA_n (fun z => e (Or.inr z))).symm
  funext a i
  by_cases c : a = 72
  · rw [ySea_n (by omega), c]
    exact yWrA_o H1 72 i (pLS_n (by omega))
  · rw [yWrA_n c]
    by_cases d : pL a i
    · rw [ySea_n (by unfold pL at d; omega), ySea_n (by unfold pL at d; omega), yWrA_n c]
    · exact (ySea_o H2 a i (fun z => z.elim d c)).symm
theorem zOf.of (H : zOf pL S T) (e : ∀ i, S 206 i = T 206 i) (e2 : S 37 71 = T 37 71) : S = T := funext fun a => funext fun i => by
  by_cases d : pL a i
  · rcases d with rfl | ⟨rfl, rfl⟩
    · exact e i
    · exact e2
  · exact H a i d
def zLdd (S : zT) (p : Nat) (x w : Int) : zT := zs (zs S 206 p x) 37 71 w
theorem zLdd_of : zOf pL (zLdd S n x w) S := fun a i e => by
  unfold zLdd
  rw [zs_if, if_neg (fun z => e (Or.inr z)), zs_if, if_neg (fun z => e (Or.inl z.1))]
theorem zLdd_206 : zLdd S n x w 206 i = if i = n then x else S 206 i := by
  unfold zLdd
  rw [zs_na (by decide), zs_if]
  by_cases c : i = n
  · rw [if_pos ⟨rfl, c⟩, if_pos c]
  · rw [if_neg (fun z => c z.2), if_neg c]
theorem zLdd_71 : zLdd S n x w 37 71 = w := by
  unfold zLdd
  rw [zs_eq]
theorem zLdd_go {f : zT → zT} (o : zOf pL (f (zLdd S n x w)) (f S)) (n1 : ∀ (U : zT) i, f U 206 i = U 206 i) (n2 : ∀ U : zT, f U 37 71 = U 37 71) : f (zLdd S n x w) = zLdd (f S) n x w := by
  refine zOf.of (fun a i e => ?_) (fun i => ?_) ?_
  · rw [o a i e]
    exact (zLdd_of a i e).symm
  · rw [n1, zLdd_206, zLdd_206, n1]
  · rw [n2, zLdd_71, zLdd_71]
theorem zLdd_by : yByA q (zLdd S n x w) = zLdd (yByA q S) n x w := by
  have e : (zLdd S n x w) 37 2 = S 37 2 := zLdd_of _ _ (pL_n (by omega))
  unfold yByA
  rw [e]
  exact zLdd_go (f := fun U => yBys q U (S 37 2).toNat) (yBys_o zLdd_of _) (fun U i => yBys_n (by omega) _) (fun U => yBys_n (by omega) _)
theorem zOf.lw (H : zOf pL S T) : zOf pLW S T := fun a i e => H a i (fun z => e (Or.inl z))
theorem zOf.ls (H : zOf pL S T) : zOf pLS S T := fun a i e => H a i (fun z => e (Or.inl z))
theorem zLdd_wr : yWrA (zLdd S n x w) = zLdd (yWrA S) n x w := by
  refine zLdd_go (f := yWrA) (fun a i e => ?_) (fun U i => yWrA_n (by decide)) (fun U => yWrA_n (by decide))
  by_cases c : a = 72
  · rw [c]
    exact yWrA_o zLdd_of.ls 72 i (pLS_n (by omega))
  · rw [yWrA_n c, yWrA_n c]
    exact zLdd_of a i e
theorem zLdd_sea : ySea q (zLdd S n x w) = zLdd (ySea q S) n x w := by
  refine zLdd_go (f := ySea q) (fun a i e => ?_) (fun U i => ySea_n (by decide)) (fun U => ySea_n (by decide))
  by_cases c : a = 72
  · rw [c, ySea_n (by decide), ySea_n (by decide)]
    exact zLdd_of _ _ (pL_n (by omega))
  · exact ySea_o zLdd_of.lw a i (fun z => z.elim e c)
/-- laying keeps the bounds -/
def zH65 (S : zT) : Prop := ∀ v : Nat, (v : Int) < S 37 1 → 0 ≤ S 65 v ∧ S 65 v ≤ 9
theorem yLy1_n {a i : Nat} (e : (a ≠ 66 ∧ a ≠ 95 ∧ (a < 170 ∨ 175 < a)) ∧ (a ≠ 37 ∨ i ≠ 64)) : yLy1 S k a i = S a i := by
  have z64 : ∀ (U : zT) y, zs U 37 64 y a i = U a i := fun U y => by rw [zs_if]; exact if_neg (by omega)
  unfold yLy1
  split
  · rw [z64, zs_na (by omega), zs_na (by omega), zs_na (by omega), zs_na (by omega), zs_na (by omega), zs_na (by omega), zs_na (by omega), zs_na (by omega)]
  · rw [zs_na (by omega)]
theorem yLyN_n {a i : Nat} (e : (a ≠ 66 ∧ a ≠ 95 ∧ (a < 170 ∨ 175 < a)) ∧ (a ≠ 37 ∨ i ≠ 64)) : ∀ k : Nat, yLyN S k a i = S a i
  | 0 => rfl
  | k + 1 => (yLy1_n e).trans (yLyN_n e k)
theorem yStr_b (h1 : 0 ≤ S 65 (S 79 k).toNat ∧ S 65 (S 79 k).toNat ≤ 9) (h2 : 0 ≤ S 81 k ∧ S 81 k ≤ 9) (h3 : 0 ≤ S 85 k ∧ S 85 k ≤ 60) : 0 ≤ yStr S k ∧ yStr S k ≤ 300 := by
  unfold yStr
  have w1 : w32 (20 * S 65 (S 79 k).toNat) = 20 * S 65 (S 79 k).toNat := by unfold w32; omega
  have w2 : w32 (3 * S 81 k) = 3 * S 81 k := by unfold w32; omega
  have w3 : w32 (2 * S 85 k) = 2 * S 85 k := by unfold w32; omega
  have w4 : w32 (20 * S 65 (S 79 k).toNat + 3 * S 81 k) = 20 * S 65 (S 79 k).toNat + 3 * S 81 k := by unfold w32; omega
  have w5 : w32 (20 * S 65 (S 79 k).toNat + 3 * S 81 k - 2 * S 85 k) = 20 * S 65 (S 79 k).toNat + 3 * S 81 k - 2 * S 85 k := by unfold w32; omega
  rw [w1, w2, w3, w4, w5]
  omega
theorem yOK.lot {x1 x2 x3 x4 x5 x6 : Int} (K : yOK S) (hn : (n : Int) = S 37 64) (h3 : S 37 64 < 300) (h1 : 0 ≤ x3 ∧ x3 ≤ 60) (h2 : 0 ≤ x4 ∧ x4 ≤ 300) (hk : 0 ≤ x1 ∧ x1 < S 37 2) : yOK (zs (zs (zs (zs (zs (zs (zs S 170 n x1) 171 n x2) 172 n x3) 173 n x4) 174 n x5) 175 n x6) 37 64 (S 37 64 + 1)) := by
  have t : ∀ a i, (a < 170 ∨ 175 < a) → (a ≠ 37 ∨ i ≠ 64) → zs (zs (zs (zs (zs (zs (zs S 170 n x1) 171 n x2) 172 n x3) 173 n x4) 174 n x5) 175 n x6) 37 64 (S 37 64 + 1) a i = S a i := fun a i e1 e2 => by
    rw [zs_if, if_neg (by omega), zs_na (by omega), zs_na (by omega), zs_na (by omega), zs_na (by omega), zs_na (by omega), zs_na (by omega)]
  obtain ⟨k1, k2, k3, k4⟩ := K
  refine ⟨?_, fun k hk2 => ?_, fun v hv => ?_, fun l hl => ?_⟩
  · rw [t 37 0 (by omega) (by omega), t 37 1 (by omega) (by omega), t 37 2 (by omega) (by omega), zs_eq]
    omega
  · rw [t 37 2 (by omega) (by omega)] at hk2
    rw [t 80 k (by omega) (by omega), t 81 k (by omega) (by omega), t 82 k (by omega) (by omega), t 83 k (by omega) (by omega), t 79 k (by omega) (by omega), t 37 1 (by omega) (by omega)]
    exact k2 k hk2
  · rw [t 37 1 (by omega) (by omega)] at hv
    rw [t 71 v (by omega) (by omega)]
    refine ⟨(k3 v hv).1, fun s hs => ?_⟩
    rw [t 39 _ (by omega) (by omega)]
    exact (k3 v hv).2 s hs
  · rw [zs_eq] at hl
    rw [t 37 2 (by omega) (by omega)]
    rw [zs_na (b := 172) (by decide), zs_na (b := 172) (by decide), zs_na (b := 172) (by decide), zs_na (b := 172) (by decide), zs_na (b := 173) (by decide), zs_na (b := 173) (by decide), zs_na (b := 173) (by decide), zs_na (b := 170) (by decide), zs_na (b := 170) (by decide), zs_na (b := 170) (by decide), zs_na (b := 170) (by decide), zs_na (b := 170) (by decide), zs_na (b := 170) (by decide)]
    by_cases c : l = n
    · rw [c, zs_eq, zs_eq, zs_eq]
      exact ⟨h1, h2, hk⟩
    · rw [zs_ni c, zs_ni c, zs_ni c, zs_ni c, zs_ni c, zs_ni c, zs_ni c, zs_ni c]
      exact k4 l (by omega)
theorem yOK.ly1 (K : yOK S) (B : zBs S) (H : zH65 S) (hk : (k : Int) < S 37 2) : yOK (yLy1 S k) := by
  unfold yLy1
  have kb := B.1 k hk
  have xb := yX_b B (yEp_4 (S := S)) hk
  split
  · rename_i c
    have K1 : yOK (zs (zs S 66 (S 79 k).toNat (S 66 (S 79 k).toNat - (yX S (yEp S) k + S 85 k - 1) / S 85 k)) 95 k (w32 (S 95 k + yCan S k))) := (K.zss (yKt_n (by omega))).zss (yKt_n (by omega))
    have u : ∀ j, zs (zs S 66 (S 79 k).toNat (S 66 (S 79 k).toNat - (yX S (yEp S) k + S 85 k - 1) / S 85 k)) 95 k (w32 (S 95 k + yCan S k)) 37 j = S 37 j := fun j => by rw [zs_na (by decide), zs_na (by decide)]
    have r := K1.lot (n := (S 37 64).toNat) (x1 := (k : Int)) (x2 := S 37 0) (x3 := S 85 k) (x4 := yStr S k) (x5 := yX S (yEp S) k) (x6 := yX S (yEp S) k) (by rw [u]; have := K.s; omega) (by rw [u]; omega) (by omega) (yStr_b (H _ (by omega)) (by omega) (by omega)) (by rw [u]; omega)
    rw [u] at r
    exact r
  · exact K.zss (yKt_n (by omega))
theorem yOK.lyn (K : yOK S) (B : zBs S) (H : zH65 S) : ∀ k : Nat, (k : Int) ≤ S 37 2 → yOK (yLyN S k)
  | 0, _ => K
  | k + 1, h => by
    have e := yLyN_e B (k := k) (by omega)
    have H2 : zH65 (yLyN S k) := fun v hv => by
      rw [yLyN_n (by omega)]
      exact H v (by rw [← e.2.2.1]; exact hv)
    exact (K.lyn B H k (by omega)).ly1 (B.lyn (by omega)) H2 (by rw [e.2.1]; omega)
theorem yOK.lya (K : yOK S) (B : zBs S) (H : zH65 S) : yOK (yLyA S) := K.lyn B H _ (by have := K.s; omega)
theorem yOK.wra (K : yOK S) : yOK (yWrA S) := K.wds _
theorem yOK.dua (K : yOK S) : yOK (yDuA q S) := K.dus _
theorem yOK.mla (K : yOK S) : yOK (yMlA S) := K.mls _ (by have := K.s; omega)
theorem yOK.bya (K : yOK S) : yOK (yByA q S) := K.bys _
/-- the week, as the class goes through it -/
def yWk3 (q : qT) (S : zT) : zT := yWrA (yByA q (yLyA S))
def yWk5 (q : qT) (S : zT) : zT := if yWk3 q S 37 0 % 13 = 12 then ySea q (yWk3 q S) else yWk3 q S
def yWkC (q : qT) (S : zT) : zT := yBgA (zs (yClo (yWk5 q S) (yWk5 q S 37 0).toNat (ySmCA (yWk5 q S)) (yToA S) (ySmLA (yWk5 q S))) 37 0 (yWk5 q S 37 0 + 1))
/-- and the model -/
def yMk5 (q : qT) (S : zT) : zT := yWrA (if yByA q (yLyM S) 37 0 % 13 = 12 then ySea q (yByA q (yLyM S)) else yByA q (yLyM S))
def yMk6 (X : zT) : zT := zs (zs (zs (zs (zs X 206 (6 * (X 37 0).toNat) (ySmCA X)) 206 (6 * (X 37 0).toNat + 2) (ySmLA X)) 206 (6 * (X 37 0).toNat + 3) (X 37 69)) 206 (6 * (X 37 0).toNat + 4) (X 37 70)) 206 (6 * (X 37 0).toNat + 5) (X 37 71)
def yWkM (q : qT) (S : zT) : zT := yBgA (zs (yMk6 (yMk5 q S)) 37 0 (yMk5 q S 37 0 + 1))
theorem ySmC_o (H : zOf pL S T) : ∀ v : Nat, ySmC S v = ySmC T v
  | 0 => rfl
  | v + 1 => by rw [ySmC_s, ySmC_s, ySmC_o H v, H 66 v (pL_n (by omega))]
theorem ySmL_o (H : zOf pL S T) : ∀ v : Nat, ySmL S v = ySmL T v
  | 0 => rfl
  | v + 1 => by rw [ySmL_s, ySmL_s, ySmL_o H v, H 175 v (pL_n (by omega))]
theorem zs_si {i j : Nat} (h : i ≠ j) : zs (zs S a i x) a j y = zs (zs S a j y) a i x := by
  funext b l
  rw [zs_if, zs_if, zs_if, zs_if]
  by_cases c : b = a ∧ l = j
  · rw [if_pos c, if_neg (fun z => h (z.2.symm.trans c.2)), if_pos c]
  · rw [if_neg c, if_neg c]
theorem yMk5_e : yMk5 q S = zLdd (yWk5 q S) (yP1 S) (yToA S) (yW1 S) := by
  have e : yLyM S = zLdd (yLyA S) (yP1 S) (yToA S) (yW1 S) := rfl
  have c : yWk3 q S 37 0 = yByA q (yLyA S) 37 0 := yWrA_n (by decide)
  unfold yMk5 yWk5
  rw [e, zLdd_by, c, zLdd_of 37 0 (pL_n (by omega))]
  split
  · rw [zLdd_sea, zLdd_wr]
    unfold yWk3
    rw [ySea_w]
  · rw [zLdd_wr]
    rfl
theorem yWk5_n {a i : Nat} (e : a = 206 ∨ (a = 37 ∧ (i = 0 ∨ i = 71))) : yWk5 q S a i = S a i := by
  have e3 : yWk3 q S a i = S a i := (yWrA_n (by omega)).trans ((yBys_n (by omega) _).trans (yLyN_n (by omega) _))
  unfold yWk5
  split
  · rw [ySea_n (by omega), e3]
  · exact e3
theorem yClo_0 {b c d : Int} : yClo S n b c d 37 0 = S 37 0 := by
  unfold yClo
  rw [zs_ni (by decide), zs_na (by decide), zs_na (by decide), zs_na (by decide), zs_na (by decide), zs_na (by decide), zs_na (by decide)]
theorem yWk_e : yWkM q S = yWkC q S := by
  have k0 : ∀ T : zT, zLdd T (yP1 S) (yToA S) (yW1 S) 37 0 = T 37 0 := fun T => zLdd_of 37 0 (pL_n (by omega))
  have k1 : ∀ T : zT, zLdd T (yP1 S) (yToA S) (yW1 S) 37 1 = T 37 1 := fun T => zLdd_of 37 1 (pL_n (by omega))
  have k2 : ∀ T : zT, zLdd T (yP1 S) (yToA S) (yW1 S) 37 64 = T 37 64 := fun T => zLdd_of 37 64 (pL_n (by omega))
  have k3 : ∀ T : zT, zLdd T (yP1 S) (yToA S) (yW1 S) 37 69 = T 37 69 := fun T => zLdd_of 37 69 (pL_n (by omega))
  have k4 : ∀ T : zT, zLdd T (yP1 S) (yToA S) (yW1 S) 37 70 = T 37 70 := fun T => zLdd_of 37 70 (pL_n (by omega))
  have p : yP1 S = 6 * (yWk5 q S 37 0).toNat + 1 := by unfold yP1; rw [yWk5_n (by omega)]
  have w : yW1 S = w32 (yWk5 q S 37 71 + yToA S) := by unfold yW1; rw [yWk5_n (by omega)]
  unfold yWkM yWkC yMk6
  rw [yMk5_e]
  unfold ySmCA ySmLA
  rw [k0, k1, k2, k3, k4, ySmC_o (zLdd_of (S := yWk5 q S)), ySmL_o (zLdd_of (S := yWk5 q S)), zLdd_71]
  congr 2
  unfold yClo zLdd
  rw [zs_sw (a := 37) (b := 206) (by decide), zs_sw (a := 37) (b := 206) (by decide), zs_sw (a := 37) (b := 206) (by decide), zs_sw (a := 37) (b := 206) (by decide), zs_sw (a := 37) (b := 206) (by decide), p, w, zs_si (a := 206) (i := 6 * (yWk5 q S 37 0).toNat + 1) (j := 6 * (yWk5 q S 37 0).toNat) (by omega)]
theorem zs_self (e : S a i = x) : zs S a i x = S := by
  funext b j
  rw [zs_if]
  by_cases c : b = a ∧ j = i
  · rw [if_pos c, c.1, c.2, e]
  · rw [if_neg c]
theorem zs_acc {d : Int} (e : j = i) (hz : z = w32 (x + d)) : zs (zs S a i x) a j (w32 (zs S a i x a j + d)) = zs S a i z := by
  subst e
  rw [zs_eq, hz]
  funext b l
  rw [zs_if, zs_if, zs_if]
  by_cases c : b = a ∧ l = j
  · rw [if_pos c, if_pos c]
  · rw [if_neg c, if_neg c, if_neg c]
theorem yOK.lym (K : yOK S) (B : zBs S) (H : zH65 S) : yOK (yLyM S) := ((K.lya B H).zss (yKt_n (by omega))).zss (fun z => by unfold yKt at z; omega)
theorem yLyM_2 (B : zBs S) : yLyM S 37 2 = S 37 2 := (zs_ni (by decide)).trans ((zs_na (by decide)).trans (yLyN_n (by omega) _))
theorem yOK.sea (K : yOK S) : yOK (ySea q S) := by
  unfold ySea
  exact (K.dua (q := q)).mla
theorem yOK.mk5 (K : yOK (yLyM S)) : yOK (yMk5 q S) := by
  unfold yMk5
  refine yOK.wra ?_
  split
  · exact (K.bya (q := q)).sea
  · exact K.bya
/-- the weeks to come have no numbers yet -/
def yZr (S : zT) : Prop := ∀ j : Nat, 6 * (S 37 0).toNat ≤ j → S 206 j = 0
theorem yMk5_0 : yMk5 q S 37 0 = S 37 0 := by
  rw [yMk5_e, zLdd_of 37 0 (pL_n (by omega)), yWk5_n (by omega)]
theorem yMk5_z (Z : yZr S) (e : j = 6 * (S 37 0).toNat ∨ j = 6 * (S 37 0).toNat + 2) : yMk5 q S 206 j = 0 := by
  rw [yMk5_e, zLdd_206, if_neg (by unfold yP1; omega), yWk5_n (by omega)]
  exact Z j (by omega)
theorem yMk6_n (e : a ≠ 206) : yMk6 X a i = X a i := by
  unfold yMk6
  rw [zs_na e, zs_na e, zs_na e, zs_na e, zs_na e]
end YWK
end
section
/-! the week is told; what the price rows hold there comes after -/
section YNW
variable {h g : Hp} {S T : zT} {k n i j m a : Nat} {x y : Int}
def p57 (m n : Nat) (a i : Nat) : Prop := a = 57 ∧ i % 157 = m ∧ i / 157 < n
theorem yC_nowz {kd n : Nat} (C : CI h) (s' : sh h 1 = some (kd, n)) (hn : 0 < n) (e' : g = wr h 1 0 x) (hx : x = fld h 1 0 + 1) : zOf (p57 x.toNat (fld h 2 2).toNat) (yC g) (zs (yC h) 37 0 x) := fun b i np => by
  have key : ∀ (p : Int) (k : Nat), (p ≠ 1 ∨ k ≠ 0) → fld g p k = fld h p k := fun p k hn => by rw [e']; exact fld_wr hn
  have k1 : fld g 1 0 = x := by rw [e']; exact fld_wr_eq s' hn
  have hl := zv_wf C (r := 1) (by first | decide | exact ⟨by decide, by decide⟩) (fun A hA => by
    unfold zLis at hA
    simp only [List.mem_cons, List.not_mem_nil, or_false] at hA
    omega) e'
  rw [zs_if]
  by_cases hb : b = 37 ∧ i = 0
  · rw [if_pos hb, hb.1, hb.2]
    exact k1
  · rw [if_neg hb]
    by_cases h57 : b = 57
    · subst h57
      show (if i < 1256 ∧ ((i / 157 : Nat) : Int) < fld g 2 2 ∧ ((i % 157 : Nat) : Int) ≤ fld g 1 0 then fld g (fld g (zv g 2 (i / 157)) 16) (i % 157) else 0) = (if i < 1256 ∧ ((i / 157 : Nat) : Int) < fld h 2 2 ∧ ((i % 157 : Nat) : Int) ≤ fld h 1 0 then fld h (fld h (zv h 2 (i / 157)) 16) (i % 157) else 0)
      obtain ⟨q2, q3⟩ := hl 2 (by omega)
      have q2 : fld g 2 2 = fld h 2 2 := q2
      rw [q2, k1]
      by_cases q : i < 1256 ∧ ((i / 157 : Nat) : Int) < fld h 2 2
      · obtain ⟨a1, a2, a3, a4⟩ := zV_g C q.2
        have e1 : fld g (fld g (zv g 2 (i / 157)) 16) (i % 157) = fld h (fld h (zv h 2 (i / 157)) 16) (i % 157) := by
          rw [q3 _ q.2, key (zv h 2 (i / 157)) 16 (Or.inl (by omega)), key (fld h (zv h 2 (i / 157)) 16) (i % 157) (Or.inl (by omega))]
        rw [e1]
        by_cases t : ((i % 157 : Nat) : Int) ≤ fld h 1 0
        · rw [if_pos ⟨q.1, q.2, by omega⟩, if_pos ⟨q.1, q.2, t⟩]
        · rw [if_neg (fun z : _ ∧ _ ∧ ((i % 157 : Nat) : Int) ≤ x => np ⟨rfl, by omega, by omega⟩), if_neg (fun z : _ ∧ _ ∧ ((i % 157 : Nat) : Int) ≤ fld h 1 0 => t z.2.2)]
      · rw [if_neg (fun z => q ⟨z.1, z.2.1⟩), if_neg (fun z => q ⟨z.1, z.2.1⟩)]
    · refine yC_pt (fun z1 z2 => key _ _ ?_) hl (fun _ => key _ _ (Or.inl (by omega))) (fun _ => key _ _ (Or.inl (by omega))) (fun z => absurd z h57) (fun _ => ⟨key _ _ (Or.inl (by omega)), fun _ => key _ _ (Or.inl (by omega))⟩) (fun z => key _ _ ?_) C (fun p k hp => key _ _ (Or.inl (by omega))) ?_
      · have hiq : i ≠ 0 := fun z => hb ⟨z1, z⟩
        rcases ySc_of z2 with w | rfl | rfl | rfl | rfl | rfl | w | rfl | rfl | rfl
        · have w : i = 1 ∨ i = 2 := by omega
          rcases w with rfl | rfl <;> decide
        · decide
        · decide
        · decide
        · decide
        · decide
        · have w : i = 69 ∨ i = 70 ∨ i = 71 := by omega
          rcases w with rfl | rfl | rfl <;> decide
        · decide
        · decide
        · decide
      · left
        rcases yK_9 z with rfl | rfl | rfl | rfl | rfl <;> decide
      · exact yM_st (fun k _ => key _ _ (Or.inl (by omega))) (fun k _ => key _ _ (Or.inl (by omega))) (fun b k hk => key _ _ (Or.inl (by have := yM_wh hk; omega)))
theorem yBg1_o (H : zOf (p57 m n) S T) : ∀ k : Nat, k ≤ n → zOf (fun a i => p57 m n a i ∧ k ≤ i / 157) (yBg1 S m k) (yBg1 T m k)
  | 0, _ => fun a i e => H a i (fun z => e ⟨z, Nat.zero_le _⟩)
  | k + 1, hk => fun a i e => by
    have ih := yBg1_o H k (by omega)
    have e7 : yBg1 S m k 71 k = yBg1 T m k 71 k := ih 71 k (fun z => absurd z.1.1 (by decide))
    rw [yBg1_s, yBg1_s, zs_if, zs_if, e7]
    by_cases c : a = 57 ∧ i = 157 * k + m
    · rw [if_pos c, if_pos c]
    · rw [if_neg c, if_neg c]
      exact ih a i (fun z => e ⟨z.1, by have := z.1.1; have := z.1.2.1; have := z.2; omega⟩)
theorem yBgA_o (H : zOf (p57 m n) S T) (hm : m = (T 37 0).toNat) (hn : n = (T 37 1).toNat) : yBgA S = yBgA T := by
  have n37 : ∀ i, ¬p57 m n 37 i := fun i z => absurd z.1 (by decide)
  have q : yBg1 S m n = yBg1 T m n := funext fun a => funext fun i => yBg1_o H n (Nat.le_refl _) a i (fun z => by have := z.1.2.2; have := z.2; omega)
  unfold yBgA
  rw [H 37 0 (n37 0), H 37 1 (n37 1), H 37 2 (n37 2), ← hm, ← hn, q]
end YNW
end
section
/-! contracts of the class -/
def msx113_z : Zms := [(1, 1, 0, 1), (1, 1, 1, 2), (4, 4, 0, 3), (17, 17, 0, 13), (18, 18, 0, 400), (34, 34, 2, 3), (35, 35, 0, 936), (36, 36, 0, 8), (1004, 1004, 6, 7), (1004, 1004, 8, 9), (1004, 1004, 9, 10), (1004, 1004, 10, 11), (1004, 1004, 14, 15), (1004, 1004, 15, 16), (1004, 1004, 18, 19), (1011, 1011, 3, 4), (1011, 1011, 4, 5), (1011, 1011, 5, 6), (1011, 1011, 6, 7), (1011, 1011, 7, 8), (1011, 1011, 9, 10), (1011, 1011, 10, 11), (1011, 1011, 13, 14), (1011, 1011, 14, 15), (1011, 1011, 15, 16), (1020, 1020, 0, 100000)]
-- WheelLand.endWeek()V
theorem x113_z {sc : List Int} (h : Hp) (C : CI h) (q : qT) (J : yR h) (V : zRq q h) (ok : yOK (yC h)) (B0 : zBs (yC h)) (H65 : zH65 (yC h)) (W : zLw h) (PD : zPd h) (p1 : fld h 1 0 < 156) (hl : h.length ≤ 999920000) : zwC sc 8 113 [(2, 1)] h (zwRv (fun g => CI g ∧ zXR msx113_z (0) (0) h g ∧ (fld g 1 0 = fld h 1 0 + 1) ∧ (zRq q g) ∧ (yC g = yWkC q (yC h)) ∧ (yR g))) := by
  refine zwC_of (D := 7) 2 (by decide +kernel) rfl (ls := [(2, 1), (9, 0)]) rfl ?_
  have X : zXR msx113_z 0 0 h h := zXR.rf _ _
  have u0 : yC h 37 0 = fld h 1 0 := rfl
  have u1 : yC h 37 1 = fld h 2 2 := rfl
  have u2 : yC h 37 2 = fld h 3 2 := rfl
  have u64 : yC h 37 64 = fld h 4 2 := rfl
  have u71 : yC h 37 71 = fld h 34 2 := rfl
  refine zwW_p [(1, 0, 2)] (q := 1) (ls' := [(2, 1), (9, 0)]) (st' := [(2, 1)]) (by decide +kernel) rfl ?_
  refine zwW_cm C.1 (op := 60) (k' := 185) (n := 0) (kd := 12) (m := 13) (nx := 4) (r := 1) (tl := []) (st' := []) (by decide +kernel) rfl (by decide +kernel) rfl (x185_z h C J B0 (by omega)) ?_
  rintro v5 h6 ⟨Ch6, Qh6, f1, f2, f3, f4⟩
  have sv5 : v5 = yToA (yC h) := by rw [f2]
  have Zh6 : yC h6 = (yLyA (yC h)) := by rw [f3]
  have Xh6 : zXR msx113_z (0) (0) h h6 := X.tr (c2 := 0) (s2 := 0) Qh6 (by decide +kernel) (by decide) (by decide)
  have th6_1_0 : fld h6 1 0 = fld h 1 0 := Qh6.f (a1 := 1) (a2 := 1) (j1 := 0) (j2 := 1) (by decide +kernel) (by first | decide | exact ⟨by decide, by decide⟩) (by first | decide | exact ⟨by decide, by decide⟩) (by first | decide | exact ⟨by decide, by decide⟩)
  have Vh6 : zRq q h6 := V.fr C Qh6 (by decide +kernel)
  have Wh6 : zLw h6 := W.fr Qh6 (by decide +kernel)
  have PDh6 : zPd h6 := PD.fr C Qh6 (by decide +kernel)
  refine zwW_p [(2, 1, 0), (1, 0, 2)] (q := 6) (ls' := [(2, 1), (0, v5)]) (st' := [(2, 1)]) (by decide +kernel) rfl ?_
  refine zwW_cmv Ch6.1 (op := 60) (k' := 186) (n := 0) (kd := 12) (m := 13) (nx := 9) (r := 1) (tl := []) (st' := []) (by decide +kernel) rfl (by decide +kernel) rfl (x186_z h6 Ch6 q f4 Vh6 (by rw [Zh6]; exact ok.lya B0 H65)) ?_
  rintro h9 ⟨Ch9, Qh9, f7, f8⟩
  have Zh9 : yC h9 = (yByA q (yLyA (yC h))) := by rw [f7, Zh6]
  have Xh9 : zXR msx113_z (0) (0) h h9 := Xh6.tr (c2 := 0) (s2 := 0) Qh9 (by decide +kernel) (by decide) (by decide)
  have th9_1_0 : fld h9 1 0 = fld h6 1 0 := Qh9.f (a1 := 1) (a2 := 1) (j1 := 0) (j2 := 1) (by decide +kernel) (by first | decide | exact ⟨by decide, by decide⟩) (by first | decide | exact ⟨by decide, by decide⟩) (by first | decide | exact ⟨by decide, by decide⟩)
  have Vh9 : zRq q h9 := Vh6.fr Ch6 Qh9 (by decide +kernel)
  have Wh9 : zLw h9 := Wh6.fr Qh9 (by decide +kernel)
  have PDh9 : zPd h9 := PDh6.fr Ch6 Qh9 (by decide +kernel)
  refine zwW_p [(1, 0, 2)] (q := 10) (ls' := [(2, 1), (0, v5)]) (st' := [(2, 1)]) (by decide +kernel) rfl ?_
  refine zwW_cmv Ch9.1 (op := 60) (k' := 187) (n := 0) (kd := 12) (m := 13) (nx := 13) (r := 1) (tl := []) (st' := []) (by decide +kernel) rfl (by decide +kernel) rfl (x187_z h9 Ch9 f8 Wh9) ?_
  rintro h12 ⟨Ch12, Qh12, f10, f11⟩
  have Zh12 : yC h12 = (yWrA (yByA q (yLyA (yC h)))) := by rw [f10, Zh9]
  have Xh12 : zXR msx113_z (0) (0) h h12 := Xh9.tr (c2 := 0) (s2 := 0) Qh12 (by decide +kernel) (by decide) (by decide)
  have th12_1_0 : fld h12 1 0 = fld h9 1 0 := Qh12.f (a1 := 1) (a2 := 1) (j1 := 0) (j2 := 1) (by decide +kernel) (by first | decide | exact ⟨by decide, by decide⟩) (by first | decide | exact ⟨by decide, by decide⟩) (by first | decide | exact ⟨by decide, by decide⟩)
  have Vh12 : zRq q h12 := Vh9.fr Ch9 Qh12 (by decide +kernel)
  have Wh12 : zLw h12 := Wh9.fr Qh12 (by decide +kernel)
  have PDh12 : zPd h12 := PDh9.fr Ch9 Qh12 (by decide +kernel)
  refine zwW_p [(1, 0, 2)] (q := 14) (ls' := [(2, 1), (0, v5)]) (st' := [(2, 1)]) (by decide +kernel) rfl ?_
  refine zwW_gs Ch12.1 (kd := 12) (bn := 0) (n := 13) (t := 0) (lo := 0) (hi := 156) (nx := 17) (by decide +kernel) ?_
  intro v13 ev13 lv13 uv13
  have sv13 : v13 = (yWrA (yByA q (yLyA (yC h)))) 37 0 := Eq.trans ev13 (Eq.trans (Eq.symm (yC_s (h := h12) (i := 0) rfl)) (Eq.trans (congrFun (congrFun Zh12 37) 0) rfl))
  refine zwW_p [(0, 13, 0)] (q := 19) (ls' := [(2, 1), (0, v5)]) (st' := [(0, 13), (0, v13)]) (by decide +kernel) rfl ?_
  refine zwW_rem (nx := 20) (by decide +kernel) (by omega) (by omega) ?_
  refine zwW_p [(0, 12, 0)] (q := 22) (ls' := [(2, 1), (0, v5)]) (st' := [(0, 12), (0, (v13 % 13))]) (by decide +kernel) rfl ?_
  refine zwic_ne (q := 33) (nx := 25) (by decide +kernel) (fun c14 => ?_) (fun c14 => ?_)
  · have E33 : (yWrA (yByA q (yLyA (yC h)))) = yWk5 q (yC h) := by
      unfold yWk5
      first
      | (rw [if_neg (show ¬(yWk3 q (yC h) 37 0 % 13 = 12) by rw [show yWk3 q (yC h) 37 0 = v13 from sv13.symm]; omega)]; rfl)
      | (rw [if_pos (show yWk3 q (yC h) 37 0 % 13 = 12 by rw [show yWk3 q (yC h) 37 0 = v13 from sv13.symm]; omega)]; rfl)
    refine zwW_p [(1, 0, 2)] (q := 34) (ls' := [(2, 1), (0, v5)]) (st' := [(2, 1)]) (by decide +kernel) rfl ?_
    refine zwW_gc Ch12.1 (kd := 12) (bn := 11) (n := 13) (c := 34) (nx := 37) (by decide +kernel) ?_
    refine zwW_p [(1, 0, 2)] (q := 38) (ls' := [(2, 1), (0, v5)]) (st' := [(2, 1), (2, 34)]) (by decide +kernel) rfl ?_
    refine zwW_gs Ch12.1 (kd := 12) (bn := 0) (n := 13) (t := 0) (lo := 0) (hi := 156) (nx := 41) (by decide +kernel) ?_
    intro v15 ev15 lv15 uv15
    have sv15 : v15 = (yWk5 q (yC h)) 37 0 := Eq.trans ev15 (Eq.trans (Eq.symm (yC_s (h := h12) (i := 0) rfl)) (Eq.trans (congrFun (congrFun (Zh12.trans E33) 37) 0) rfl))
    refine zwW_p [(1, 0, 2)] (q := 42) (ls' := [(2, 1), (0, v5)]) (st' := [(2, 1), (0, v15), (2, 34)]) (by decide +kernel) rfl ?_
    refine zwW_cm Ch12.1 (op := 60) (k' := 190) (n := 0) (kd := 12) (m := 13) (nx := 45) (r := 1) (tl := []) (st' := [(0, v15), (2, 34)]) (by decide +kernel) rfl (by decide +kernel) rfl (x190_z h12 Ch12 f11) ?_
    rintro v16 _ ⟨rfl, f17, f18⟩
    have sv16 : v16 = ySmCA (yWk5 q (yC h)) := by rw [f18, (Zh12.trans E33)]
    refine zwW_p [(1, 1, 0), (1, 0, 2)] (q := 47) (ls' := [(2, 1), (0, v5)]) (st' := [(2, 1), (0, v5), (0, v16), (0, v15), (2, 34)]) (by decide +kernel) rfl ?_
    refine zwW_cm Ch12.1 (op := 60) (k' := 191) (n := 0) (kd := 12) (m := 13) (nx := 50) (r := 1) (tl := []) (st' := [(0, v5), (0, v16), (0, v15), (2, 34)]) (by decide +kernel) rfl (by decide +kernel) rfl (x191_z h12 Ch12 f11) ?_
    rintro v19 _ ⟨rfl, f20, f21⟩
    have sv19 : v19 = ySmLA (yWk5 q (yC h)) := by rw [f21, (Zh12.trans E33)]
    refine zwW_cmv Ch12.1 (op := 60) (k' := 192) (n := 4) (kd := 5) (m := 4) (nx := 53) (r := 34) (tl := [(0, v15), (0, v16), (0, v5), (0, v19)]) (st' := []) (by decide +kernel) rfl (by decide +kernel) rfl (x192_z h12 Ch12 v15 v16 v5 v19 (by omega) (by omega) (by omega) (by omega) f11 (by first | omega | exact ⟨by omega, by omega⟩)) ?_
    rintro h24 ⟨Ch24, Qh24, f22, f23⟩
    have Zh24 : yC h24 = (yClo (yWk5 q (yC h)) (((yWk5 q (yC h)) 37 0).toNat) (ySmCA (yWk5 q (yC h))) (yToA (yC h)) (ySmLA (yWk5 q (yC h)))) := by rw [f22, (Zh12.trans E33), sv15, sv16, sv5, sv19]
    have Xh24 : zXR msx113_z (0) (0) h h24 := Xh12.tr (c2 := 0) (s2 := 0) Qh24 (by decide +kernel) (by decide) (by decide)
    have th24_1_0 : fld h24 1 0 = fld h12 1 0 := Qh24.f (a1 := 1) (a2 := 1) (j1 := 0) (j2 := 1) (by decide +kernel) (by first | decide | exact ⟨by decide, by decide⟩) (by first | decide | exact ⟨by decide, by decide⟩) (by first | decide | exact ⟨by decide, by decide⟩)
    have Vh24 : zRq q h24 := Vh12.fr Ch12 Qh24 (by decide +kernel)
    have Wh24 : zLw h24 := Wh12.fr Qh24 (by decide +kernel)
    have PDh24 : zPd h24 := PDh12.fr Ch12 Qh24 (by decide +kernel)
    refine zwW_p [(1, 0, 2), (12, 0, 0)] (q := 55) (ls' := [(2, 1), (0, v5)]) (st' := [(2, 1), (2, 1)]) (by decide +kernel) rfl ?_
    refine zwW_gs Ch24.1 (kd := 12) (bn := 0) (n := 13) (t := 0) (lo := 0) (hi := 156) (nx := 58) (by decide +kernel) ?_
    intro v25 ev25 lv25 uv25
    have sv25 : v25 = (yClo (yWk5 q (yC h)) (((yWk5 q (yC h)) 37 0).toNat) (ySmCA (yWk5 q (yC h))) (yToA (yC h)) (ySmLA (yWk5 q (yC h)))) 37 0 := Eq.trans ev25 (Eq.trans (Eq.symm (yC_s (h := h24) (i := 0) rfl)) (Eq.trans (congrFun (congrFun Zh24 37) 0) rfl))
    refine zwW_p [(0, 1, 0)] (q := 59) (ls' := [(2, 1), (0, v5)]) (st' := [(0, 1), (0, v25), (2, 1)]) (by decide +kernel) rfl ?_
    refine zwW_add (nx := 60) (by decide +kernel) (by first | omega | exact ⟨by omega, by omega⟩) ?_
    have C60 := Ch24
    have Z60 := Zh24
    have N60 : (yClo (yWk5 q (yC h)) (((yWk5 q (yC h)) 37 0).toNat) (ySmCA (yWk5 q (yC h))) (yToA (yC h)) (ySmLA (yWk5 q (yC h)))) 37 1 = fld h24 2 2 := by rw [← Zh24]; rfl
    have T60 := sv25
    rw [yClo_0] at T60
    refine zwW_ps Ch24.1 (kd := 12) (bn := 0) (n := 13) (lo := 0) (hi := 156) (nx := 63) (by decide +kernel) (by first | omega | exact ⟨by omega, by omega⟩) ?_
    intro h26 eh26 Ih26
    have Ch26 : CI h26 := Ch24.wc eh26 Ih26 (by decide) (by decide)
    have Qh26 : zXR [(1, 1, 0, 1)] 0 0 h24 h26 := zXR.wc eh26 rfl ⟨by decide, by decide, Or.inl (by decide)⟩ (by first | decide | exact ⟨by decide, by decide⟩)
    have Zh26 : yC h26 = (yC h26) := rfl
    have Xh26 : zXR msx113_z (0) (0) h h26 := Xh24.tr (c2 := 0) (s2 := 0) Qh26 (by decide +kernel) (by decide) (by decide)
    have Jh26 : yR h26 := f23.fr Ch24 Qh26 (by decide +kernel)
    have Vh26 : zRq q h26 := Vh24.fr Ch24 Qh26 (by decide +kernel)
    have Wh26 : zLw h26 := Wh24.fr Qh26 (by decide +kernel)
    have PDh26 : zPd h26 := PDh24.fr Ch24 Qh26 (by decide +kernel)
    have th26_1_0 : fld h26 1 0 = (v25 + 1) := by rw [eh26]; exact fld_wr_eq (Ch24.1.s (a1 := 1) (a2 := 1) (k := 12) (n := 13) (by decide +kernel) (by decide) (by decide)) (by decide)
    have G63 := yC_nowz C60 (C60.1.s (a1 := 1) (a2 := 1) (k := 12) (n := 13) (by decide +kernel) (by decide) (by decide)) (by decide) eh26 (by omega)
    rw [Z60, T60] at G63
    refine zwW_p [(1, 0, 2)] (q := 64) (ls' := [(2, 1), (0, v5)]) (st' := [(2, 1)]) (by decide +kernel) rfl ?_
    have V64 := Vh26
    have C64 := Ch26
    refine zwW_cmv Ch26.1 (op := 60) (k' := 193) (n := 0) (kd := 12) (m := 13) (nx := 67) (r := 1) (tl := []) (st' := []) (by decide +kernel) rfl (by decide +kernel) rfl (x193_z h26 Ch26 Jh26 PDh26) ?_
    rintro h30 ⟨Ch30, Qh30, f27, f28, f29⟩
    have Zh30 : yC h30 = (yBgA (yC h26)) := by rw [f28, Zh26]
    have Xh30 : zXR msx113_z (0) (0) h h30 := Xh26.tr (c2 := 0) (s2 := 0) Qh30 (by decide +kernel) (by decide) (by decide)
    have th30_1_0 : fld h30 1 0 = fld h26 1 0 := Qh30.f (a1 := 1) (a2 := 1) (j1 := 0) (j2 := 1) (by decide +kernel) (by first | decide | exact ⟨by decide, by decide⟩) (by first | decide | exact ⟨by decide, by decide⟩) (by first | decide | exact ⟨by decide, by decide⟩)
    have Wh30 : zLw h30 := Wh26.fr Qh30 (by decide +kernel)
    have PDh30 : zPd h30 := PDh26.fr Ch26 Qh30 (by decide +kernel)
    have VN : zRq q h30 := V64.go C64 Qh30 f27 (by decide +kernel)
    refine zwW_retv (nx := 68) (a := 0) (b := 0) (by decide +kernel) ?_
    exact ⟨Ch30, Xh30.le (by decide) (by decide), by omega, by exact VN, by exact Zh30.trans (yBgA_o G63 (by rw [zs_eq]) (by rw [zs_ni (by decide), N60])), by exact f29⟩
  · refine zwW_p [(1, 0, 2)] (q := 26) (ls' := [(2, 1), (0, v5)]) (st' := [(2, 1)]) (by decide +kernel) rfl ?_
    refine zwW_cmv Ch12.1 (op := 60) (k' := 188) (n := 0) (kd := 12) (m := 13) (nx := 29) (r := 1) (tl := []) (st' := []) (by decide +kernel) rfl (by decide +kernel) rfl (x188_z h12 Ch12 q f11 Vh12 (by rw [Zh12]; exact ((ok.lya B0 H65).bya (q := q)).wra)) ?_
    rintro h33 ⟨Ch33, Qh33, f31, f32⟩
    have Zh33 : yC h33 = (yDuA q (yWrA (yByA q (yLyA (yC h))))) := by rw [f31, Zh12]
    have Xh33 : zXR msx113_z (0) (0) h h33 := Xh12.tr (c2 := 0) (s2 := 0) Qh33 (by decide +kernel) (by decide) (by decide)
    have th33_1_0 : fld h33 1 0 = fld h12 1 0 := Qh33.f (a1 := 1) (a2 := 1) (j1 := 0) (j2 := 1) (by decide +kernel) (by first | decide | exact ⟨by decide, by decide⟩) (by first | decide | exact ⟨by decide, by decide⟩) (by first | decide | exact ⟨by decide, by decide⟩)
    have Vh33 : zRq q h33 := Vh12.fr Ch12 Qh33 (by decide +kernel)
    have Wh33 : zLw h33 := Wh12.fr Qh33 (by decide +kernel)
    have PDh33 : zPd h33 := PDh12.fr Ch12 Qh33 (by decide +kernel)
    refine zwW_p [(1, 0, 2)] (q := 30) (ls' := [(2, 1), (0, v5)]) (st' := [(2, 1)]) (by decide +kernel) rfl ?_
    refine zwW_cmv Ch33.1 (op := 60) (k' := 189) (n := 0) (kd := 12) (m := 13) (nx := 33) (r := 1) (tl := []) (st' := []) (by decide +kernel) rfl (by decide +kernel) rfl (x189_z h33 Ch33 f32 (by rw [Zh33]; exact (((ok.lya B0 H65).bya (q := q)).wra).dua)) ?_
    rintro h36 ⟨Ch36, Qh36, f34, f35⟩
    have Zh36 : yC h36 = (yMlA (yDuA q (yWrA (yByA q (yLyA (yC h)))))) := by rw [f34, Zh33]
    have Xh36 : zXR msx113_z (0) (0) h h36 := Xh33.tr (c2 := 0) (s2 := 0) Qh36 (by decide +kernel) (by decide) (by decide)
    have th36_1_0 : fld h36 1 0 = fld h33 1 0 := Qh36.f (a1 := 1) (a2 := 1) (j1 := 0) (j2 := 1) (by decide +kernel) (by first | decide | exact ⟨by decide, by decide⟩) (by first | decide | exact ⟨by decide, by decide⟩) (by first | decide | exact ⟨by decide, by decide⟩)
    have Vh36 : zRq q h36 := Vh33.fr Ch33 Qh36 (by decide +kernel)
    have Wh36 : zLw h36 := Wh33.fr Qh36 (by decide +kernel)
    have PDh36 : zPd h36 := PDh33.fr Ch33 Qh36 (by decide +kernel)
    have E33 : (yMlA (yDuA q (yWrA (yByA q (yLyA (yC h)))))) = yWk5 q (yC h) := by
      unfold yWk5
      first
      | (rw [if_neg (show ¬(yWk3 q (yC h) 37 0 % 13 = 12) by rw [show yWk3 q (yC h) 37 0 = v13 from sv13.symm]; omega)]; rfl)
      | (rw [if_pos (show yWk3 q (yC h) 37 0 % 13 = 12 by rw [show yWk3 q (yC h) 37 0 = v13 from sv13.symm]; omega)]; rfl)
    refine zwW_p [(1, 0, 2)] (q := 34) (ls' := [(2, 1), (0, v5)]) (st' := [(2, 1)]) (by decide +kernel) rfl ?_
    refine zwW_gc Ch36.1 (kd := 12) (bn := 11) (n := 13) (c := 34) (nx := 37) (by decide +kernel) ?_
    refine zwW_p [(1, 0, 2)] (q := 38) (ls' := [(2, 1), (0, v5)]) (st' := [(2, 1), (2, 34)]) (by decide +kernel) rfl ?_
    refine zwW_gs Ch36.1 (kd := 12) (bn := 0) (n := 13) (t := 0) (lo := 0) (hi := 156) (nx := 41) (by decide +kernel) ?_
    intro v37 ev37 lv37 uv37
    have sv37 : v37 = (yWk5 q (yC h)) 37 0 := Eq.trans ev37 (Eq.trans (Eq.symm (yC_s (h := h36) (i := 0) rfl)) (Eq.trans (congrFun (congrFun (Zh36.trans E33) 37) 0) rfl))
    refine zwW_p [(1, 0, 2)] (q := 42) (ls' := [(2, 1), (0, v5)]) (st' := [(2, 1), (0, v37), (2, 34)]) (by decide +kernel) rfl ?_
    refine zwW_cm Ch36.1 (op := 60) (k' := 190) (n := 0) (kd := 12) (m := 13) (nx := 45) (r := 1) (tl := []) (st' := [(0, v37), (2, 34)]) (by decide +kernel) rfl (by decide +kernel) rfl (x190_z h36 Ch36 f35) ?_
    rintro v38 _ ⟨rfl, f39, f40⟩
    have sv38 : v38 = ySmCA (yWk5 q (yC h)) := by rw [f40, (Zh36.trans E33)]
    refine zwW_p [(1, 1, 0), (1, 0, 2)] (q := 47) (ls' := [(2, 1), (0, v5)]) (st' := [(2, 1), (0, v5), (0, v38), (0, v37), (2, 34)]) (by decide +kernel) rfl ?_
    refine zwW_cm Ch36.1 (op := 60) (k' := 191) (n := 0) (kd := 12) (m := 13) (nx := 50) (r := 1) (tl := []) (st' := [(0, v5), (0, v38), (0, v37), (2, 34)]) (by decide +kernel) rfl (by decide +kernel) rfl (x191_z h36 Ch36 f35) ?_
    rintro v41 _ ⟨rfl, f42, f43⟩
    have sv41 : v41 = ySmLA (yWk5 q (yC h)) := by rw [f43, (Zh36.trans E33)]
    refine zwW_cmv Ch36.1 (op := 60) (k' := 192) (n := 4) (kd := 5) (m := 4) (nx := 53) (r := 34) (tl := [(0, v37), (0, v38), (0, v5), (0, v41)]) (st' := []) (by decide +kernel) rfl (by decide +kernel) rfl (x192_z h36 Ch36 v37 v38 v5 v41 (by omega) (by omega) (by omega) (by omega) f35 (by first | omega | exact ⟨by omega, by omega⟩)) ?_
    rintro h46 ⟨Ch46, Qh46, f44, f45⟩
    have Zh46 : yC h46 = (yClo (yWk5 q (yC h)) (((yWk5 q (yC h)) 37 0).toNat) (ySmCA (yWk5 q (yC h))) (yToA (yC h)) (ySmLA (yWk5 q (yC h)))) := by rw [f44, (Zh36.trans E33), sv37, sv38, sv5, sv41]
    have Xh46 : zXR msx113_z (0) (0) h h46 := Xh36.tr (c2 := 0) (s2 := 0) Qh46 (by decide +kernel) (by decide) (by decide)
    have th46_1_0 : fld h46 1 0 = fld h36 1 0 := Qh46.f (a1 := 1) (a2 := 1) (j1 := 0) (j2 := 1) (by decide +kernel) (by first | decide | exact ⟨by decide, by decide⟩) (by first | decide | exact ⟨by decide, by decide⟩) (by first | decide | exact ⟨by decide, by decide⟩)
    have Vh46 : zRq q h46 := Vh36.fr Ch36 Qh46 (by decide +kernel)
    have Wh46 : zLw h46 := Wh36.fr Qh46 (by decide +kernel)
    have PDh46 : zPd h46 := PDh36.fr Ch36 Qh46 (by decide +kernel)
    refine zwW_p [(1, 0, 2), (12, 0, 0)] (q := 55) (ls' := [(2, 1), (0, v5)]) (st' := [(2, 1), (2, 1)]) (by decide +kernel) rfl ?_
    refine zwW_gs Ch46.1 (kd := 12) (bn := 0) (n := 13) (t := 0) (lo := 0) (hi := 156) (nx := 58) (by decide +kernel) ?_
    intro v47 ev47 lv47 uv47
    have sv47 : v47 = (yClo (yWk5 q (yC h)) (((yWk5 q (yC h)) 37 0).toNat) (ySmCA (yWk5 q (yC h))) (yToA (yC h)) (ySmLA (yWk5 q (yC h)))) 37 0 := Eq.trans ev47 (Eq.trans (Eq.symm (yC_s (h := h46) (i := 0) rfl)) (Eq.trans (congrFun (congrFun Zh46 37) 0) rfl))
    refine zwW_p [(0, 1, 0)] (q := 59) (ls' := [(2, 1), (0, v5)]) (st' := [(0, 1), (0, v47), (2, 1)]) (by decide +kernel) rfl ?_
    refine zwW_add (nx := 60) (by decide +kernel) (by first | omega | exact ⟨by omega, by omega⟩) ?_
    have C60 := Ch46
    have Z60 := Zh46
    have N60 : (yClo (yWk5 q (yC h)) (((yWk5 q (yC h)) 37 0).toNat) (ySmCA (yWk5 q (yC h))) (yToA (yC h)) (ySmLA (yWk5 q (yC h)))) 37 1 = fld h46 2 2 := by rw [← Zh46]; rfl
    have T60 := sv47
    rw [yClo_0] at T60
    refine zwW_ps Ch46.1 (kd := 12) (bn := 0) (n := 13) (lo := 0) (hi := 156) (nx := 63) (by decide +kernel) (by first | omega | exact ⟨by omega, by omega⟩) ?_
    intro h48 eh48 Ih48
    have Ch48 : CI h48 := Ch46.wc eh48 Ih48 (by decide) (by decide)
    have Qh48 : zXR [(1, 1, 0, 1)] 0 0 h46 h48 := zXR.wc eh48 rfl ⟨by decide, by decide, Or.inl (by decide)⟩ (by first | decide | exact ⟨by decide, by decide⟩)
    have Zh48 : yC h48 = (yC h48) := rfl
    have Xh48 : zXR msx113_z (0) (0) h h48 := Xh46.tr (c2 := 0) (s2 := 0) Qh48 (by decide +kernel) (by decide) (by decide)
    have Jh48 : yR h48 := f45.fr Ch46 Qh48 (by decide +kernel)
    have Vh48 : zRq q h48 := Vh46.fr Ch46 Qh48 (by decide +kernel)
    have Wh48 : zLw h48 := Wh46.fr Qh48 (by decide +kernel)
    have PDh48 : zPd h48 := PDh46.fr Ch46 Qh48 (by decide +kernel)
    have th48_1_0 : fld h48 1 0 = (v47 + 1) := by rw [eh48]; exact fld_wr_eq (Ch46.1.s (a1 := 1) (a2 := 1) (k := 12) (n := 13) (by decide +kernel) (by decide) (by decide)) (by decide)
    have G63 := yC_nowz C60 (C60.1.s (a1 := 1) (a2 := 1) (k := 12) (n := 13) (by decide +kernel) (by decide) (by decide)) (by decide) eh48 (by omega)
    rw [Z60, T60] at G63
    refine zwW_p [(1, 0, 2)] (q := 64) (ls' := [(2, 1), (0, v5)]) (st' := [(2, 1)]) (by decide +kernel) rfl ?_
    have V64 := Vh48
    have C64 := Ch48
    refine zwW_cmv Ch48.1 (op := 60) (k' := 193) (n := 0) (kd := 12) (m := 13) (nx := 67) (r := 1) (tl := []) (st' := []) (by decide +kernel) rfl (by decide +kernel) rfl (x193_z h48 Ch48 Jh48 PDh48) ?_
    rintro h52 ⟨Ch52, Qh52, f49, f50, f51⟩
    have Zh52 : yC h52 = (yBgA (yC h48)) := by rw [f50, Zh48]
    have Xh52 : zXR msx113_z (0) (0) h h52 := Xh48.tr (c2 := 0) (s2 := 0) Qh52 (by decide +kernel) (by decide) (by decide)
    have th52_1_0 : fld h52 1 0 = fld h48 1 0 := Qh52.f (a1 := 1) (a2 := 1) (j1 := 0) (j2 := 1) (by decide +kernel) (by first | decide | exact ⟨by decide, by decide⟩) (by first | decide | exact ⟨by decide, by decide⟩) (by first | decide | exact ⟨by decide, by decide⟩)
    have Wh52 : zLw h52 := Wh48.fr Qh52 (by decide +kernel)
    have PDh52 : zPd h52 := PDh48.fr Ch48 Qh52 (by decide +kernel)
    have VN : zRq q h52 := V64.go C64 Qh52 f49 (by decide +kernel)
    refine zwW_retv (nx := 68) (a := 0) (b := 0) (by decide +kernel) ?_
    exact ⟨Ch52, Xh52.le (by decide) (by decide), by omega, by exact VN, by exact Zh52.trans (yBgA_o G63 (by rw [zs_eq]) (by rw [zs_ni (by decide), N60])), by exact f51⟩
end
section
/-! contracts of methods -/
-- WheelLandModel.week()V
theorem m114_z {sc : List Int} (h : Hp) (I : zI h) (q : qT) (p1 : fld h 37 0 ≤ 155) (hA : zAM h) (V : mRq q h) (ok : yOK (yM h)) (B0z : zBs (yM h)) (H65 : zH65 (yM h)) (ZR : yZr (yM h)) : zwC sc 8 114 [(2, 37)] h (zwRv (fun g => zI g ∧ zMR ms114 h g ∧ (fld g 37 0 = fld h 37 0 + 1) ∧ (yM g = yWkM q (yM h)))) := by
  refine zwC_of (D := 7) 2 (by decide +kernel) rfl (ls := [(2, 37), (9, 0)]) rfl ?_
  have R : zMR ms114 h h := zMR.rf _ _
  have u0 : yM h 37 0 = fld h 37 0 := rfl
  have u1 : yM h 37 1 = fld h 37 1 := rfl
  have u2 : yM h 37 2 = fld h 37 2 := rfl
  have u64 : yM h 37 64 = fld h 37 64 := rfl
  have u69 : yM h 37 69 = fld h 37 69 := rfl
  have u70 : yM h 37 70 = fld h 37 70 := rfl
  have u71 : yM h 37 71 = fld h 37 71 := rfl
  have OK1 : yOK (yLyM (yM h)) := ok.lym B0z H65
  have OKM : yOK (yMk5 q (yM h)) := OK1.mk5
  have OKS := OKM.s
  have OK0 := ok.s
  have M0 : (yMk5 q (yM h)) 37 0 = yM h 37 0 := yMk5_0
  have L2_ : (yLyM (yM h)) 37 2 = fld h 37 2 := yLyM_2 B0z
  refine zwW_p [(1, 0, 2)] (q := 1) (ls' := [(2, 37), (9, 0)]) (st' := [(2, 37)]) (by decide +kernel) rfl ?_
  refine zwW_cmv I (op := 60) (k' := 194) (n := 0) (kd := 13) (m := 97) (nx := 4) (r := 37) (tl := []) (st' := []) (by decide +kernel) rfl (by decide +kernel) rfl (m194_z h I p1 hA B0z) ?_
  rintro h2 ⟨Ih2, Qh2, f1⟩
  have Rh2 : zMR ms114 h h2 := R.tr Qh2 (by decide +kernel)
  have Vh2 : mRq q h2 := V.fr Qh2 (by decide +kernel)
  have th2_37_0 : fld h2 37 0 = fld h 37 0 := Qh2.f (a1 := 37) (a2 := 37) (j1 := 0) (j2 := 1) (by decide +kernel) (by first | decide | exact ⟨by decide, by decide⟩) (by first | decide | exact ⟨by decide, by decide⟩)
  have th2_37_2 : fld h2 37 2 = fld h 37 2 := Qh2.f (a1 := 37) (a2 := 37) (j1 := 2) (j2 := 3) (by decide +kernel) (by first | decide | exact ⟨by decide, by decide⟩) (by first | decide | exact ⟨by decide, by decide⟩)
  have Zh2 : yM h2 = (yLyM (yM h)) := by rw [f1]
  refine zwW_p [(0, 0, 0), (2, 1, 0)] (q := 6) (ls' := [(2, 37), (0, 0)]) (st' := []) (by decide +kernel) rfl ?_
  have L3 : ∀ (n0 : Nat) (kL3 : Int) (hL3 : Hp), n0 = ((100 - kL3)).toNat → (mRq q hL3) → ((0 ≤ kL3 ∧ kL3 ≤ fld h 37 2) ∧ fld hL3 37 0 = fld h 37 0 ∧ fld hL3 37 2 = fld h 37 2) → (yM hL3 = (yBys q (yLyM (yM h)) (kL3).toNat)) → zI hL3 → zMR ms114 h hL3 → zwW sc (7) 114 6 [(2, 37), (0, kL3)] [] hL3 (zwRv (fun g => zI g ∧ zMR ms114 h g ∧ (fld g 37 0 = fld h 37 0 + 1) ∧ (yM g = yWkM q (yM h)))) := by
    intro n0
    induction n0 using Nat.strongRecOn with
    | ind n0 IHL3 =>
      intro kL3 hL3 hnL3 iL3_0 iL3_1 iL3_2 IhL3 RhL3
      refine zwW_p [(1, 1, 0), (1, 0, 2)] (q := 8) (ls' := [(2, 37), (0, kL3)]) (st' := [(2, 37), (0, kL3)]) (by decide +kernel) rfl ?_
      refine zwW_gs IhL3 (kd := 13) (bn := 2) (n := 97) (t := 0) (lo := 0) (hi := 20) (nx := 11) (by decide +kernel) ?_
      intro v4 ev4 lv4 uv4
      have sv4 : v4 = (yBys q (yLyM (yM h)) (kL3).toNat) 37 2 := Eq.trans ev4 (Eq.trans (Eq.symm (yM_s (h := hL3) (i := 2) rfl)) (Eq.trans (congrFun (congrFun iL3_2 37) 2) rfl))
      refine zwic_ge (q := 41) (nx := 14) (by decide +kernel) (fun c5 => ?_) (fun c5 => ?_)
      · have E41 : (yBys q (yLyM (yM h)) (kL3).toNat) = yByA q (yLyM (yM h)) := by
          unfold yByA
          rw [show ((yLyM (yM h)) 37 2).toNat = (kL3).toNat by omega]
        refine zwW_p [(1, 0, 2)] (q := 42) (ls' := [(2, 37), (0, kL3)]) (st' := [(2, 37)]) (by decide +kernel) rfl ?_
        refine zwW_gs IhL3 (kd := 13) (bn := 0) (n := 97) (t := 0) (lo := 0) (hi := 156) (nx := 45) (by decide +kernel) ?_
        intro v6 ev6 lv6 uv6
        have sv6 : v6 = (yByA q (yLyM (yM h))) 37 0 := Eq.trans ev6 (Eq.trans (Eq.symm (yM_s (h := hL3) (i := 0) rfl)) (Eq.trans (congrFun (congrFun (iL3_2.trans E41) 37) 0) rfl))
        refine zwW_p [(0, 13, 0)] (q := 47) (ls' := [(2, 37), (0, kL3)]) (st' := [(0, 13), (0, v6)]) (by decide +kernel) rfl ?_
        refine zwW_rem (nx := 48) (by decide +kernel) (by omega) (by omega) ?_
        refine zwW_p [(0, 12, 0)] (q := 50) (ls' := [(2, 37), (0, kL3)]) (st' := [(0, 12), (0, (v6 % 13))]) (by decide +kernel) rfl ?_
        refine zwic_ne (q := 57) (nx := 53) (by decide +kernel) (fun c7 => ?_) (fun c7 => ?_)
        · have E57 : (yByA q (yLyM (yM h))) = (if yByA q (yLyM (yM h)) 37 0 % 13 = 12 then ySea q (yByA q (yLyM (yM h))) else yByA q (yLyM (yM h))) := by
            first
            | exact (if_neg (by omega)).symm
            | exact (if_pos (by omega)).symm
          refine zwW_p [(1, 0, 2)] (q := 58) (ls' := [(2, 37), (0, kL3)]) (st' := [(2, 37)]) (by decide +kernel) rfl ?_
          refine zwW_cmv IhL3 (op := 60) (k' := 197) (n := 0) (kd := 13) (m := 97) (nx := 61) (r := 37) (tl := []) (st' := []) (by decide +kernel) rfl (by decide +kernel) rfl (m197_z hL3 IhL3) ?_
          rintro h9 ⟨Ih9, Qh9, f8⟩
          have Rh9 : zMR ms114 h h9 := RhL3.tr Qh9 (by decide +kernel)
          have Vh9 : mRq q h9 := iL3_0.fr Qh9 (by decide +kernel)
          have th9_37_0 : fld h9 37 0 = fld hL3 37 0 := Qh9.f (a1 := 37) (a2 := 37) (j1 := 0) (j2 := 1) (by decide +kernel) (by first | decide | exact ⟨by decide, by decide⟩) (by first | decide | exact ⟨by decide, by decide⟩)
          have th9_37_2 : fld h9 37 2 = fld hL3 37 2 := Qh9.f (a1 := 37) (a2 := 37) (j1 := 2) (j2 := 3) (by decide +kernel) (by first | decide | exact ⟨by decide, by decide⟩) (by first | decide | exact ⟨by decide, by decide⟩)
          have Zh9 : yM h9 = (yWrA (if yByA q (yLyM (yM h)) 37 0 % 13 = 12 then ySea q (yByA q (yLyM (yM h))) else yByA q (yLyM (yM h)))) := by rw [f8, ((iL3_2.trans E41).trans E57)]
          refine zwW_p [(0, 0, 0)] (q := 62) (ls' := [(2, 37), (0, kL3)]) (st' := [(0, 0)]) (by decide +kernel) rfl ?_
          refine zwW_p [(2, 1, 0)] (q := 63) (ls' := [(2, 37), (0, 0)]) (st' := []) (by decide +kernel) rfl ?_
          have L10 : ∀ (n0 : Nat) (vL10 : Int) (hL10 : Hp), n0 = ((100 - vL10)).toNat → ((0 ≤ vL10 ∧ vL10 ≤ (yMk5 q (yM h)) 37 1) ∧ fld hL10 37 0 = fld h 37 0) → (yM hL10 = (zs (yMk5 q (yM h)) 206 (6 * ((yMk5 q (yM h)) 37 0).toNat) (ySmC (yMk5 q (yM h)) (vL10).toNat))) → zI hL10 → zMR ms114 h hL10 → zwW sc (7) 114 63 [(2, 37), (0, vL10)] [] hL10 (zwRv (fun g => zI g ∧ zMR ms114 h g ∧ (fld g 37 0 = fld h 37 0 + 1) ∧ (yM g = yWkM q (yM h)))) := by
            intro n0
            induction n0 using Nat.strongRecOn with
            | ind n0 IHL10 =>
              intro vL10 hL10 hnL10 iL10_0 iL10_1 IhL10 RhL10
              refine zwW_p [(1, 1, 0), (1, 0, 2)] (q := 65) (ls' := [(2, 37), (0, vL10)]) (st' := [(2, 37), (0, vL10)]) (by decide +kernel) rfl ?_
              refine zwW_gs IhL10 (kd := 13) (bn := 1) (n := 97) (t := 0) (lo := 0) (hi := 8) (nx := 68) (by decide +kernel) ?_
              intro v11 ev11 lv11 uv11
              have sv11 : v11 = ((yMk5 q (yM h))) 37 1 := Eq.trans ev11 (Eq.trans (Eq.symm (yM_s (h := hL10) (i := 1) rfl)) (Eq.trans (congrFun (congrFun (iL10_1) 37) 1) (Eq.trans (zs_na (by decide) : (zs ((yMk5 q (yM h))) 206 (6 * ((yMk5 q (yM h)) 37 0).toNat) (ySmC (yMk5 q (yM h)) (vL10).toNat)) 37 1 = ((yMk5 q (yM h))) 37 1) rfl)))
              refine zwic_ge (q := 97) (nx := 71) (by decide +kernel) (fun c12 => ?_) (fun c12 => ?_)
              · refine zwW_p [(0, 0, 0), (2, 1, 0)] (q := 99) (ls' := [(2, 37), (0, 0)]) (st' := []) (by decide +kernel) rfl ?_
                have L13 : ∀ (n0 : Nat) (lL13 : Int) (hL13 : Hp), n0 = ((1000 - lL13)).toNat → ((0 ≤ lL13 ∧ lL13 ≤ (yMk5 q (yM h)) 37 64) ∧ fld hL13 37 0 = fld h 37 0) → (yM hL13 = (zs (zs (yMk5 q (yM h)) 206 (6 * ((yMk5 q (yM h)) 37 0).toNat) (ySmCA (yMk5 q (yM h)))) 206 (6 * ((yMk5 q (yM h)) 37 0).toNat + 2) (ySmL (yMk5 q (yM h)) (lL13).toNat))) → zI hL13 → zMR ms114 h hL13 → zwW sc (7) 114 99 [(2, 37), (0, lL13)] [] hL13 (zwRv (fun g => zI g ∧ zMR ms114 h g ∧ (fld g 37 0 = fld h 37 0 + 1) ∧ (yM g = yWkM q (yM h)))) := by
                  intro n0
                  induction n0 using Nat.strongRecOn with
                  | ind n0 IHL13 =>
                    intro lL13 hL13 hnL13 iL13_0 iL13_1 IhL13 RhL13
                    refine zwW_p [(1, 1, 0), (1, 0, 2)] (q := 101) (ls' := [(2, 37), (0, lL13)]) (st' := [(2, 37), (0, lL13)]) (by decide +kernel) rfl ?_
                    refine zwW_gs IhL13 (kd := 13) (bn := 64) (n := 97) (t := 0) (lo := 0) (hi := 300) (nx := 104) (by decide +kernel) ?_
                    intro v14 ev14 lv14 uv14
                    have sv14 : v14 = ((yMk5 q (yM h))) 37 64 := Eq.trans ev14 (Eq.trans (Eq.symm (yM_s (h := hL13) (i := 64) rfl)) (Eq.trans (congrFun (congrFun (iL13_1) 37) 64) (Eq.trans (zs_na (by decide) : (zs (zs ((yMk5 q (yM h))) 206 (6 * ((yMk5 q (yM h)) 37 0).toNat) (ySmCA (yMk5 q (yM h)))) 206 (6 * ((yMk5 q (yM h)) 37 0).toNat + 2) (ySmL (yMk5 q (yM h)) (lL13).toNat)) 37 64 = (zs ((yMk5 q (yM h))) 206 (6 * ((yMk5 q (yM h)) 37 0).toNat) (ySmCA (yMk5 q (yM h)))) 37 64) (Eq.trans (zs_na (by decide) : (zs ((yMk5 q (yM h))) 206 (6 * ((yMk5 q (yM h)) 37 0).toNat) (ySmCA (yMk5 q (yM h)))) 37 64 = ((yMk5 q (yM h))) 37 64) rfl))))
                    refine zwic_ge (q := 133) (nx := 107) (by decide +kernel) (fun c15 => ?_) (fun c15 => ?_)
                    · refine zwW_p [(1, 0, 2)] (q := 134) (ls' := [(2, 37), (0, lL13)]) (st' := [(2, 37)]) (by decide +kernel) rfl ?_
                      refine zwW_gc IhL13 (kd := 13) (bn := 91) (n := 97) (c := 205) (nx := 137) (by decide +kernel) ?_
                      refine zwW_p [(1, 0, 2)] (q := 138) (ls' := [(2, 37), (0, lL13)]) (st' := [(2, 37), (2, 205)]) (by decide +kernel) rfl ?_
                      refine zwW_gs IhL13 (kd := 13) (bn := 0) (n := 97) (t := 0) (lo := 0) (hi := 156) (nx := 141) (by decide +kernel) ?_
                      intro v16 ev16 lv16 uv16
                      have sv16 : v16 = ((yMk5 q (yM h))) 37 0 := Eq.trans ev16 (Eq.trans (Eq.symm (yM_s (h := hL13) (i := 0) rfl)) (Eq.trans (congrFun (congrFun (iL13_1) 37) 0) (Eq.trans (zs_na (by decide) : (zs (zs ((yMk5 q (yM h))) 206 (6 * ((yMk5 q (yM h)) 37 0).toNat) (ySmCA (yMk5 q (yM h)))) 206 (6 * ((yMk5 q (yM h)) 37 0).toNat + 2) (ySmL (yMk5 q (yM h)) (lL13).toNat)) 37 0 = (zs ((yMk5 q (yM h))) 206 (6 * ((yMk5 q (yM h)) 37 0).toNat) (ySmCA (yMk5 q (yM h)))) 37 0) (Eq.trans (zs_na (by decide) : (zs ((yMk5 q (yM h))) 206 (6 * ((yMk5 q (yM h)) 37 0).toNat) (ySmCA (yMk5 q (yM h)))) 37 0 = ((yMk5 q (yM h))) 37 0) rfl))))
                      refine zwW_ro IhL13 (a := 205) (n := 156) (kd := 26) (base := 206) (step := 1) (nx := 142) (by decide +kernel) rfl (by first | omega | exact ⟨by omega, by omega⟩) ?_
                      rw [show ((206 : Nat) : Int) + ((1 : Nat) : Int) * v16 = (206 + v16) by omega]
                      refine zwW_p [(0, 3, 0), (1, 0, 2)] (q := 144) (ls' := [(2, 37), (0, lL13)]) (st' := [(2, 37), (0, 3), (2, (206 + v16))]) (by decide +kernel) rfl ?_
                      refine zwW_gs IhL13 (kd := 13) (bn := 69) (n := 97) (t := 0) (lo := -2147483648) (hi := 2147483647) (nx := 147) (by decide +kernel) ?_
                      intro v17 ev17 lv17 uv17
                      have sv17 : v17 = ((yMk5 q (yM h))) 37 69 := Eq.trans ev17 (Eq.trans (Eq.symm (yM_s (h := hL13) (i := 69) rfl)) (Eq.trans (congrFun (congrFun (iL13_1) 37) 69) (Eq.trans (zs_na (by decide) : (zs (zs ((yMk5 q (yM h))) 206 (6 * ((yMk5 q (yM h)) 37 0).toNat) (ySmCA (yMk5 q (yM h)))) 206 (6 * ((yMk5 q (yM h)) 37 0).toNat + 2) (ySmL (yMk5 q (yM h)) (lL13).toNat)) 37 69 = (zs ((yMk5 q (yM h))) 206 (6 * ((yMk5 q (yM h)) 37 0).toNat) (ySmCA (yMk5 q (yM h)))) 37 69) (Eq.trans (zs_na (by decide) : (zs ((yMk5 q (yM h))) 206 (6 * ((yMk5 q (yM h)) 37 0).toNat) (ySmCA (yMk5 q (yM h)))) 37 69 = ((yMk5 q (yM h))) 37 69) rfl))))
                      refine zwW_as IhL13 (a1 := 206) (a2 := 361) (n := 6) (lo := -2147483648) (hi := 2147483647) (nx := 148) (by decide +kernel) (by first | omega | exact ⟨by omega, by omega⟩) (by first | decide | exact ⟨by decide, by decide⟩) (by first | omega | exact ⟨by omega, by omega⟩) ?_
                      intro h18 eh18 Ih18
                      have rbh18 : ((206 : Nat) : Int) ≤ (206 + v16) ∧ (206 + v16) ≤ ((361 : Nat) : Int) := (by first | omega | exact ⟨by omega, by omega⟩)
                      have th18_37_0 : fld h18 37 0 = fld hL13 37 0 := by rw [eh18]; exact fld_wr (Or.inl (zne_l (by decide) rbh18.1))
                      have th18_37_2 : fld h18 37 2 = fld hL13 37 2 := by rw [eh18]; exact fld_wr (Or.inl (zne_l (by decide) rbh18.1))
                      have Zh18 : yM h18 = (zs (zs (zs ((yMk5 q (yM h))) 206 (6 * ((yMk5 q (yM h)) 37 0).toNat) (ySmCA (yMk5 q (yM h)))) 206 (6 * ((yMk5 q (yM h)) 37 0).toNat + 2) (ySmL (yMk5 q (yM h)) (lL13).toNat)) 206 (6 * v16.toNat + 3) (((yMk5 q (yM h))) 37 69)) := by rw [yM_w2 (a := 206) (w := 6) (v := v16.toNat) (j := 3) (m := 6) (kd := 20) rfl (by omega) (IhL13.s (a1 := 206) (a2 := 361) (by decide +kernel) (by omega) (by omega)) (by omega) (by omega) (by show _ < 936; omega) eh18, (iL13_1), sv17]
                      have Rh18 : zMR ms114 h h18 := RhL13.w (a1 := 206) (a2 := 361) (j1 := 0) (j2 := 6) (by decide +kernel) rbh18 (by first | decide | exact ⟨by decide, by decide⟩) eh18
                      refine zwW_p [(1, 0, 2)] (q := 149) (ls' := [(2, 37), (0, lL13)]) (st' := [(2, 37)]) (by decide +kernel) rfl ?_
                      refine zwW_gc Ih18 (kd := 13) (bn := 91) (n := 97) (c := 205) (nx := 152) (by decide +kernel) ?_
                      refine zwW_p [(1, 0, 2)] (q := 153) (ls' := [(2, 37), (0, lL13)]) (st' := [(2, 37), (2, 205)]) (by decide +kernel) rfl ?_
                      refine zwW_gs Ih18 (kd := 13) (bn := 0) (n := 97) (t := 0) (lo := 0) (hi := 156) (nx := 156) (by decide +kernel) ?_
                      intro v19 ev19 lv19 uv19
                      have sv19 : v19 = ((yMk5 q (yM h))) 37 0 := Eq.trans ev19 (Eq.trans (Eq.symm (yM_s (h := h18) (i := 0) rfl)) (Eq.trans (congrFun (congrFun Zh18 37) 0) (Eq.trans (zs_na (by decide) : (zs (zs (zs ((yMk5 q (yM h))) 206 (6 * ((yMk5 q (yM h)) 37 0).toNat) (ySmCA (yMk5 q (yM h)))) 206 (6 * ((yMk5 q (yM h)) 37 0).toNat + 2) (ySmL (yMk5 q (yM h)) (lL13).toNat)) 206 (6 * v16.toNat + 3) (((yMk5 q (yM h))) 37 69)) 37 0 = (zs (zs ((yMk5 q (yM h))) 206 (6 * ((yMk5 q (yM h)) 37 0).toNat) (ySmCA (yMk5 q (yM h)))) 206 (6 * ((yMk5 q (yM h)) 37 0).toNat + 2) (ySmL (yMk5 q (yM h)) (lL13).toNat)) 37 0) (Eq.trans (zs_na (by decide) : (zs (zs ((yMk5 q (yM h))) 206 (6 * ((yMk5 q (yM h)) 37 0).toNat) (ySmCA (yMk5 q (yM h)))) 206 (6 * ((yMk5 q (yM h)) 37 0).toNat + 2) (ySmL (yMk5 q (yM h)) (lL13).toNat)) 37 0 = (zs ((yMk5 q (yM h))) 206 (6 * ((yMk5 q (yM h)) 37 0).toNat) (ySmCA (yMk5 q (yM h)))) 37 0) (Eq.trans (zs_na (by decide) : (zs ((yMk5 q (yM h))) 206 (6 * ((yMk5 q (yM h)) 37 0).toNat) (ySmCA (yMk5 q (yM h)))) 37 0 = ((yMk5 q (yM h))) 37 0) rfl)))))
                      refine zwW_ro Ih18 (a := 205) (n := 156) (kd := 26) (base := 206) (step := 1) (nx := 157) (by decide +kernel) rfl (by first | omega | exact ⟨by omega, by omega⟩) ?_
                      rw [show ((206 : Nat) : Int) + ((1 : Nat) : Int) * v19 = (206 + v19) by omega]
                      refine zwW_p [(0, 4, 0), (1, 0, 2)] (q := 159) (ls' := [(2, 37), (0, lL13)]) (st' := [(2, 37), (0, 4), (2, (206 + v19))]) (by decide +kernel) rfl ?_
                      refine zwW_gs Ih18 (kd := 13) (bn := 70) (n := 97) (t := 0) (lo := -2147483648) (hi := 2147483647) (nx := 162) (by decide +kernel) ?_
                      intro v20 ev20 lv20 uv20
                      have sv20 : v20 = ((yMk5 q (yM h))) 37 70 := Eq.trans ev20 (Eq.trans (Eq.symm (yM_s (h := h18) (i := 70) rfl)) (Eq.trans (congrFun (congrFun Zh18 37) 70) (Eq.trans (zs_na (by decide) : (zs (zs (zs ((yMk5 q (yM h))) 206 (6 * ((yMk5 q (yM h)) 37 0).toNat) (ySmCA (yMk5 q (yM h)))) 206 (6 * ((yMk5 q (yM h)) 37 0).toNat + 2) (ySmL (yMk5 q (yM h)) (lL13).toNat)) 206 (6 * v16.toNat + 3) (((yMk5 q (yM h))) 37 69)) 37 70 = (zs (zs ((yMk5 q (yM h))) 206 (6 * ((yMk5 q (yM h)) 37 0).toNat) (ySmCA (yMk5 q (yM h)))) 206 (6 * ((yMk5 q (yM h)) 37 0).toNat + 2) (ySmL (yMk5 q (yM h)) (lL13).toNat)) 37 70) (Eq.trans (zs_na (by decide) : (zs (zs ((yMk5 q (yM h))) 206 (6 * ((yMk5 q (yM h)) 37 0).toNat) (ySmCA (yMk5 q (yM h)))) 206 (6 * ((yMk5 q (yM h)) 37 0).toNat + 2) (ySmL (yMk5 q (yM h)) (lL13).toNat)) 37 70 = (zs ((yMk5 q (yM h))) 206 (6 * ((yMk5 q (yM h)) 37 0).toNat) (ySmCA (yMk5 q (yM h)))) 37 70) (Eq.trans (zs_na (by decide) : (zs ((yMk5 q (yM h))) 206 (6 * ((yMk5 q (yM h)) 37 0).toNat) (ySmCA (yMk5 q (yM h)))) 37 70 = ((yMk5 q (yM h))) 37 70) rfl)))))
                      refine zwW_as Ih18 (a1 := 206) (a2 := 361) (n := 6) (lo := -2147483648) (hi := 2147483647) (nx := 163) (by decide +kernel) (by first | omega | exact ⟨by omega, by omega⟩) (by first | decide | exact ⟨by decide, by decide⟩) (by first | omega | exact ⟨by omega, by omega⟩) ?_
                      intro h21 eh21 Ih21
                      have rbh21 : ((206 : Nat) : Int) ≤ (206 + v19) ∧ (206 + v19) ≤ ((361 : Nat) : Int) := (by first | omega | exact ⟨by omega, by omega⟩)
                      have th21_37_0 : fld h21 37 0 = fld h18 37 0 := by rw [eh21]; exact fld_wr (Or.inl (zne_l (by decide) rbh21.1))
                      have th21_37_2 : fld h21 37 2 = fld h18 37 2 := by rw [eh21]; exact fld_wr (Or.inl (zne_l (by decide) rbh21.1))
                      have Zh21 : yM h21 = (zs (zs (zs (zs ((yMk5 q (yM h))) 206 (6 * ((yMk5 q (yM h)) 37 0).toNat) (ySmCA (yMk5 q (yM h)))) 206 (6 * ((yMk5 q (yM h)) 37 0).toNat + 2) (ySmL (yMk5 q (yM h)) (lL13).toNat)) 206 (6 * v16.toNat + 3) (((yMk5 q (yM h))) 37 69)) 206 (6 * v19.toNat + 4) (((yMk5 q (yM h))) 37 70)) := by rw [yM_w2 (a := 206) (w := 6) (v := v19.toNat) (j := 4) (m := 6) (kd := 20) rfl (by omega) (Ih18.s (a1 := 206) (a2 := 361) (by decide +kernel) (by omega) (by omega)) (by omega) (by omega) (by show _ < 936; omega) eh21, Zh18, sv20]
                      have Rh21 : zMR ms114 h h21 := Rh18.w (a1 := 206) (a2 := 361) (j1 := 0) (j2 := 6) (by decide +kernel) rbh21 (by first | decide | exact ⟨by decide, by decide⟩) eh21
                      refine zwW_p [(1, 0, 2)] (q := 164) (ls' := [(2, 37), (0, lL13)]) (st' := [(2, 37)]) (by decide +kernel) rfl ?_
                      refine zwW_gc Ih21 (kd := 13) (bn := 91) (n := 97) (c := 205) (nx := 167) (by decide +kernel) ?_
                      refine zwW_p [(1, 0, 2)] (q := 168) (ls' := [(2, 37), (0, lL13)]) (st' := [(2, 37), (2, 205)]) (by decide +kernel) rfl ?_
                      refine zwW_gs Ih21 (kd := 13) (bn := 0) (n := 97) (t := 0) (lo := 0) (hi := 156) (nx := 171) (by decide +kernel) ?_
                      intro v22 ev22 lv22 uv22
                      have sv22 : v22 = ((yMk5 q (yM h))) 37 0 := Eq.trans ev22 (Eq.trans (Eq.symm (yM_s (h := h21) (i := 0) rfl)) (Eq.trans (congrFun (congrFun Zh21 37) 0) (Eq.trans (zs_na (by decide) : (zs (zs (zs (zs ((yMk5 q (yM h))) 206 (6 * ((yMk5 q (yM h)) 37 0).toNat) (ySmCA (yMk5 q (yM h)))) 206 (6 * ((yMk5 q (yM h)) 37 0).toNat + 2) (ySmL (yMk5 q (yM h)) (lL13).toNat)) 206 (6 * v16.toNat + 3) (((yMk5 q (yM h))) 37 69)) 206 (6 * v19.toNat + 4) (((yMk5 q (yM h))) 37 70)) 37 0 = (zs (zs (zs ((yMk5 q (yM h))) 206 (6 * ((yMk5 q (yM h)) 37 0).toNat) (ySmCA (yMk5 q (yM h)))) 206 (6 * ((yMk5 q (yM h)) 37 0).toNat + 2) (ySmL (yMk5 q (yM h)) (lL13).toNat)) 206 (6 * v16.toNat + 3) (((yMk5 q (yM h))) 37 69)) 37 0) (Eq.trans (zs_na (by decide) : (zs (zs (zs ((yMk5 q (yM h))) 206 (6 * ((yMk5 q (yM h)) 37 0).toNat) (ySmCA (yMk5 q (yM h)))) 206 (6 * ((yMk5 q (yM h)) 37 0).toNat + 2) (ySmL (yMk5 q (yM h)) (lL13).toNat)) 206 (6 * v16.toNat + 3) (((yMk5 q (yM h))) 37 69)) 37 0 = (zs (zs ((yMk5 q (yM h))) 206 (6 * ((yMk5 q (yM h)) 37 0).toNat) (ySmCA (yMk5 q (yM h)))) 206 (6 * ((yMk5 q (yM h)) 37 0).toNat + 2) (ySmL (yMk5 q (yM h)) (lL13).toNat)) 37 0) (Eq.trans (zs_na (by decide) : (zs (zs ((yMk5 q (yM h))) 206 (6 * ((yMk5 q (yM h)) 37 0).toNat) (ySmCA (yMk5 q (yM h)))) 206 (6 * ((yMk5 q (yM h)) 37 0).toNat + 2) (ySmL (yMk5 q (yM h)) (lL13).toNat)) 37 0 = (zs ((yMk5 q (yM h))) 206 (6 * ((yMk5 q (yM h)) 37 0).toNat) (ySmCA (yMk5 q (yM h)))) 37 0) (Eq.trans (zs_na (by decide) : (zs ((yMk5 q (yM h))) 206 (6 * ((yMk5 q (yM h)) 37 0).toNat) (ySmCA (yMk5 q (yM h)))) 37 0 = ((yMk5 q (yM h))) 37 0) rfl))))))
                      refine zwW_ro Ih21 (a := 205) (n := 156) (kd := 26) (base := 206) (step := 1) (nx := 172) (by decide +kernel) rfl (by first | omega | exact ⟨by omega, by omega⟩) ?_
                      rw [show ((206 : Nat) : Int) + ((1 : Nat) : Int) * v22 = (206 + v22) by omega]
                      refine zwW_p [(0, 5, 0), (1, 0, 2)] (q := 174) (ls' := [(2, 37), (0, lL13)]) (st' := [(2, 37), (0, 5), (2, (206 + v22))]) (by decide +kernel) rfl ?_
                      refine zwW_gs Ih21 (kd := 13) (bn := 71) (n := 97) (t := 0) (lo := -2147483648) (hi := 2147483647) (nx := 177) (by decide +kernel) ?_
                      intro v23 ev23 lv23 uv23
                      have sv23 : v23 = ((yMk5 q (yM h))) 37 71 := Eq.trans ev23 (Eq.trans (Eq.symm (yM_s (h := h21) (i := 71) rfl)) (Eq.trans (congrFun (congrFun Zh21 37) 71) (Eq.trans (zs_na (by decide) : (zs (zs (zs (zs ((yMk5 q (yM h))) 206 (6 * ((yMk5 q (yM h)) 37 0).toNat) (ySmCA (yMk5 q (yM h)))) 206 (6 * ((yMk5 q (yM h)) 37 0).toNat + 2) (ySmL (yMk5 q (yM h)) (lL13).toNat)) 206 (6 * v16.toNat + 3) (((yMk5 q (yM h))) 37 69)) 206 (6 * v19.toNat + 4) (((yMk5 q (yM h))) 37 70)) 37 71 = (zs (zs (zs ((yMk5 q (yM h))) 206 (6 * ((yMk5 q (yM h)) 37 0).toNat) (ySmCA (yMk5 q (yM h)))) 206 (6 * ((yMk5 q (yM h)) 37 0).toNat + 2) (ySmL (yMk5 q (yM h)) (lL13).toNat)) 206 (6 * v16.toNat + 3) (((yMk5 q (yM h))) 37 69)) 37 71) (Eq.trans (zs_na (by decide) : (zs (zs (zs ((yMk5 q (yM h))) 206 (6 * ((yMk5 q (yM h)) 37 0).toNat) (ySmCA (yMk5 q (yM h)))) 206 (6 * ((yMk5 q (yM h)) 37 0).toNat + 2) (ySmL (yMk5 q (yM h)) (lL13).toNat)) 206 (6 * v16.toNat + 3) (((yMk5 q (yM h))) 37 69)) 37 71 = (zs (zs ((yMk5 q (yM h))) 206 (6 * ((yMk5 q (yM h)) 37 0).toNat) (ySmCA (yMk5 q (yM h)))) 206 (6 * ((yMk5 q (yM h)) 37 0).toNat + 2) (ySmL (yMk5 q (yM h)) (lL13).toNat)) 37 71) (Eq.trans (zs_na (by decide) : (zs (zs ((yMk5 q (yM h))) 206 (6 * ((yMk5 q (yM h)) 37 0).toNat) (ySmCA (yMk5 q (yM h)))) 206 (6 * ((yMk5 q (yM h)) 37 0).toNat + 2) (ySmL (yMk5 q (yM h)) (lL13).toNat)) 37 71 = (zs ((yMk5 q (yM h))) 206 (6 * ((yMk5 q (yM h)) 37 0).toNat) (ySmCA (yMk5 q (yM h)))) 37 71) (Eq.trans (zs_na (by decide) : (zs ((yMk5 q (yM h))) 206 (6 * ((yMk5 q (yM h)) 37 0).toNat) (ySmCA (yMk5 q (yM h)))) 37 71 = ((yMk5 q (yM h))) 37 71) rfl))))))
                      refine zwW_as Ih21 (a1 := 206) (a2 := 361) (n := 6) (lo := -2147483648) (hi := 2147483647) (nx := 178) (by decide +kernel) (by first | omega | exact ⟨by omega, by omega⟩) (by first | decide | exact ⟨by decide, by decide⟩) (by first | omega | exact ⟨by omega, by omega⟩) ?_
                      intro h24 eh24 Ih24
                      have rbh24 : ((206 : Nat) : Int) ≤ (206 + v22) ∧ (206 + v22) ≤ ((361 : Nat) : Int) := (by first | omega | exact ⟨by omega, by omega⟩)
                      have th24_37_0 : fld h24 37 0 = fld h21 37 0 := by rw [eh24]; exact fld_wr (Or.inl (zne_l (by decide) rbh24.1))
                      have th24_37_2 : fld h24 37 2 = fld h21 37 2 := by rw [eh24]; exact fld_wr (Or.inl (zne_l (by decide) rbh24.1))
                      have Zh24 : yM h24 = (zs (zs (zs (zs (zs ((yMk5 q (yM h))) 206 (6 * ((yMk5 q (yM h)) 37 0).toNat) (ySmCA (yMk5 q (yM h)))) 206 (6 * ((yMk5 q (yM h)) 37 0).toNat + 2) (ySmL (yMk5 q (yM h)) (lL13).toNat)) 206 (6 * v16.toNat + 3) (((yMk5 q (yM h))) 37 69)) 206 (6 * v19.toNat + 4) (((yMk5 q (yM h))) 37 70)) 206 (6 * v22.toNat + 5) (((yMk5 q (yM h))) 37 71)) := by rw [yM_w2 (a := 206) (w := 6) (v := v22.toNat) (j := 5) (m := 6) (kd := 20) rfl (by omega) (Ih21.s (a1 := 206) (a2 := 361) (by decide +kernel) (by omega) (by omega)) (by omega) (by omega) (by show _ < 936; omega) eh24, Zh21, sv23]
                      have Rh24 : zMR ms114 h h24 := Rh21.w (a1 := 206) (a2 := 361) (j1 := 0) (j2 := 6) (by decide +kernel) rbh24 (by first | decide | exact ⟨by decide, by decide⟩) eh24
                      refine zwW_p [(1, 0, 2), (12, 0, 0)] (q := 180) (ls' := [(2, 37), (0, lL13)]) (st' := [(2, 37), (2, 37)]) (by decide +kernel) rfl ?_
                      refine zwW_gs Ih24 (kd := 13) (bn := 0) (n := 97) (t := 0) (lo := 0) (hi := 156) (nx := 183) (by decide +kernel) ?_
                      intro v25 ev25 lv25 uv25
                      have sv25 : v25 = ((yMk5 q (yM h))) 37 0 := Eq.trans ev25 (Eq.trans (Eq.symm (yM_s (h := h24) (i := 0) rfl)) (Eq.trans (congrFun (congrFun Zh24 37) 0) (Eq.trans (zs_na (by decide) : (zs (zs (zs (zs (zs ((yMk5 q (yM h))) 206 (6 * ((yMk5 q (yM h)) 37 0).toNat) (ySmCA (yMk5 q (yM h)))) 206 (6 * ((yMk5 q (yM h)) 37 0).toNat + 2) (ySmL (yMk5 q (yM h)) (lL13).toNat)) 206 (6 * v16.toNat + 3) (((yMk5 q (yM h))) 37 69)) 206 (6 * v19.toNat + 4) (((yMk5 q (yM h))) 37 70)) 206 (6 * v22.toNat + 5) (((yMk5 q (yM h))) 37 71)) 37 0 = (zs (zs (zs (zs ((yMk5 q (yM h))) 206 (6 * ((yMk5 q (yM h)) 37 0).toNat) (ySmCA (yMk5 q (yM h)))) 206 (6 * ((yMk5 q (yM h)) 37 0).toNat + 2) (ySmL (yMk5 q (yM h)) (lL13).toNat)) 206 (6 * v16.toNat + 3) (((yMk5 q (yM h))) 37 69)) 206 (6 * v19.toNat + 4) (((yMk5 q (yM h))) 37 70)) 37 0) (Eq.trans (zs_na (by decide) : (zs (zs (zs (zs ((yMk5 q (yM h))) 206 (6 * ((yMk5 q (yM h)) 37 0).toNat) (ySmCA (yMk5 q (yM h)))) 206 (6 * ((yMk5 q (yM h)) 37 0).toNat + 2) (ySmL (yMk5 q (yM h)) (lL13).toNat)) 206 (6 * v16.toNat + 3) (((yMk5 q (yM h))) 37 69)) 206 (6 * v19.toNat + 4) (((yMk5 q (yM h))) 37 70)) 37 0 = (zs (zs (zs ((yMk5 q (yM h))) 206 (6 * ((yMk5 q (yM h)) 37 0).toNat) (ySmCA (yMk5 q (yM h)))) 206 (6 * ((yMk5 q (yM h)) 37 0).toNat + 2) (ySmL (yMk5 q (yM h)) (lL13).toNat)) 206 (6 * v16.toNat + 3) (((yMk5 q (yM h))) 37 69)) 37 0) (Eq.trans (zs_na (by decide) : (zs (zs (zs ((yMk5 q (yM h))) 206 (6 * ((yMk5 q (yM h)) 37 0).toNat) (ySmCA (yMk5 q (yM h)))) 206 (6 * ((yMk5 q (yM h)) 37 0).toNat + 2) (ySmL (yMk5 q (yM h)) (lL13).toNat)) 206 (6 * v16.toNat + 3) (((yMk5 q (yM h))) 37 69)) 37 0 = (zs (zs ((yMk5 q (yM h))) 206 (6 * ((yMk5 q (yM h)) 37 0).toNat) (ySmCA (yMk5 q (yM h)))) 206 (6 * ((yMk5 q (yM h)) 37 0).toNat + 2) (ySmL (yMk5 q (yM h)) (lL13).toNat)) 37 0) (Eq.trans (zs_na (by decide) : (zs (zs ((yMk5 q (yM h))) 206 (6 * ((yMk5 q (yM h)) 37 0).toNat) (ySmCA (yMk5 q (yM h)))) 206 (6 * ((yMk5 q (yM h)) 37 0).toNat + 2) (ySmL (yMk5 q (yM h)) (lL13).toNat)) 37 0 = (zs ((yMk5 q (yM h))) 206 (6 * ((yMk5 q (yM h)) 37 0).toNat) (ySmCA (yMk5 q (yM h)))) 37 0) (Eq.trans (zs_na (by decide) : (zs ((yMk5 q (yM h))) 206 (6 * ((yMk5 q (yM h)) 37 0).toNat) (ySmCA (yMk5 q (yM h)))) 37 0 = ((yMk5 q (yM h))) 37 0) rfl)))))))
                      refine zwW_p [(0, 1, 0)] (q := 184) (ls' := [(2, 37), (0, lL13)]) (st' := [(0, 1), (0, v25), (2, 37)]) (by decide +kernel) rfl ?_
                      refine zwW_add (nx := 185) (by decide +kernel) (by first | omega | exact ⟨by omega, by omega⟩) ?_
                      refine zwW_ps Ih24 (kd := 13) (bn := 0) (n := 97) (lo := 0) (hi := 156) (nx := 188) (by decide +kernel) (by first | omega | exact ⟨by omega, by omega⟩) ?_
                      intro h26 eh26 Ih26
                      have th26_37_0 : fld h26 37 0 = (v25 + 1) := by rw [eh26]; exact fld_wr_eq (Ih24.s (a1 := 37) (a2 := 37) (k := 13) (n := 97) (by decide +kernel) (by decide) (by decide)) (by decide)
                      have th26_37_2 : fld h26 37 2 = fld h24 37 2 := by rw [eh26]; exact fld_wr (by decide)
                      have Zh26 : yM h26 = (zs (zs (zs (zs (zs (zs ((yMk5 q (yM h))) 206 (6 * ((yMk5 q (yM h)) 37 0).toNat) (ySmCA (yMk5 q (yM h)))) 206 (6 * ((yMk5 q (yM h)) 37 0).toNat + 2) (ySmL (yMk5 q (yM h)) (lL13).toNat)) 206 (6 * v16.toNat + 3) (((yMk5 q (yM h))) 37 69)) 206 (6 * v19.toNat + 4) (((yMk5 q (yM h))) 37 70)) 206 (6 * v22.toNat + 5) (((yMk5 q (yM h))) 37 71)) 37 0 ((((yMk5 q (yM h))) 37 0) + 1)) := by rw [yM_ws (i := 0) (kd := 13) (n := 97) rfl (Ih24.s (a1 := 37) (a2 := 37) (by decide +kernel) (by decide) (by decide)) (by decide) eh26, Zh24, sv25]
                      have Rh26 : zMR ms114 h h26 := Rh24.w (a1 := 37) (a2 := 37) (j1 := 0) (j2 := 1) (by decide +kernel) (by first | decide | exact ⟨by decide, by decide⟩) (by first | decide | exact ⟨by decide, by decide⟩) eh26
                      refine zwW_p [(0, 0, 0)] (q := 189) (ls' := [(2, 37), (0, lL13)]) (st' := [(0, 0)]) (by decide +kernel) rfl ?_
                      have E189 : (zs (zs (zs (zs (zs (zs ((yMk5 q (yM h))) 206 (6 * ((yMk5 q (yM h)) 37 0).toNat) (ySmCA (yMk5 q (yM h)))) 206 (6 * ((yMk5 q (yM h)) 37 0).toNat + 2) (ySmL (yMk5 q (yM h)) (lL13).toNat)) 206 (6 * v16.toNat + 3) (((yMk5 q (yM h))) 37 69)) 206 (6 * v19.toNat + 4) (((yMk5 q (yM h))) 37 70)) 206 (6 * v22.toNat + 5) (((yMk5 q (yM h))) 37 71)) 37 0 ((((yMk5 q (yM h))) 37 0) + 1)) = (zs (yMk6 (yMk5 q (yM h))) 37 0 ((yMk5 q (yM h)) 37 0 + 1)) := by
                        unfold yMk6
                        rw [show (lL13).toNat = ((yMk5 q (yM h)) 37 64).toNat by omega]
                        exact zs_cg (zs_cg (zs_cg (zs_cg rfl (by omega) rfl) (by omega) rfl) (by omega) rfl) rfl (by omega)
                      refine zwW_p [(2, 1, 0)] (q := 190) (ls' := [(2, 37), (0, 0)]) (st' := []) (by decide +kernel) rfl ?_
                      have L27 : ∀ (n0 : Nat) (vL27 : Int) (hL27 : Hp), n0 = ((100 - vL27)).toNat → ((0 ≤ vL27 ∧ vL27 ≤ (yMk5 q (yM h)) 37 1) ∧ fld hL27 37 0 = fld h 37 0 + 1) → (yM hL27 = (yBg1 (zs (yMk6 (yMk5 q (yM h))) 37 0 ((yMk5 q (yM h)) 37 0 + 1)) ((zs (yMk6 (yMk5 q (yM h))) 37 0 ((yMk5 q (yM h)) 37 0 + 1)) 37 0).toNat (vL27).toNat)) → zI hL27 → zMR ms114 h hL27 → zwW sc (7) 114 190 [(2, 37), (0, vL27)] [] hL27 (zwRv (fun g => zI g ∧ zMR ms114 h g ∧ (fld g 37 0 = fld h 37 0 + 1) ∧ (yM g = yWkM q (yM h)))) := by
                        intro n0
                        induction n0 using Nat.strongRecOn with
                        | ind n0 IHL27 =>
                          intro vL27 hL27 hnL27 iL27_0 iL27_1 IhL27 RhL27
                          refine zwW_p [(1, 1, 0), (1, 0, 2)] (q := 192) (ls' := [(2, 37), (0, vL27)]) (st' := [(2, 37), (0, vL27)]) (by decide +kernel) rfl ?_
                          have N192 : (yBg1 (zs (yMk6 (yMk5 q (yM h))) 37 0 ((yMk5 q (yM h)) 37 0 + 1)) ((zs (yMk6 (yMk5 q (yM h))) 37 0 ((yMk5 q (yM h)) 37 0 + 1)) 37 0).toNat (vL27).toNat) 37 1 = (yMk5 q (yM h)) 37 1 := (yBg1_n (by decide) _).trans ((zs_ni (by decide)).trans (yMk6_n (by decide)))
                          have O192 : (yBg1 (zs (yMk6 (yMk5 q (yM h))) 37 0 ((yMk5 q (yM h)) 37 0 + 1)) ((zs (yMk6 (yMk5 q (yM h))) 37 0 ((yMk5 q (yM h)) 37 0 + 1)) 37 0).toNat (vL27).toNat) 37 0 = (zs (yMk6 (yMk5 q (yM h))) 37 0 ((yMk5 q (yM h)) 37 0 + 1)) 37 0 := yBg1_n (by decide) _
                          refine zwW_gs IhL27 (kd := 13) (bn := 1) (n := 97) (t := 0) (lo := 0) (hi := 8) (nx := 195) (by decide +kernel) ?_
                          intro v28 ev28 lv28 uv28
                          have sv28 : v28 = (yBg1 (zs (yMk6 (yMk5 q (yM h))) 37 0 ((yMk5 q (yM h)) 37 0 + 1)) ((zs (yMk6 (yMk5 q (yM h))) 37 0 ((yMk5 q (yM h)) 37 0 + 1)) 37 0).toNat (vL27).toNat) 37 1 := Eq.trans ev28 (Eq.trans (Eq.symm (yM_s (h := hL27) (i := 1) rfl)) (Eq.trans (congrFun (congrFun iL27_1 37) 1) rfl))
                          refine zwic_ge (q := 221) (nx := 198) (by decide +kernel) (fun c29 => ?_) (fun c29 => ?_)
                          · refine zwW_p [(0, 0, 0), (2, 1, 0)] (q := 223) (ls' := [(2, 37), (0, 0)]) (st' := []) (by decide +kernel) rfl ?_
                            have L30 : ∀ (n0 : Nat) (kL30 : Int) (hL30 : Hp), n0 = ((100 - kL30)).toNat → ((0 ≤ kL30 ∧ kL30 ≤ (yMk5 q (yM h)) 37 2) ∧ fld hL30 37 0 = fld h 37 0 + 1) → (yM hL30 = (yBg2 (yBg1 (zs (yMk6 (yMk5 q (yM h))) 37 0 ((yMk5 q (yM h)) 37 0 + 1)) ((zs (yMk6 (yMk5 q (yM h))) 37 0 ((yMk5 q (yM h)) 37 0 + 1)) 37 0).toNat ((zs (yMk6 (yMk5 q (yM h))) 37 0 ((yMk5 q (yM h)) 37 0 + 1)) 37 1).toNat) (kL30).toNat)) → zI hL30 → zMR ms114 h hL30 → zwW sc (7) 114 223 [(2, 37), (0, kL30)] [] hL30 (zwRv (fun g => zI g ∧ zMR ms114 h g ∧ (fld g 37 0 = fld h 37 0 + 1) ∧ (yM g = yWkM q (yM h)))) := by
                              intro n0
                              induction n0 using Nat.strongRecOn with
                              | ind n0 IHL30 =>
                                intro kL30 hL30 hnL30 iL30_0 iL30_1 IhL30 RhL30
                                refine zwW_p [(1, 1, 0), (1, 0, 2)] (q := 225) (ls' := [(2, 37), (0, kL30)]) (st' := [(2, 37), (0, kL30)]) (by decide +kernel) rfl ?_
                                have N225 : (yBg2 (yBg1 (zs (yMk6 (yMk5 q (yM h))) 37 0 ((yMk5 q (yM h)) 37 0 + 1)) ((zs (yMk6 (yMk5 q (yM h))) 37 0 ((yMk5 q (yM h)) 37 0 + 1)) 37 0).toNat ((zs (yMk6 (yMk5 q (yM h))) 37 0 ((yMk5 q (yM h)) 37 0 + 1)) 37 1).toNat) (kL30).toNat) 37 2 = (yMk5 q (yM h)) 37 2 := (yBg2_n (by decide) _).trans ((yBg1_n (by decide) _).trans ((zs_ni (by decide)).trans (yMk6_n (by decide))))
                                refine zwW_gs IhL30 (kd := 13) (bn := 2) (n := 97) (t := 0) (lo := 0) (hi := 20) (nx := 228) (by decide +kernel) ?_
                                intro v31 ev31 lv31 uv31
                                have sv31 : v31 = (yBg2 (yBg1 (zs (yMk6 (yMk5 q (yM h))) 37 0 ((yMk5 q (yM h)) 37 0 + 1)) ((zs (yMk6 (yMk5 q (yM h))) 37 0 ((yMk5 q (yM h)) 37 0 + 1)) 37 0).toNat ((zs (yMk6 (yMk5 q (yM h))) 37 0 ((yMk5 q (yM h)) 37 0 + 1)) 37 1).toNat) (kL30).toNat) 37 2 := Eq.trans ev31 (Eq.trans (Eq.symm (yM_s (h := hL30) (i := 2) rfl)) (Eq.trans (congrFun (congrFun iL30_1 37) 2) rfl))
                                refine zwic_ge (q := 244) (nx := 231) (by decide +kernel) (fun c32 => ?_) (fun c32 => ?_)
                                · refine zwW_retv (nx := 245) (a := 0) (b := 0) (by decide +kernel) ?_
                                  exact ⟨IhL30, RhL30, by omega, by refine Eq.trans iL30_1 ?_; unfold yWkM yBgA; rw [show ((zs (yMk6 (yMk5 q (yM h))) 37 0 ((yMk5 q (yM h)) 37 0 + 1)) 37 2).toNat = (kL30).toNat by rw [zs_ni (by decide), yMk6_n (by decide)]; omega]⟩
                                · refine zwW_p [(1, 0, 2)] (q := 232) (ls' := [(2, 37), (0, kL30)]) (st' := [(2, 37)]) (by decide +kernel) rfl ?_
                                  refine zwW_gc IhL30 (kd := 13) (bn := 33) (n := 97) (c := 92) (nx := 235) (by decide +kernel) ?_
                                  refine zwW_p [(1, 1, 0), (0, 0, 0)] (q := 237) (ls' := [(2, 37), (0, kL30)]) (st' := [(0, 0), (0, kL30), (2, 92)]) (by decide +kernel) rfl ?_
                                  have ib1 : 0 ≤ kL30 ∧ kL30 < ((20 : Nat) : Int) := (by first | omega | exact ⟨by omega, by omega⟩)
                                  refine zwW_as IhL30 (a1 := 92) (a2 := 92) (n := 20) (lo := -2147483648) (hi := 2147483647) (nx := 238) (by decide +kernel) (by first | decide | exact ⟨by decide, by decide⟩) ib1 (by first | decide | exact ⟨by decide, by decide⟩) ?_
                                  intro h33 eh33 Ih33
                                  have jbh33 : 0 ≤ kL30.toNat ∧ kL30.toNat < 20 := ⟨Nat.zero_le _, zit ib1⟩
                                  have th33_37_0 : fld h33 37 0 = fld hL30 37 0 := by rw [eh33]; exact fld_wr (Or.inl (by decide))
                                  have th33_37_2 : fld h33 37 2 = fld hL30 37 2 := by rw [eh33]; exact fld_wr (Or.inl (by decide))
                                  have Zh33 : yM h33 = (zs (yBg2 (yBg1 (zs (yMk6 (yMk5 q (yM h))) 37 0 ((yMk5 q (yM h)) 37 0 + 1)) ((zs (yMk6 (yMk5 q (yM h))) 37 0 ((yMk5 q (yM h)) 37 0 + 1)) 37 0).toNat ((zs (yMk6 (yMk5 q (yM h))) 37 0 ((yMk5 q (yM h)) 37 0 + 1)) 37 1).toNat) (kL30).toNat) 92 kL30.toNat 0) := by rw [yM_w (a := 92) (n := 20) (i := kL30.toNat) (kd := 20) rfl (IhL30.s (a1 := 92) (a2 := 92) (by decide +kernel) (by decide) (by decide)) jbh33.2 eh33, iL30_1]
                                  have Rh33 : zMR ms114 h h33 := RhL30.w (a1 := 92) (a2 := 92) (j1 := 0) (j2 := 20) (by decide +kernel) (by first | decide | exact ⟨by decide, by decide⟩) jbh33 eh33
                                  refine zwW_inc (i := 1) (c := 1) (x := kL30) (nx := 241) (by decide +kernel) rfl (by first | omega | exact ⟨by omega, by omega⟩) (ls' := [(2, 37), (0, (kL30 + 1))]) rfl ?_
                                  refine zwW_p [(24, 223, 0)] (q := 223) (ls' := [(2, 37), (0, (kL30 + 1))]) (st' := []) (by decide +kernel) rfl ?_
                                  exact IHL30 ((100 - (kL30 + 1))).toNat (by omega) (kL30 + 1) h33 rfl (by omega) (by rw [show (kL30 + 1).toNat = (kL30).toNat + 1 by omega, yBg2_s]; exact Zh33) Ih33 Rh33
                            exact L30 _ 0 hL27 rfl (by omega) (iL27_1.trans (by rw [show ((zs (yMk6 (yMk5 q (yM h))) 37 0 ((yMk5 q (yM h)) 37 0 + 1)) 37 1).toNat = (vL27).toNat by rw [zs_ni (by decide), yMk6_n (by decide)]; omega]; rfl)) IhL27 RhL27
                          · refine zwW_p [(1, 0, 2)] (q := 199) (ls' := [(2, 37), (0, vL27)]) (st' := [(2, 37)]) (by decide +kernel) rfl ?_
                            refine zwW_gc IhL27 (kd := 13) (bn := 5) (n := 97) (c := 56) (nx := 202) (by decide +kernel) ?_
                            refine zwW_p [(1, 1, 0)] (q := 203) (ls' := [(2, 37), (0, vL27)]) (st' := [(0, vL27), (2, 56)]) (by decide +kernel) rfl ?_
                            refine zwW_ro IhL27 (a := 56) (n := 8) (kd := 26) (base := 57) (step := 1) (nx := 204) (by decide +kernel) rfl (by first | omega | exact ⟨by omega, by omega⟩) ?_
                            rw [show ((57 : Nat) : Int) + ((1 : Nat) : Int) * vL27 = (57 + vL27) by omega]
                            refine zwW_p [(1, 0, 2)] (q := 205) (ls' := [(2, 37), (0, vL27)]) (st' := [(2, 37), (2, (57 + vL27))]) (by decide +kernel) rfl ?_
                            refine zwW_gs IhL27 (kd := 13) (bn := 0) (n := 97) (t := 0) (lo := 0) (hi := 156) (nx := 208) (by decide +kernel) ?_
                            intro v34 ev34 lv34 uv34
                            have sv34 : v34 = (yBg1 (zs (yMk6 (yMk5 q (yM h))) 37 0 ((yMk5 q (yM h)) 37 0 + 1)) ((zs (yMk6 (yMk5 q (yM h))) 37 0 ((yMk5 q (yM h)) 37 0 + 1)) 37 0).toNat (vL27).toNat) 37 0 := Eq.trans ev34 (Eq.trans (Eq.symm (yM_s (h := hL27) (i := 0) rfl)) (Eq.trans (congrFun (congrFun iL27_1 37) 0) rfl))
                            refine zwW_p [(1, 0, 2)] (q := 209) (ls' := [(2, 37), (0, vL27)]) (st' := [(2, 37), (0, v34), (2, (57 + vL27))]) (by decide +kernel) rfl ?_
                            refine zwW_gc IhL27 (kd := 13) (bn := 12) (n := 97) (c := 71) (nx := 212) (by decide +kernel) ?_
                            refine zwW_p [(1, 1, 0)] (q := 213) (ls' := [(2, 37), (0, vL27)]) (st' := [(0, vL27), (2, 71), (0, v34), (2, (57 + vL27))]) (by decide +kernel) rfl ?_
                            have ib2 : 0 ≤ vL27 ∧ vL27 < ((8 : Nat) : Int) := (by first | omega | exact ⟨by omega, by omega⟩)
                            refine zwW_al IhL27 (a1 := 71) (a2 := 71) (kd := 20) (n := 8) (t := 0) (lo := -2147483648) (hi := 2147483647) (nx := 214) (by decide +kernel) (by first | decide | exact ⟨by decide, by decide⟩) ib2 ?_
                            intro v35 ev35 lv35 uv35
                            have sv35 : v35 = (yBg1 (zs (yMk6 (yMk5 q (yM h))) 37 0 ((yMk5 q (yM h)) 37 0 + 1)) ((zs (yMk6 (yMk5 q (yM h))) 37 0 ((yMk5 q (yM h)) 37 0 + 1)) 37 0).toNat (vL27).toNat) 71 vL27.toNat := Eq.trans ev35 (Eq.trans (Eq.symm (yM_p (h := hL27) (a := 71) (n := 8) (i := vL27.toNat) rfl (zit ib2))) (Eq.trans (congrFun (congrFun iL27_1 71) vL27.toNat) rfl))
                            have ib3 : 0 ≤ v34 ∧ v34 < ((157 : Nat) : Int) := (by first | omega | exact ⟨by omega, by omega⟩)
                            refine zwW_as IhL27 (a1 := 57) (a2 := 64) (n := 157) (lo := -2147483648) (hi := 2147483647) (nx := 215) (by decide +kernel) (by first | omega | exact ⟨by omega, by omega⟩) ib3 (by first | omega | exact ⟨by omega, by omega⟩) ?_
                            intro h36 eh36 Ih36
                            have rbh36 : ((57 : Nat) : Int) ≤ (57 + vL27) ∧ (57 + vL27) ≤ ((64 : Nat) : Int) := (by first | omega | exact ⟨by omega, by omega⟩)
                            have jbh36 : 0 ≤ v34.toNat ∧ v34.toNat < 157 := ⟨Nat.zero_le _, zit ib3⟩
                            have th36_37_0 : fld h36 37 0 = fld hL27 37 0 := by rw [eh36]; exact fld_wr (Or.inl (zne_l (by decide) rbh36.1))
                            have th36_37_2 : fld h36 37 2 = fld hL27 37 2 := by rw [eh36]; exact fld_wr (Or.inl (zne_l (by decide) rbh36.1))
                            have Zh36 : yM h36 = (zs (yBg1 (zs (yMk6 (yMk5 q (yM h))) 37 0 ((yMk5 q (yM h)) 37 0 + 1)) ((zs (yMk6 (yMk5 q (yM h))) 37 0 ((yMk5 q (yM h)) 37 0 + 1)) 37 0).toNat (vL27).toNat) 57 (157 * vL27.toNat + v34.toNat) ((yBg1 (zs (yMk6 (yMk5 q (yM h))) 37 0 ((yMk5 q (yM h)) 37 0 + 1)) ((zs (yMk6 (yMk5 q (yM h))) 37 0 ((yMk5 q (yM h)) 37 0 + 1)) 37 0).toNat (vL27).toNat) 71 vL27.toNat)) := by rw [yM_w2 (a := 57) (w := 157) (v := vL27.toNat) (j := v34.toNat) (m := 157) (kd := 20) rfl (by omega) (IhL27.s (a1 := 57) (a2 := 64) (by decide +kernel) (by omega) (by omega)) (by omega) (by omega) (by show _ < 1256; omega) eh36, iL27_1, sv35, sv34]
                            have Rh36 : zMR ms114 h h36 := RhL27.w (a1 := 57) (a2 := 64) (j1 := 0) (j2 := 157) (by decide +kernel) rbh36 jbh36 eh36
                            refine zwW_inc (i := 1) (c := 1) (x := vL27) (nx := 218) (by decide +kernel) rfl (by first | omega | exact ⟨by omega, by omega⟩) (ls' := [(2, 37), (0, (vL27 + 1))]) rfl ?_
                            refine zwW_p [(24, 190, 0)] (q := 190) (ls' := [(2, 37), (0, (vL27 + 1))]) (st' := []) (by decide +kernel) rfl ?_
                            exact IHL27 ((100 - (vL27 + 1))).toNat (by omega) (vL27 + 1) h36 rfl (by omega) (by rw [show (vL27 + 1).toNat = (vL27).toNat + 1 by omega, yBg1_s]; exact Zh36.trans (zs_cg rfl (by omega) rfl)) Ih36 Rh36
                      exact L27 _ 0 h26 rfl (by omega) (Zh26.trans E189) Ih26 Rh26
                    · refine zwW_p [(1, 0, 2)] (q := 108) (ls' := [(2, 37), (0, lL13)]) (st' := [(2, 37)]) (by decide +kernel) rfl ?_
                      refine zwW_gc IhL13 (kd := 13) (bn := 91) (n := 97) (c := 205) (nx := 111) (by decide +kernel) ?_
                      refine zwW_p [(1, 0, 2)] (q := 112) (ls' := [(2, 37), (0, lL13)]) (st' := [(2, 37), (2, 205)]) (by decide +kernel) rfl ?_
                      refine zwW_gs IhL13 (kd := 13) (bn := 0) (n := 97) (t := 0) (lo := 0) (hi := 156) (nx := 115) (by decide +kernel) ?_
                      intro v37 ev37 lv37 uv37
                      have sv37 : v37 = ((yMk5 q (yM h))) 37 0 := Eq.trans ev37 (Eq.trans (Eq.symm (yM_s (h := hL13) (i := 0) rfl)) (Eq.trans (congrFun (congrFun (iL13_1) 37) 0) (Eq.trans (zs_na (by decide) : (zs (zs ((yMk5 q (yM h))) 206 (6 * ((yMk5 q (yM h)) 37 0).toNat) (ySmCA (yMk5 q (yM h)))) 206 (6 * ((yMk5 q (yM h)) 37 0).toNat + 2) (ySmL (yMk5 q (yM h)) (lL13).toNat)) 37 0 = (zs ((yMk5 q (yM h))) 206 (6 * ((yMk5 q (yM h)) 37 0).toNat) (ySmCA (yMk5 q (yM h)))) 37 0) (Eq.trans (zs_na (by decide) : (zs ((yMk5 q (yM h))) 206 (6 * ((yMk5 q (yM h)) 37 0).toNat) (ySmCA (yMk5 q (yM h)))) 37 0 = ((yMk5 q (yM h))) 37 0) rfl))))
                      refine zwW_ro IhL13 (a := 205) (n := 156) (kd := 26) (base := 206) (step := 1) (nx := 116) (by decide +kernel) rfl (by first | omega | exact ⟨by omega, by omega⟩) ?_
                      rw [show ((206 : Nat) : Int) + ((1 : Nat) : Int) * v37 = (206 + v37) by omega]
                      refine zwW_p [(0, 2, 0), (14, 0, 0)] (q := 118) (ls' := [(2, 37), (0, lL13)]) (st' := [(0, 2), (2, (206 + v37)), (0, 2), (2, (206 + v37))]) (by decide +kernel) rfl ?_
                      refine zwW_al IhL13 (a1 := 206) (a2 := 361) (kd := 20) (n := 6) (t := 0) (lo := -2147483648) (hi := 2147483647) (nx := 119) (by decide +kernel) (by first | omega | exact ⟨by omega, by omega⟩) (by first | decide | exact ⟨by decide, by decide⟩) ?_
                      intro v38 ev38 lv38 uv38
                      have sv38 : v38 = (zs (zs ((yMk5 q (yM h))) 206 (6 * ((yMk5 q (yM h)) 37 0).toNat) (ySmCA (yMk5 q (yM h)))) 206 (6 * ((yMk5 q (yM h)) 37 0).toNat + 2) (ySmL (yMk5 q (yM h)) (lL13).toNat)) 206 (6 * v37.toNat + 2) := Eq.trans (show v38 = yM hL13 206 (6 * v37.toNat + 2) by rw [yM_2 (a := 206) (w := 6) (v := v37.toNat) (j := 2) rfl (by omega) (by show _ < 936; omega), ev38]; congr 1; omega) (Eq.trans (congrFun (congrFun (iL13_1) 206) (6 * v37.toNat + 2)) rfl)
                      refine zwW_p [(1, 0, 2)] (q := 120) (ls' := [(2, 37), (0, lL13)]) (st' := [(2, 37), (0, v38), (0, 2), (2, (206 + v37))]) (by decide +kernel) rfl ?_
                      refine zwW_gc IhL13 (kd := 13) (bn := 63) (n := 97) (c := 175) (nx := 123) (by decide +kernel) ?_
                      refine zwW_p [(1, 1, 0)] (q := 124) (ls' := [(2, 37), (0, lL13)]) (st' := [(0, lL13), (2, 175), (0, v38), (0, 2), (2, (206 + v37))]) (by decide +kernel) rfl ?_
                      have ib4 : 0 ≤ lL13 ∧ lL13 < ((300 : Nat) : Int) := (by first | omega | exact ⟨by omega, by omega⟩)
                      refine zwW_al IhL13 (a1 := 175) (a2 := 175) (kd := 20) (n := 300) (t := 0) (lo := -2147483648) (hi := 2147483647) (nx := 125) (by decide +kernel) (by first | decide | exact ⟨by decide, by decide⟩) ib4 ?_
                      intro v39 ev39 lv39 uv39
                      have sv39 : v39 = ((yMk5 q (yM h))) 175 lL13.toNat := Eq.trans ev39 (Eq.trans (Eq.symm (yM_p (h := hL13) (a := 175) (n := 300) (i := lL13.toNat) rfl (zit ib4))) (Eq.trans (congrFun (congrFun (iL13_1) 175) lL13.toNat) (Eq.trans (zs_na (by decide) : (zs (zs ((yMk5 q (yM h))) 206 (6 * ((yMk5 q (yM h)) 37 0).toNat) (ySmCA (yMk5 q (yM h)))) 206 (6 * ((yMk5 q (yM h)) 37 0).toNat + 2) (ySmL (yMk5 q (yM h)) (lL13).toNat)) 175 lL13.toNat = (zs ((yMk5 q (yM h))) 206 (6 * ((yMk5 q (yM h)) 37 0).toNat) (ySmCA (yMk5 q (yM h)))) 175 lL13.toNat) (Eq.trans (zs_na (by decide) : (zs ((yMk5 q (yM h))) 206 (6 * ((yMk5 q (yM h)) 37 0).toNat) (ySmCA (yMk5 q (yM h)))) 175 lL13.toNat = ((yMk5 q (yM h))) 175 lL13.toNat) rfl))))
                      refine zwW_adw (nx := 126) (by decide +kernel) ?_
                      intro v40 ev40 lv40 uv40
                      have Ev40 : v40 = w32 (((zs (zs ((yMk5 q (yM h))) 206 (6 * ((yMk5 q (yM h)) 37 0).toNat) (ySmCA (yMk5 q (yM h)))) 206 (6 * ((yMk5 q (yM h)) 37 0).toNat + 2) (ySmL (yMk5 q (yM h)) (lL13).toNat)) 206 (6 * v37.toNat + 2)) + (((yMk5 q (yM h))) 175 lL13.toNat)) := by rw [ev40, sv38, sv39]
                      refine zwW_as IhL13 (a1 := 206) (a2 := 361) (n := 6) (lo := -2147483648) (hi := 2147483647) (nx := 127) (by decide +kernel) (by first | omega | exact ⟨by omega, by omega⟩) (by first | decide | exact ⟨by decide, by decide⟩) (by first | omega | exact ⟨by omega, by omega⟩) ?_
                      intro h41 eh41 Ih41
                      have rbh41 : ((206 : Nat) : Int) ≤ (206 + v37) ∧ (206 + v37) ≤ ((361 : Nat) : Int) := (by first | omega | exact ⟨by omega, by omega⟩)
                      have th41_37_0 : fld h41 37 0 = fld hL13 37 0 := by rw [eh41]; exact fld_wr (Or.inl (zne_l (by decide) rbh41.1))
                      have th41_37_2 : fld h41 37 2 = fld hL13 37 2 := by rw [eh41]; exact fld_wr (Or.inl (zne_l (by decide) rbh41.1))
                      have Zh41 : yM h41 = (zs (zs (zs ((yMk5 q (yM h))) 206 (6 * ((yMk5 q (yM h)) 37 0).toNat) (ySmCA (yMk5 q (yM h)))) 206 (6 * ((yMk5 q (yM h)) 37 0).toNat + 2) (ySmL (yMk5 q (yM h)) (lL13).toNat)) 206 (6 * v37.toNat + 2) (w32 (((zs (zs ((yMk5 q (yM h))) 206 (6 * ((yMk5 q (yM h)) 37 0).toNat) (ySmCA (yMk5 q (yM h)))) 206 (6 * ((yMk5 q (yM h)) 37 0).toNat + 2) (ySmL (yMk5 q (yM h)) (lL13).toNat)) 206 (6 * v37.toNat + 2)) + (((yMk5 q (yM h))) 175 lL13.toNat)))) := by rw [yM_w2 (a := 206) (w := 6) (v := v37.toNat) (j := 2) (m := 6) (kd := 20) rfl (by omega) (IhL13.s (a1 := 206) (a2 := 361) (by decide +kernel) (by omega) (by omega)) (by omega) (by omega) (by show _ < 936; omega) eh41, (iL13_1), Ev40]
                      have Rh41 : zMR ms114 h h41 := RhL13.w (a1 := 206) (a2 := 361) (j1 := 0) (j2 := 6) (by decide +kernel) rbh41 (by first | decide | exact ⟨by decide, by decide⟩) eh41
                      refine zwW_inc (i := 1) (c := 1) (x := lL13) (nx := 130) (by decide +kernel) rfl (by first | omega | exact ⟨by omega, by omega⟩) (ls' := [(2, 37), (0, (lL13 + 1))]) rfl ?_
                      refine zwW_p [(24, 99, 0)] (q := 99) (ls' := [(2, 37), (0, (lL13 + 1))]) (st' := []) (by decide +kernel) rfl ?_
                      exact IHL13 ((1000 - (lL13 + 1))).toNat (by omega) (lL13 + 1) h41 rfl (by omega) (Zh41.trans (zs_acc (by omega) (by rw [show (lL13 + 1).toNat = (lL13).toNat + 1 by omega]; exact ySmL_s))) Ih41 Rh41
                exact L13 _ 0 hL10 rfl (by omega) ((iL10_1).trans (by rw [show (vL10).toNat = ((yMk5 q (yM h)) 37 1).toNat by omega]; exact (zs_self ((zs_ni (by omega)).trans (yMk5_z ZR (Or.inr (by rw [M0]))))).symm)) IhL10 RhL10
              · refine zwW_p [(1, 0, 2)] (q := 72) (ls' := [(2, 37), (0, vL10)]) (st' := [(2, 37)]) (by decide +kernel) rfl ?_
                refine zwW_gc IhL10 (kd := 13) (bn := 91) (n := 97) (c := 205) (nx := 75) (by decide +kernel) ?_
                refine zwW_p [(1, 0, 2)] (q := 76) (ls' := [(2, 37), (0, vL10)]) (st' := [(2, 37), (2, 205)]) (by decide +kernel) rfl ?_
                refine zwW_gs IhL10 (kd := 13) (bn := 0) (n := 97) (t := 0) (lo := 0) (hi := 156) (nx := 79) (by decide +kernel) ?_
                intro v42 ev42 lv42 uv42
                have sv42 : v42 = ((yMk5 q (yM h))) 37 0 := Eq.trans ev42 (Eq.trans (Eq.symm (yM_s (h := hL10) (i := 0) rfl)) (Eq.trans (congrFun (congrFun (iL10_1) 37) 0) (Eq.trans (zs_na (by decide) : (zs ((yMk5 q (yM h))) 206 (6 * ((yMk5 q (yM h)) 37 0).toNat) (ySmC (yMk5 q (yM h)) (vL10).toNat)) 37 0 = ((yMk5 q (yM h))) 37 0) rfl)))
                refine zwW_ro IhL10 (a := 205) (n := 156) (kd := 26) (base := 206) (step := 1) (nx := 80) (by decide +kernel) rfl (by first | omega | exact ⟨by omega, by omega⟩) ?_
                rw [show ((206 : Nat) : Int) + ((1 : Nat) : Int) * v42 = (206 + v42) by omega]
                refine zwW_p [(0, 0, 0), (14, 0, 0)] (q := 82) (ls' := [(2, 37), (0, vL10)]) (st' := [(0, 0), (2, (206 + v42)), (0, 0), (2, (206 + v42))]) (by decide +kernel) rfl ?_
                refine zwW_al IhL10 (a1 := 206) (a2 := 361) (kd := 20) (n := 6) (t := 0) (lo := -2147483648) (hi := 2147483647) (nx := 83) (by decide +kernel) (by first | omega | exact ⟨by omega, by omega⟩) (by first | decide | exact ⟨by decide, by decide⟩) ?_
                intro v43 ev43 lv43 uv43
                have sv43 : v43 = (zs ((yMk5 q (yM h))) 206 (6 * ((yMk5 q (yM h)) 37 0).toNat) (ySmC (yMk5 q (yM h)) (vL10).toNat)) 206 (6 * v42.toNat + 0) := Eq.trans (show v43 = yM hL10 206 (6 * v42.toNat + 0) by rw [yM_2 (a := 206) (w := 6) (v := v42.toNat) (j := 0) rfl (by omega) (by show _ < 936; omega), ev43]; congr 1; omega) (Eq.trans (congrFun (congrFun (iL10_1) 206) (6 * v42.toNat + 0)) rfl)
                refine zwW_p [(1, 0, 2)] (q := 84) (ls' := [(2, 37), (0, vL10)]) (st' := [(2, 37), (0, v43), (0, 0), (2, (206 + v42))]) (by decide +kernel) rfl ?_
                refine zwW_gc IhL10 (kd := 13) (bn := 7) (n := 97) (c := 66) (nx := 87) (by decide +kernel) ?_
                refine zwW_p [(1, 1, 0)] (q := 88) (ls' := [(2, 37), (0, vL10)]) (st' := [(0, vL10), (2, 66), (0, v43), (0, 0), (2, (206 + v42))]) (by decide +kernel) rfl ?_
                have ib5 : 0 ≤ vL10 ∧ vL10 < ((8 : Nat) : Int) := (by first | omega | exact ⟨by omega, by omega⟩)
                refine zwW_al IhL10 (a1 := 66) (a2 := 66) (kd := 20) (n := 8) (t := 0) (lo := -2147483648) (hi := 2147483647) (nx := 89) (by decide +kernel) (by first | decide | exact ⟨by decide, by decide⟩) ib5 ?_
                intro v44 ev44 lv44 uv44
                have sv44 : v44 = ((yMk5 q (yM h))) 66 vL10.toNat := Eq.trans ev44 (Eq.trans (Eq.symm (yM_p (h := hL10) (a := 66) (n := 8) (i := vL10.toNat) rfl (zit ib5))) (Eq.trans (congrFun (congrFun (iL10_1) 66) vL10.toNat) (Eq.trans (zs_na (by decide) : (zs ((yMk5 q (yM h))) 206 (6 * ((yMk5 q (yM h)) 37 0).toNat) (ySmC (yMk5 q (yM h)) (vL10).toNat)) 66 vL10.toNat = ((yMk5 q (yM h))) 66 vL10.toNat) rfl)))
                refine zwW_adw (nx := 90) (by decide +kernel) ?_
                intro v45 ev45 lv45 uv45
                have Ev45 : v45 = w32 (((zs ((yMk5 q (yM h))) 206 (6 * ((yMk5 q (yM h)) 37 0).toNat) (ySmC (yMk5 q (yM h)) (vL10).toNat)) 206 (6 * v42.toNat + 0)) + (((yMk5 q (yM h))) 66 vL10.toNat)) := by rw [ev45, sv43, sv44]
                refine zwW_as IhL10 (a1 := 206) (a2 := 361) (n := 6) (lo := -2147483648) (hi := 2147483647) (nx := 91) (by decide +kernel) (by first | omega | exact ⟨by omega, by omega⟩) (by first | decide | exact ⟨by decide, by decide⟩) (by first | omega | exact ⟨by omega, by omega⟩) ?_
                intro h46 eh46 Ih46
                have rbh46 : ((206 : Nat) : Int) ≤ (206 + v42) ∧ (206 + v42) ≤ ((361 : Nat) : Int) := (by first | omega | exact ⟨by omega, by omega⟩)
                have th46_37_0 : fld h46 37 0 = fld hL10 37 0 := by rw [eh46]; exact fld_wr (Or.inl (zne_l (by decide) rbh46.1))
                have th46_37_2 : fld h46 37 2 = fld hL10 37 2 := by rw [eh46]; exact fld_wr (Or.inl (zne_l (by decide) rbh46.1))
                have Zh46 : yM h46 = (zs (zs ((yMk5 q (yM h))) 206 (6 * ((yMk5 q (yM h)) 37 0).toNat) (ySmC (yMk5 q (yM h)) (vL10).toNat)) 206 (6 * v42.toNat + 0) (w32 (((zs ((yMk5 q (yM h))) 206 (6 * ((yMk5 q (yM h)) 37 0).toNat) (ySmC (yMk5 q (yM h)) (vL10).toNat)) 206 (6 * v42.toNat + 0)) + (((yMk5 q (yM h))) 66 vL10.toNat)))) := by rw [yM_w2 (a := 206) (w := 6) (v := v42.toNat) (j := 0) (m := 6) (kd := 20) rfl (by omega) (IhL10.s (a1 := 206) (a2 := 361) (by decide +kernel) (by omega) (by omega)) (by omega) (by omega) (by show _ < 936; omega) eh46, (iL10_1), Ev45]
                have Rh46 : zMR ms114 h h46 := RhL10.w (a1 := 206) (a2 := 361) (j1 := 0) (j2 := 6) (by decide +kernel) rbh46 (by first | decide | exact ⟨by decide, by decide⟩) eh46
                refine zwW_inc (i := 1) (c := 1) (x := vL10) (nx := 94) (by decide +kernel) rfl (by first | omega | exact ⟨by omega, by omega⟩) (ls' := [(2, 37), (0, (vL10 + 1))]) rfl ?_
                refine zwW_p [(24, 63, 0)] (q := 63) (ls' := [(2, 37), (0, (vL10 + 1))]) (st' := []) (by decide +kernel) rfl ?_
                exact IHL10 ((100 - (vL10 + 1))).toNat (by omega) (vL10 + 1) h46 rfl (by omega) (Zh46.trans (zs_acc (by omega) (by rw [show (vL10 + 1).toNat = (vL10).toNat + 1 by omega]; exact ySmC_s))) Ih46 Rh46
          exact L10 _ 0 h9 rfl (by omega) ((show yM h9 = (yMk5 q (yM h)) from Zh9).trans (zs_self (yMk5_z ZR (Or.inl (by rw [M0])))).symm) Ih9 Rh9
        · refine zwW_p [(1, 0, 2)] (q := 54) (ls' := [(2, 37), (0, kL3)]) (st' := [(2, 37)]) (by decide +kernel) rfl ?_
          refine zwW_cmv IhL3 (op := 60) (k' := 196) (n := 0) (kd := 13) (m := 97) (nx := 57) (r := 37) (tl := []) (st' := []) (by decide +kernel) rfl (by decide +kernel) rfl (m196_z hL3 IhL3 q iL3_0 (by rw [(iL3_2.trans E41)]; exact OK1.bya (q := q))) ?_
          rintro h48 ⟨Ih48, Qh48, f47⟩
          have Rh48 : zMR ms114 h h48 := RhL3.tr Qh48 (by decide +kernel)
          have Vh48 : mRq q h48 := iL3_0.fr Qh48 (by decide +kernel)
          have th48_37_0 : fld h48 37 0 = fld hL3 37 0 := Qh48.f (a1 := 37) (a2 := 37) (j1 := 0) (j2 := 1) (by decide +kernel) (by first | decide | exact ⟨by decide, by decide⟩) (by first | decide | exact ⟨by decide, by decide⟩)
          have th48_37_2 : fld h48 37 2 = fld hL3 37 2 := Qh48.f (a1 := 37) (a2 := 37) (j1 := 2) (j2 := 3) (by decide +kernel) (by first | decide | exact ⟨by decide, by decide⟩) (by first | decide | exact ⟨by decide, by decide⟩)
          have Zh48 : yM h48 = (ySea q (yByA q (yLyM (yM h)))) := by rw [f47, (iL3_2.trans E41)]
          have E57 : (ySea q (yByA q (yLyM (yM h)))) = (if yByA q (yLyM (yM h)) 37 0 % 13 = 12 then ySea q (yByA q (yLyM (yM h))) else yByA q (yLyM (yM h))) := by
            first
            | exact (if_neg (by omega)).symm
            | exact (if_pos (by omega)).symm
          refine zwW_p [(1, 0, 2)] (q := 58) (ls' := [(2, 37), (0, kL3)]) (st' := [(2, 37)]) (by decide +kernel) rfl ?_
          refine zwW_cmv Ih48 (op := 60) (k' := 197) (n := 0) (kd := 13) (m := 97) (nx := 61) (r := 37) (tl := []) (st' := []) (by decide +kernel) rfl (by decide +kernel) rfl (m197_z h48 Ih48) ?_
          rintro h50 ⟨Ih50, Qh50, f49⟩
          have Rh50 : zMR ms114 h h50 := Rh48.tr Qh50 (by decide +kernel)
          have Vh50 : mRq q h50 := Vh48.fr Qh50 (by decide +kernel)
          have th50_37_0 : fld h50 37 0 = fld h48 37 0 := Qh50.f (a1 := 37) (a2 := 37) (j1 := 0) (j2 := 1) (by decide +kernel) (by first | decide | exact ⟨by decide, by decide⟩) (by first | decide | exact ⟨by decide, by decide⟩)
          have th50_37_2 : fld h50 37 2 = fld h48 37 2 := Qh50.f (a1 := 37) (a2 := 37) (j1 := 2) (j2 := 3) (by decide +kernel) (by first | decide | exact ⟨by decide, by decide⟩) (by first | decide | exact ⟨by decide, by decide⟩)
          have Zh50 : yM h50 = (yWrA (if yByA q (yLyM (yM h)) 37 0 % 13 = 12 then ySea q (yByA q (yLyM (yM h))) else yByA q (yLyM (yM h)))) := by rw [f49, (Zh48.trans E57)]
          refine zwW_p [(0, 0, 0)] (q := 62) (ls' := [(2, 37), (0, kL3)]) (st' := [(0, 0)]) (by decide +kernel) rfl ?_
          refine zwW_p [(2, 1, 0)] (q := 63) (ls' := [(2, 37), (0, 0)]) (st' := []) (by decide +kernel) rfl ?_
          have L51 : ∀ (n0 : Nat) (vL51 : Int) (hL51 : Hp), n0 = ((100 - vL51)).toNat → ((0 ≤ vL51 ∧ vL51 ≤ (yMk5 q (yM h)) 37 1) ∧ fld hL51 37 0 = fld h 37 0) → (yM hL51 = (zs (yMk5 q (yM h)) 206 (6 * ((yMk5 q (yM h)) 37 0).toNat) (ySmC (yMk5 q (yM h)) (vL51).toNat))) → zI hL51 → zMR ms114 h hL51 → zwW sc (7) 114 63 [(2, 37), (0, vL51)] [] hL51 (zwRv (fun g => zI g ∧ zMR ms114 h g ∧ (fld g 37 0 = fld h 37 0 + 1) ∧ (yM g = yWkM q (yM h)))) := by
            intro n0
            induction n0 using Nat.strongRecOn with
            | ind n0 IHL51 =>
              intro vL51 hL51 hnL51 iL51_0 iL51_1 IhL51 RhL51
              refine zwW_p [(1, 1, 0), (1, 0, 2)] (q := 65) (ls' := [(2, 37), (0, vL51)]) (st' := [(2, 37), (0, vL51)]) (by decide +kernel) rfl ?_
              refine zwW_gs IhL51 (kd := 13) (bn := 1) (n := 97) (t := 0) (lo := 0) (hi := 8) (nx := 68) (by decide +kernel) ?_
              intro v52 ev52 lv52 uv52
              have sv52 : v52 = ((yMk5 q (yM h))) 37 1 := Eq.trans ev52 (Eq.trans (Eq.symm (yM_s (h := hL51) (i := 1) rfl)) (Eq.trans (congrFun (congrFun (iL51_1) 37) 1) (Eq.trans (zs_na (by decide) : (zs ((yMk5 q (yM h))) 206 (6 * ((yMk5 q (yM h)) 37 0).toNat) (ySmC (yMk5 q (yM h)) (vL51).toNat)) 37 1 = ((yMk5 q (yM h))) 37 1) rfl)))
              refine zwic_ge (q := 97) (nx := 71) (by decide +kernel) (fun c53 => ?_) (fun c53 => ?_)
              · refine zwW_p [(0, 0, 0), (2, 1, 0)] (q := 99) (ls' := [(2, 37), (0, 0)]) (st' := []) (by decide +kernel) rfl ?_
                have L54 : ∀ (n0 : Nat) (lL54 : Int) (hL54 : Hp), n0 = ((1000 - lL54)).toNat → ((0 ≤ lL54 ∧ lL54 ≤ (yMk5 q (yM h)) 37 64) ∧ fld hL54 37 0 = fld h 37 0) → (yM hL54 = (zs (zs (yMk5 q (yM h)) 206 (6 * ((yMk5 q (yM h)) 37 0).toNat) (ySmCA (yMk5 q (yM h)))) 206 (6 * ((yMk5 q (yM h)) 37 0).toNat + 2) (ySmL (yMk5 q (yM h)) (lL54).toNat))) → zI hL54 → zMR ms114 h hL54 → zwW sc (7) 114 99 [(2, 37), (0, lL54)] [] hL54 (zwRv (fun g => zI g ∧ zMR ms114 h g ∧ (fld g 37 0 = fld h 37 0 + 1) ∧ (yM g = yWkM q (yM h)))) := by
                  intro n0
                  induction n0 using Nat.strongRecOn with
                  | ind n0 IHL54 =>
                    intro lL54 hL54 hnL54 iL54_0 iL54_1 IhL54 RhL54
                    refine zwW_p [(1, 1, 0), (1, 0, 2)] (q := 101) (ls' := [(2, 37), (0, lL54)]) (st' := [(2, 37), (0, lL54)]) (by decide +kernel) rfl ?_
                    refine zwW_gs IhL54 (kd := 13) (bn := 64) (n := 97) (t := 0) (lo := 0) (hi := 300) (nx := 104) (by decide +kernel) ?_
                    intro v55 ev55 lv55 uv55
                    have sv55 : v55 = ((yMk5 q (yM h))) 37 64 := Eq.trans ev55 (Eq.trans (Eq.symm (yM_s (h := hL54) (i := 64) rfl)) (Eq.trans (congrFun (congrFun (iL54_1) 37) 64) (Eq.trans (zs_na (by decide) : (zs (zs ((yMk5 q (yM h))) 206 (6 * ((yMk5 q (yM h)) 37 0).toNat) (ySmCA (yMk5 q (yM h)))) 206 (6 * ((yMk5 q (yM h)) 37 0).toNat + 2) (ySmL (yMk5 q (yM h)) (lL54).toNat)) 37 64 = (zs ((yMk5 q (yM h))) 206 (6 * ((yMk5 q (yM h)) 37 0).toNat) (ySmCA (yMk5 q (yM h)))) 37 64) (Eq.trans (zs_na (by decide) : (zs ((yMk5 q (yM h))) 206 (6 * ((yMk5 q (yM h)) 37 0).toNat) (ySmCA (yMk5 q (yM h)))) 37 64 = ((yMk5 q (yM h))) 37 64) rfl))))
                    refine zwic_ge (q := 133) (nx := 107) (by decide +kernel) (fun c56 => ?_) (fun c56 => ?_)
                    · refine zwW_p [(1, 0, 2)] (q := 134) (ls' := [(2, 37), (0, lL54)]) (st' := [(2, 37)]) (by decide +kernel) rfl ?_
                      refine zwW_gc IhL54 (kd := 13) (bn := 91) (n := 97) (c := 205) (nx := 137) (by decide +kernel) ?_
                      refine zwW_p [(1, 0, 2)] (q := 138) (ls' := [(2, 37), (0, lL54)]) (st' := [(2, 37), (2, 205)]) (by decide +kernel) rfl ?_
                      refine zwW_gs IhL54 (kd := 13) (bn := 0) (n := 97) (t := 0) (lo := 0) (hi := 156) (nx := 141) (by decide +kernel) ?_
                      intro v57 ev57 lv57 uv57
                      have sv57 : v57 = ((yMk5 q (yM h))) 37 0 := Eq.trans ev57 (Eq.trans (Eq.symm (yM_s (h := hL54) (i := 0) rfl)) (Eq.trans (congrFun (congrFun (iL54_1) 37) 0) (Eq.trans (zs_na (by decide) : (zs (zs ((yMk5 q (yM h))) 206 (6 * ((yMk5 q (yM h)) 37 0).toNat) (ySmCA (yMk5 q (yM h)))) 206 (6 * ((yMk5 q (yM h)) 37 0).toNat + 2) (ySmL (yMk5 q (yM h)) (lL54).toNat)) 37 0 = (zs ((yMk5 q (yM h))) 206 (6 * ((yMk5 q (yM h)) 37 0).toNat) (ySmCA (yMk5 q (yM h)))) 37 0) (Eq.trans (zs_na (by decide) : (zs ((yMk5 q (yM h))) 206 (6 * ((yMk5 q (yM h)) 37 0).toNat) (ySmCA (yMk5 q (yM h)))) 37 0 = ((yMk5 q (yM h))) 37 0) rfl))))
                      refine zwW_ro IhL54 (a := 205) (n := 156) (kd := 26) (base := 206) (step := 1) (nx := 142) (by decide +kernel) rfl (by first | omega | exact ⟨by omega, by omega⟩) ?_
                      rw [show ((206 : Nat) : Int) + ((1 : Nat) : Int) * v57 = (206 + v57) by omega]
                      refine zwW_p [(0, 3, 0), (1, 0, 2)] (q := 144) (ls' := [(2, 37), (0, lL54)]) (st' := [(2, 37), (0, 3), (2, (206 + v57))]) (by decide +kernel) rfl ?_
                      refine zwW_gs IhL54 (kd := 13) (bn := 69) (n := 97) (t := 0) (lo := -2147483648) (hi := 2147483647) (nx := 147) (by decide +kernel) ?_
                      intro v58 ev58 lv58 uv58
                      have sv58 : v58 = ((yMk5 q (yM h))) 37 69 := Eq.trans ev58 (Eq.trans (Eq.symm (yM_s (h := hL54) (i := 69) rfl)) (Eq.trans (congrFun (congrFun (iL54_1) 37) 69) (Eq.trans (zs_na (by decide) : (zs (zs ((yMk5 q (yM h))) 206 (6 * ((yMk5 q (yM h)) 37 0).toNat) (ySmCA (yMk5 q (yM h)))) 206 (6 * ((yMk5 q (yM h)) 37 0).toNat + 2) (ySmL (yMk5 q (yM h)) (lL54).toNat)) 37 69 = (zs ((yMk5 q (yM h))) 206 (6 * ((yMk5 q (yM h)) 37 0).toNat) (ySmCA (yMk5 q (yM h)))) 37 69) (Eq.trans (zs_na (by decide) : (zs ((yMk5 q (yM h))) 206 (6 * ((yMk5 q (yM h)) 37 0).toNat) (ySmCA (yMk5 q (yM h)))) 37 69 = ((yMk5 q (yM h))) 37 69) rfl))))
                      refine zwW_as IhL54 (a1 := 206) (a2 := 361) (n := 6) (lo := -2147483648) (hi := 2147483647) (nx := 148) (by decide +kernel) (by first | omega | exact ⟨by omega, by omega⟩) (by first | decide | exact ⟨by decide, by decide⟩) (by first | omega | exact ⟨by omega, by omega⟩) ?_
                      intro h59 eh59 Ih59
                      have rbh59 : ((206 : Nat) : Int) ≤ (206 + v57) ∧ (206 + v57) ≤ ((361 : Nat) : Int) := (by first | omega | exact ⟨by omega, by omega⟩)
                      have th59_37_0 : fld h59 37 0 = fld hL54 37 0 := by rw [eh59]; exact fld_wr (Or.inl (zne_l (by decide) rbh59.1))
                      have th59_37_2 : fld h59 37 2 = fld hL54 37 2 := by rw [eh59]; exact fld_wr (Or.inl (zne_l (by decide) rbh59.1))
                      have Zh59 : yM h59 = (zs (zs (zs ((yMk5 q (yM h))) 206 (6 * ((yMk5 q (yM h)) 37 0).toNat) (ySmCA (yMk5 q (yM h)))) 206 (6 * ((yMk5 q (yM h)) 37 0).toNat + 2) (ySmL (yMk5 q (yM h)) (lL54).toNat)) 206 (6 * v57.toNat + 3) (((yMk5 q (yM h))) 37 69)) := by rw [yM_w2 (a := 206) (w := 6) (v := v57.toNat) (j := 3) (m := 6) (kd := 20) rfl (by omega) (IhL54.s (a1 := 206) (a2 := 361) (by decide +kernel) (by omega) (by omega)) (by omega) (by omega) (by show _ < 936; omega) eh59, (iL54_1), sv58]
                      have Rh59 : zMR ms114 h h59 := RhL54.w (a1 := 206) (a2 := 361) (j1 := 0) (j2 := 6) (by decide +kernel) rbh59 (by first | decide | exact ⟨by decide, by decide⟩) eh59
                      refine zwW_p [(1, 0, 2)] (q := 149) (ls' := [(2, 37), (0, lL54)]) (st' := [(2, 37)]) (by decide +kernel) rfl ?_
                      refine zwW_gc Ih59 (kd := 13) (bn := 91) (n := 97) (c := 205) (nx := 152) (by decide +kernel) ?_
                      refine zwW_p [(1, 0, 2)] (q := 153) (ls' := [(2, 37), (0, lL54)]) (st' := [(2, 37), (2, 205)]) (by decide +kernel) rfl ?_
                      refine zwW_gs Ih59 (kd := 13) (bn := 0) (n := 97) (t := 0) (lo := 0) (hi := 156) (nx := 156) (by decide +kernel) ?_
                      intro v60 ev60 lv60 uv60
                      have sv60 : v60 = ((yMk5 q (yM h))) 37 0 := Eq.trans ev60 (Eq.trans (Eq.symm (yM_s (h := h59) (i := 0) rfl)) (Eq.trans (congrFun (congrFun Zh59 37) 0) (Eq.trans (zs_na (by decide) : (zs (zs (zs ((yMk5 q (yM h))) 206 (6 * ((yMk5 q (yM h)) 37 0).toNat) (ySmCA (yMk5 q (yM h)))) 206 (6 * ((yMk5 q (yM h)) 37 0).toNat + 2) (ySmL (yMk5 q (yM h)) (lL54).toNat)) 206 (6 * v57.toNat + 3) (((yMk5 q (yM h))) 37 69)) 37 0 = (zs (zs ((yMk5 q (yM h))) 206 (6 * ((yMk5 q (yM h)) 37 0).toNat) (ySmCA (yMk5 q (yM h)))) 206 (6 * ((yMk5 q (yM h)) 37 0).toNat + 2) (ySmL (yMk5 q (yM h)) (lL54).toNat)) 37 0) (Eq.trans (zs_na (by decide) : (zs (zs ((yMk5 q (yM h))) 206 (6 * ((yMk5 q (yM h)) 37 0).toNat) (ySmCA (yMk5 q (yM h)))) 206 (6 * ((yMk5 q (yM h)) 37 0).toNat + 2) (ySmL (yMk5 q (yM h)) (lL54).toNat)) 37 0 = (zs ((yMk5 q (yM h))) 206 (6 * ((yMk5 q (yM h)) 37 0).toNat) (ySmCA (yMk5 q (yM h)))) 37 0) (Eq.trans (zs_na (by decide) : (zs ((yMk5 q (yM h))) 206 (6 * ((yMk5 q (yM h)) 37 0).toNat) (ySmCA (yMk5 q (yM h)))) 37 0 = ((yMk5 q (yM h))) 37 0) rfl)))))
                      refine zwW_ro Ih59 (a := 205) (n := 156) (kd := 26) (base := 206) (step := 1) (nx := 157) (by decide +kernel) rfl (by first | omega | exact ⟨by omega, by omega⟩) ?_
                      rw [show ((206 : Nat) : Int) + ((1 : Nat) : Int) * v60 = (206 + v60) by omega]
                      refine zwW_p [(0, 4, 0), (1, 0, 2)] (q := 159) (ls' := [(2, 37), (0, lL54)]) (st' := [(2, 37), (0, 4), (2, (206 + v60))]) (by decide +kernel) rfl ?_
                      refine zwW_gs Ih59 (kd := 13) (bn := 70) (n := 97) (t := 0) (lo := -2147483648) (hi := 2147483647) (nx := 162) (by decide +kernel) ?_
                      intro v61 ev61 lv61 uv61
                      have sv61 : v61 = ((yMk5 q (yM h))) 37 70 := Eq.trans ev61 (Eq.trans (Eq.symm (yM_s (h := h59) (i := 70) rfl)) (Eq.trans (congrFun (congrFun Zh59 37) 70) (Eq.trans (zs_na (by decide) : (zs (zs (zs ((yMk5 q (yM h))) 206 (6 * ((yMk5 q (yM h)) 37 0).toNat) (ySmCA (yMk5 q (yM h)))) 206 (6 * ((yMk5 q (yM h)) 37 0).toNat + 2) (ySmL (yMk5 q (yM h)) (lL54).toNat)) 206 (6 * v57.toNat + 3) (((yMk5 q (yM h))) 37 69)) 37 70 = (zs (zs ((yMk5 q (yM h))) 206 (6 * ((yMk5 q (yM h)) 37 0).toNat) (ySmCA (yMk5 q (yM h)))) 206 (6 * ((yMk5 q (yM h)) 37 0).toNat + 2) (ySmL (yMk5 q (yM h)) (lL54).toNat)) 37 70) (Eq.trans (zs_na (by decide) : (zs (zs ((yMk5 q (yM h))) 206 (6 * ((yMk5 q (yM h)) 37 0).toNat) (ySmCA (yMk5 q (yM h)))) 206 (6 * ((yMk5 q (yM h)) 37 0).toNat + 2) (ySmL (yMk5 q (yM h)) (lL54).toNat)) 37 70 = (zs ((yMk5 q (yM h))) 206 (6 * ((yMk5 q (yM h)) 37 0).toNat) (ySmCA (yMk5 q (yM h)))) 37 70) (Eq.trans (zs_na (by decide) : (zs ((yMk5 q (yM h))) 206 (6 * ((yMk5 q (yM h)) 37 0).toNat) (ySmCA (yMk5 q (yM h)))) 37 70 = ((yMk5 q (yM h))) 37 70) rfl)))))
                      refine zwW_as Ih59 (a1 := 206) (a2 := 361) (n := 6) (lo := -2147483648) (hi := 2147483647) (nx := 163) (by decide +kernel) (by first | omega | exact ⟨by omega, by omega⟩) (by first | decide | exact ⟨by decide, by decide⟩) (by first | omega | exact ⟨by omega, by omega⟩) ?_
                      intro h62 eh62 Ih62
                      have rbh62 : ((206 : Nat) : Int) ≤ (206 + v60) ∧ (206 + v60) ≤ ((361 : Nat) : Int) := (by first | omega | exact ⟨by omega, by omega⟩)
                      have th62_37_0 : fld h62 37 0 = fld h59 37 0 := by rw [eh62]; exact fld_wr (Or.inl (zne_l (by decide) rbh62.1))
                      have th62_37_2 : fld h62 37 2 = fld h59 37 2 := by rw [eh62]; exact fld_wr (Or.inl (zne_l (by decide) rbh62.1))
                      have Zh62 : yM h62 = (zs (zs (zs (zs ((yMk5 q (yM h))) 206 (6 * ((yMk5 q (yM h)) 37 0).toNat) (ySmCA (yMk5 q (yM h)))) 206 (6 * ((yMk5 q (yM h)) 37 0).toNat + 2) (ySmL (yMk5 q (yM h)) (lL54).toNat)) 206 (6 * v57.toNat + 3) (((yMk5 q (yM h))) 37 69)) 206 (6 * v60.toNat + 4) (((yMk5 q (yM h))) 37 70)) := by rw [yM_w2 (a := 206) (w := 6) (v := v60.toNat) (j := 4) (m := 6) (kd := 20) rfl (by omega) (Ih59.s (a1 := 206) (a2 := 361) (by decide +kernel) (by omega) (by omega)) (by omega) (by omega) (by show _ < 936; omega) eh62, Zh59, sv61]
                      have Rh62 : zMR ms114 h h62 := Rh59.w (a1 := 206) (a2 := 361) (j1 := 0) (j2 := 6) (by decide +kernel) rbh62 (by first | decide | exact ⟨by decide, by decide⟩) eh62
                      refine zwW_p [(1, 0, 2)] (q := 164) (ls' := [(2, 37), (0, lL54)]) (st' := [(2, 37)]) (by decide +kernel) rfl ?_
                      refine zwW_gc Ih62 (kd := 13) (bn := 91) (n := 97) (c := 205) (nx := 167) (by decide +kernel) ?_
                      refine zwW_p [(1, 0, 2)] (q := 168) (ls' := [(2, 37), (0, lL54)]) (st' := [(2, 37), (2, 205)]) (by decide +kernel) rfl ?_
                      refine zwW_gs Ih62 (kd := 13) (bn := 0) (n := 97) (t := 0) (lo := 0) (hi := 156) (nx := 171) (by decide +kernel) ?_
                      intro v63 ev63 lv63 uv63
                      have sv63 : v63 = ((yMk5 q (yM h))) 37 0 := Eq.trans ev63 (Eq.trans (Eq.symm (yM_s (h := h62) (i := 0) rfl)) (Eq.trans (congrFun (congrFun Zh62 37) 0) (Eq.trans (zs_na (by decide) : (zs (zs (zs (zs ((yMk5 q (yM h))) 206 (6 * ((yMk5 q (yM h)) 37 0).toNat) (ySmCA (yMk5 q (yM h)))) 206 (6 * ((yMk5 q (yM h)) 37 0).toNat + 2) (ySmL (yMk5 q (yM h)) (lL54).toNat)) 206 (6 * v57.toNat + 3) (((yMk5 q (yM h))) 37 69)) 206 (6 * v60.toNat + 4) (((yMk5 q (yM h))) 37 70)) 37 0 = (zs (zs (zs ((yMk5 q (yM h))) 206 (6 * ((yMk5 q (yM h)) 37 0).toNat) (ySmCA (yMk5 q (yM h)))) 206 (6 * ((yMk5 q (yM h)) 37 0).toNat + 2) (ySmL (yMk5 q (yM h)) (lL54).toNat)) 206 (6 * v57.toNat + 3) (((yMk5 q (yM h))) 37 69)) 37 0) (Eq.trans (zs_na (by decide) : (zs (zs (zs ((yMk5 q (yM h))) 206 (6 * ((yMk5 q (yM h)) 37 0).toNat) (ySmCA (yMk5 q (yM h)))) 206 (6 * ((yMk5 q (yM h)) 37 0).toNat + 2) (ySmL (yMk5 q (yM h)) (lL54).toNat)) 206 (6 * v57.toNat + 3) (((yMk5 q (yM h))) 37 69)) 37 0 = (zs (zs ((yMk5 q (yM h))) 206 (6 * ((yMk5 q (yM h)) 37 0).toNat) (ySmCA (yMk5 q (yM h)))) 206 (6 * ((yMk5 q (yM h)) 37 0).toNat + 2) (ySmL (yMk5 q (yM h)) (lL54).toNat)) 37 0) (Eq.trans (zs_na (by decide) : (zs (zs ((yMk5 q (yM h))) 206 (6 * ((yMk5 q (yM h)) 37 0).toNat) (ySmCA (yMk5 q (yM h)))) 206 (6 * ((yMk5 q (yM h)) 37 0).toNat + 2) (ySmL (yMk5 q (yM h)) (lL54).toNat)) 37 0 = (zs ((yMk5 q (yM h))) 206 (6 * ((yMk5 q (yM h)) 37 0).toNat) (ySmCA (yMk5 q (yM h)))) 37 0) (Eq.trans (zs_na (by decide) : (zs ((yMk5 q (yM h))) 206 (6 * ((yMk5 q (yM h)) 37 0).toNat) (ySmCA (yMk5 q (yM h)))) 37 0 = ((yMk5 q (yM h))) 37 0) rfl))))))
                      refine zwW_ro Ih62 (a := 205) (n := 156) (kd := 26) (base := 206) (step := 1) (nx := 172) (by decide +kernel) rfl (by first | omega | exact ⟨by omega, by omega⟩) ?_
                      rw [show ((206 : Nat) : Int) + ((1 : Nat) : Int) * v63 = (206 + v63) by omega]
                      refine zwW_p [(0, 5, 0), (1, 0, 2)] (q := 174) (ls' := [(2, 37), (0, lL54)]) (st' := [(2, 37), (0, 5), (2, (206 + v63))]) (by decide +kernel) rfl ?_
                      refine zwW_gs Ih62 (kd := 13) (bn := 71) (n := 97) (t := 0) (lo := -2147483648) (hi := 2147483647) (nx := 177) (by decide +kernel) ?_
                      intro v64 ev64 lv64 uv64
                      have sv64 : v64 = ((yMk5 q (yM h))) 37 71 := Eq.trans ev64 (Eq.trans (Eq.symm (yM_s (h := h62) (i := 71) rfl)) (Eq.trans (congrFun (congrFun Zh62 37) 71) (Eq.trans (zs_na (by decide) : (zs (zs (zs (zs ((yMk5 q (yM h))) 206 (6 * ((yMk5 q (yM h)) 37 0).toNat) (ySmCA (yMk5 q (yM h)))) 206 (6 * ((yMk5 q (yM h)) 37 0).toNat + 2) (ySmL (yMk5 q (yM h)) (lL54).toNat)) 206 (6 * v57.toNat + 3) (((yMk5 q (yM h))) 37 69)) 206 (6 * v60.toNat + 4) (((yMk5 q (yM h))) 37 70)) 37 71 = (zs (zs (zs ((yMk5 q (yM h))) 206 (6 * ((yMk5 q (yM h)) 37 0).toNat) (ySmCA (yMk5 q (yM h)))) 206 (6 * ((yMk5 q (yM h)) 37 0).toNat + 2) (ySmL (yMk5 q (yM h)) (lL54).toNat)) 206 (6 * v57.toNat + 3) (((yMk5 q (yM h))) 37 69)) 37 71) (Eq.trans (zs_na (by decide) : (zs (zs (zs ((yMk5 q (yM h))) 206 (6 * ((yMk5 q (yM h)) 37 0).toNat) (ySmCA (yMk5 q (yM h)))) 206 (6 * ((yMk5 q (yM h)) 37 0).toNat + 2) (ySmL (yMk5 q (yM h)) (lL54).toNat)) 206 (6 * v57.toNat + 3) (((yMk5 q (yM h))) 37 69)) 37 71 = (zs (zs ((yMk5 q (yM h))) 206 (6 * ((yMk5 q (yM h)) 37 0).toNat) (ySmCA (yMk5 q (yM h)))) 206 (6 * ((yMk5 q (yM h)) 37 0).toNat + 2) (ySmL (yMk5 q (yM h)) (lL54).toNat)) 37 71) (Eq.trans (zs_na (by decide) : (zs (zs ((yMk5 q (yM h))) 206 (6 * ((yMk5 q (yM h)) 37 0).toNat) (ySmCA (yMk5 q (yM h)))) 206 (6 * ((yMk5 q (yM h)) 37 0).toNat + 2) (ySmL (yMk5 q (yM h)) (lL54).toNat)) 37 71 = (zs ((yMk5 q (yM h))) 206 (6 * ((yMk5 q (yM h)) 37 0).toNat) (ySmCA (yMk5 q (yM h)))) 37 71) (Eq.trans (zs_na (by decide) : (zs ((yMk5 q (yM h))) 206 (6 * ((yMk5 q (yM h)) 37 0).toNat) (ySmCA (yMk5 q (yM h)))) 37 71 = ((yMk5 q (yM h))) 37 71) rfl))))))
                      refine zwW_as Ih62 (a1 := 206) (a2 := 361) (n := 6) (lo := -2147483648) (hi := 2147483647) (nx := 178) (by decide +kernel) (by first | omega | exact ⟨by omega, by omega⟩) (by first | decide | exact ⟨by decide, by decide⟩) (by first | omega | exact ⟨by omega, by omega⟩) ?_
                      intro h65 eh65 Ih65
                      have rbh65 : ((206 : Nat) : Int) ≤ (206 + v63) ∧ (206 + v63) ≤ ((361 : Nat) : Int) := (by first | omega | exact ⟨by omega, by omega⟩)
                      have th65_37_0 : fld h65 37 0 = fld h62 37 0 := by rw [eh65]; exact fld_wr (Or.inl (zne_l (by decide) rbh65.1))
                      have th65_37_2 : fld h65 37 2 = fld h62 37 2 := by rw [eh65]; exact fld_wr (Or.inl (zne_l (by decide) rbh65.1))
                      have Zh65 : yM h65 = (zs (zs (zs (zs (zs ((yMk5 q (yM h))) 206 (6 * ((yMk5 q (yM h)) 37 0).toNat) (ySmCA (yMk5 q (yM h)))) 206 (6 * ((yMk5 q (yM h)) 37 0).toNat + 2) (ySmL (yMk5 q (yM h)) (lL54).toNat)) 206 (6 * v57.toNat + 3) (((yMk5 q (yM h))) 37 69)) 206 (6 * v60.toNat + 4) (((yMk5 q (yM h))) 37 70)) 206 (6 * v63.toNat + 5) (((yMk5 q (yM h))) 37 71)) := by rw [yM_w2 (a := 206) (w := 6) (v := v63.toNat) (j := 5) (m := 6) (kd := 20) rfl (by omega) (Ih62.s (a1 := 206) (a2 := 361) (by decide +kernel) (by omega) (by omega)) (by omega) (by omega) (by show _ < 936; omega) eh65, Zh62, sv64]
                      have Rh65 : zMR ms114 h h65 := Rh62.w (a1 := 206) (a2 := 361) (j1 := 0) (j2 := 6) (by decide +kernel) rbh65 (by first | decide | exact ⟨by decide, by decide⟩) eh65
                      refine zwW_p [(1, 0, 2), (12, 0, 0)] (q := 180) (ls' := [(2, 37), (0, lL54)]) (st' := [(2, 37), (2, 37)]) (by decide +kernel) rfl ?_
                      refine zwW_gs Ih65 (kd := 13) (bn := 0) (n := 97) (t := 0) (lo := 0) (hi := 156) (nx := 183) (by decide +kernel) ?_
                      intro v66 ev66 lv66 uv66
                      have sv66 : v66 = ((yMk5 q (yM h))) 37 0 := Eq.trans ev66 (Eq.trans (Eq.symm (yM_s (h := h65) (i := 0) rfl)) (Eq.trans (congrFun (congrFun Zh65 37) 0) (Eq.trans (zs_na (by decide) : (zs (zs (zs (zs (zs ((yMk5 q (yM h))) 206 (6 * ((yMk5 q (yM h)) 37 0).toNat) (ySmCA (yMk5 q (yM h)))) 206 (6 * ((yMk5 q (yM h)) 37 0).toNat + 2) (ySmL (yMk5 q (yM h)) (lL54).toNat)) 206 (6 * v57.toNat + 3) (((yMk5 q (yM h))) 37 69)) 206 (6 * v60.toNat + 4) (((yMk5 q (yM h))) 37 70)) 206 (6 * v63.toNat + 5) (((yMk5 q (yM h))) 37 71)) 37 0 = (zs (zs (zs (zs ((yMk5 q (yM h))) 206 (6 * ((yMk5 q (yM h)) 37 0).toNat) (ySmCA (yMk5 q (yM h)))) 206 (6 * ((yMk5 q (yM h)) 37 0).toNat + 2) (ySmL (yMk5 q (yM h)) (lL54).toNat)) 206 (6 * v57.toNat + 3) (((yMk5 q (yM h))) 37 69)) 206 (6 * v60.toNat + 4) (((yMk5 q (yM h))) 37 70)) 37 0) (Eq.trans (zs_na (by decide) : (zs (zs (zs (zs ((yMk5 q (yM h))) 206 (6 * ((yMk5 q (yM h)) 37 0).toNat) (ySmCA (yMk5 q (yM h)))) 206 (6 * ((yMk5 q (yM h)) 37 0).toNat + 2) (ySmL (yMk5 q (yM h)) (lL54).toNat)) 206 (6 * v57.toNat + 3) (((yMk5 q (yM h))) 37 69)) 206 (6 * v60.toNat + 4) (((yMk5 q (yM h))) 37 70)) 37 0 = (zs (zs (zs ((yMk5 q (yM h))) 206 (6 * ((yMk5 q (yM h)) 37 0).toNat) (ySmCA (yMk5 q (yM h)))) 206 (6 * ((yMk5 q (yM h)) 37 0).toNat + 2) (ySmL (yMk5 q (yM h)) (lL54).toNat)) 206 (6 * v57.toNat + 3) (((yMk5 q (yM h))) 37 69)) 37 0) (Eq.trans (zs_na (by decide) : (zs (zs (zs ((yMk5 q (yM h))) 206 (6 * ((yMk5 q (yM h)) 37 0).toNat) (ySmCA (yMk5 q (yM h)))) 206 (6 * ((yMk5 q (yM h)) 37 0).toNat + 2) (ySmL (yMk5 q (yM h)) (lL54).toNat)) 206 (6 * v57.toNat + 3) (((yMk5 q (yM h))) 37 69)) 37 0 = (zs (zs ((yMk5 q (yM h))) 206 (6 * ((yMk5 q (yM h)) 37 0).toNat) (ySmCA (yMk5 q (yM h)))) 206 (6 * ((yMk5 q (yM h)) 37 0).toNat + 2) (ySmL (yMk5 q (yM h)) (lL54).toNat)) 37 0) (Eq.trans (zs_na (by decide) : (zs (zs ((yMk5 q (yM h))) 206 (6 * ((yMk5 q (yM h)) 37 0).toNat) (ySmCA (yMk5 q (yM h)))) 206 (6 * ((yMk5 q (yM h)) 37 0).toNat + 2) (ySmL (yMk5 q (yM h)) (lL54).toNat)) 37 0 = (zs ((yMk5 q (yM h))) 206 (6 * ((yMk5 q (yM h)) 37 0).toNat) (ySmCA (yMk5 q (yM h)))) 37 0) (Eq.trans (zs_na (by decide) : (zs ((yMk5 q (yM h))) 206 (6 * ((yMk5 q (yM h)) 37 0).toNat) (ySmCA (yMk5 q (yM h)))) 37 0 = ((yMk5 q (yM h))) 37 0) rfl)))))))
                      refine zwW_p [(0, 1, 0)] (q := 184) (ls' := [(2, 37), (0, lL54)]) (st' := [(0, 1), (0, v66), (2, 37)]) (by decide +kernel) rfl ?_
                      refine zwW_add (nx := 185) (by decide +kernel) (by first | omega | exact ⟨by omega, by omega⟩) ?_
                      refine zwW_ps Ih65 (kd := 13) (bn := 0) (n := 97) (lo := 0) (hi := 156) (nx := 188) (by decide +kernel) (by first | omega | exact ⟨by omega, by omega⟩) ?_
                      intro h67 eh67 Ih67
                      have th67_37_0 : fld h67 37 0 = (v66 + 1) := by rw [eh67]; exact fld_wr_eq (Ih65.s (a1 := 37) (a2 := 37) (k := 13) (n := 97) (by decide +kernel) (by decide) (by decide)) (by decide)
                      have th67_37_2 : fld h67 37 2 = fld h65 37 2 := by rw [eh67]; exact fld_wr (by decide)
                      have Zh67 : yM h67 = (zs (zs (zs (zs (zs (zs ((yMk5 q (yM h))) 206 (6 * ((yMk5 q (yM h)) 37 0).toNat) (ySmCA (yMk5 q (yM h)))) 206 (6 * ((yMk5 q (yM h)) 37 0).toNat + 2) (ySmL (yMk5 q (yM h)) (lL54).toNat)) 206 (6 * v57.toNat + 3) (((yMk5 q (yM h))) 37 69)) 206 (6 * v60.toNat + 4) (((yMk5 q (yM h))) 37 70)) 206 (6 * v63.toNat + 5) (((yMk5 q (yM h))) 37 71)) 37 0 ((((yMk5 q (yM h))) 37 0) + 1)) := by rw [yM_ws (i := 0) (kd := 13) (n := 97) rfl (Ih65.s (a1 := 37) (a2 := 37) (by decide +kernel) (by decide) (by decide)) (by decide) eh67, Zh65, sv66]
                      have Rh67 : zMR ms114 h h67 := Rh65.w (a1 := 37) (a2 := 37) (j1 := 0) (j2 := 1) (by decide +kernel) (by first | decide | exact ⟨by decide, by decide⟩) (by first | decide | exact ⟨by decide, by decide⟩) eh67
                      refine zwW_p [(0, 0, 0)] (q := 189) (ls' := [(2, 37), (0, lL54)]) (st' := [(0, 0)]) (by decide +kernel) rfl ?_
                      have E189 : (zs (zs (zs (zs (zs (zs ((yMk5 q (yM h))) 206 (6 * ((yMk5 q (yM h)) 37 0).toNat) (ySmCA (yMk5 q (yM h)))) 206 (6 * ((yMk5 q (yM h)) 37 0).toNat + 2) (ySmL (yMk5 q (yM h)) (lL54).toNat)) 206 (6 * v57.toNat + 3) (((yMk5 q (yM h))) 37 69)) 206 (6 * v60.toNat + 4) (((yMk5 q (yM h))) 37 70)) 206 (6 * v63.toNat + 5) (((yMk5 q (yM h))) 37 71)) 37 0 ((((yMk5 q (yM h))) 37 0) + 1)) = (zs (yMk6 (yMk5 q (yM h))) 37 0 ((yMk5 q (yM h)) 37 0 + 1)) := by
                        unfold yMk6
                        rw [show (lL54).toNat = ((yMk5 q (yM h)) 37 64).toNat by omega]
                        exact zs_cg (zs_cg (zs_cg (zs_cg rfl (by omega) rfl) (by omega) rfl) (by omega) rfl) rfl (by omega)
                      refine zwW_p [(2, 1, 0)] (q := 190) (ls' := [(2, 37), (0, 0)]) (st' := []) (by decide +kernel) rfl ?_
                      have L68 : ∀ (n0 : Nat) (vL68 : Int) (hL68 : Hp), n0 = ((100 - vL68)).toNat → ((0 ≤ vL68 ∧ vL68 ≤ (yMk5 q (yM h)) 37 1) ∧ fld hL68 37 0 = fld h 37 0 + 1) → (yM hL68 = (yBg1 (zs (yMk6 (yMk5 q (yM h))) 37 0 ((yMk5 q (yM h)) 37 0 + 1)) ((zs (yMk6 (yMk5 q (yM h))) 37 0 ((yMk5 q (yM h)) 37 0 + 1)) 37 0).toNat (vL68).toNat)) → zI hL68 → zMR ms114 h hL68 → zwW sc (7) 114 190 [(2, 37), (0, vL68)] [] hL68 (zwRv (fun g => zI g ∧ zMR ms114 h g ∧ (fld g 37 0 = fld h 37 0 + 1) ∧ (yM g = yWkM q (yM h)))) := by
                        intro n0
                        induction n0 using Nat.strongRecOn with
                        | ind n0 IHL68 =>
                          intro vL68 hL68 hnL68 iL68_0 iL68_1 IhL68 RhL68
                          refine zwW_p [(1, 1, 0), (1, 0, 2)] (q := 192) (ls' := [(2, 37), (0, vL68)]) (st' := [(2, 37), (0, vL68)]) (by decide +kernel) rfl ?_
                          have N192 : (yBg1 (zs (yMk6 (yMk5 q (yM h))) 37 0 ((yMk5 q (yM h)) 37 0 + 1)) ((zs (yMk6 (yMk5 q (yM h))) 37 0 ((yMk5 q (yM h)) 37 0 + 1)) 37 0).toNat (vL68).toNat) 37 1 = (yMk5 q (yM h)) 37 1 := (yBg1_n (by decide) _).trans ((zs_ni (by decide)).trans (yMk6_n (by decide)))
                          have O192 : (yBg1 (zs (yMk6 (yMk5 q (yM h))) 37 0 ((yMk5 q (yM h)) 37 0 + 1)) ((zs (yMk6 (yMk5 q (yM h))) 37 0 ((yMk5 q (yM h)) 37 0 + 1)) 37 0).toNat (vL68).toNat) 37 0 = (zs (yMk6 (yMk5 q (yM h))) 37 0 ((yMk5 q (yM h)) 37 0 + 1)) 37 0 := yBg1_n (by decide) _
                          refine zwW_gs IhL68 (kd := 13) (bn := 1) (n := 97) (t := 0) (lo := 0) (hi := 8) (nx := 195) (by decide +kernel) ?_
                          intro v69 ev69 lv69 uv69
                          have sv69 : v69 = (yBg1 (zs (yMk6 (yMk5 q (yM h))) 37 0 ((yMk5 q (yM h)) 37 0 + 1)) ((zs (yMk6 (yMk5 q (yM h))) 37 0 ((yMk5 q (yM h)) 37 0 + 1)) 37 0).toNat (vL68).toNat) 37 1 := Eq.trans ev69 (Eq.trans (Eq.symm (yM_s (h := hL68) (i := 1) rfl)) (Eq.trans (congrFun (congrFun iL68_1 37) 1) rfl))
                          refine zwic_ge (q := 221) (nx := 198) (by decide +kernel) (fun c70 => ?_) (fun c70 => ?_)
                          · refine zwW_p [(0, 0, 0), (2, 1, 0)] (q := 223) (ls' := [(2, 37), (0, 0)]) (st' := []) (by decide +kernel) rfl ?_
                            have L71 : ∀ (n0 : Nat) (kL71 : Int) (hL71 : Hp), n0 = ((100 - kL71)).toNat → ((0 ≤ kL71 ∧ kL71 ≤ (yMk5 q (yM h)) 37 2) ∧ fld hL71 37 0 = fld h 37 0 + 1) → (yM hL71 = (yBg2 (yBg1 (zs (yMk6 (yMk5 q (yM h))) 37 0 ((yMk5 q (yM h)) 37 0 + 1)) ((zs (yMk6 (yMk5 q (yM h))) 37 0 ((yMk5 q (yM h)) 37 0 + 1)) 37 0).toNat ((zs (yMk6 (yMk5 q (yM h))) 37 0 ((yMk5 q (yM h)) 37 0 + 1)) 37 1).toNat) (kL71).toNat)) → zI hL71 → zMR ms114 h hL71 → zwW sc (7) 114 223 [(2, 37), (0, kL71)] [] hL71 (zwRv (fun g => zI g ∧ zMR ms114 h g ∧ (fld g 37 0 = fld h 37 0 + 1) ∧ (yM g = yWkM q (yM h)))) := by
                              intro n0
                              induction n0 using Nat.strongRecOn with
                              | ind n0 IHL71 =>
                                intro kL71 hL71 hnL71 iL71_0 iL71_1 IhL71 RhL71
                                refine zwW_p [(1, 1, 0), (1, 0, 2)] (q := 225) (ls' := [(2, 37), (0, kL71)]) (st' := [(2, 37), (0, kL71)]) (by decide +kernel) rfl ?_
                                have N225 : (yBg2 (yBg1 (zs (yMk6 (yMk5 q (yM h))) 37 0 ((yMk5 q (yM h)) 37 0 + 1)) ((zs (yMk6 (yMk5 q (yM h))) 37 0 ((yMk5 q (yM h)) 37 0 + 1)) 37 0).toNat ((zs (yMk6 (yMk5 q (yM h))) 37 0 ((yMk5 q (yM h)) 37 0 + 1)) 37 1).toNat) (kL71).toNat) 37 2 = (yMk5 q (yM h)) 37 2 := (yBg2_n (by decide) _).trans ((yBg1_n (by decide) _).trans ((zs_ni (by decide)).trans (yMk6_n (by decide))))
                                refine zwW_gs IhL71 (kd := 13) (bn := 2) (n := 97) (t := 0) (lo := 0) (hi := 20) (nx := 228) (by decide +kernel) ?_
                                intro v72 ev72 lv72 uv72
                                have sv72 : v72 = (yBg2 (yBg1 (zs (yMk6 (yMk5 q (yM h))) 37 0 ((yMk5 q (yM h)) 37 0 + 1)) ((zs (yMk6 (yMk5 q (yM h))) 37 0 ((yMk5 q (yM h)) 37 0 + 1)) 37 0).toNat ((zs (yMk6 (yMk5 q (yM h))) 37 0 ((yMk5 q (yM h)) 37 0 + 1)) 37 1).toNat) (kL71).toNat) 37 2 := Eq.trans ev72 (Eq.trans (Eq.symm (yM_s (h := hL71) (i := 2) rfl)) (Eq.trans (congrFun (congrFun iL71_1 37) 2) rfl))
                                refine zwic_ge (q := 244) (nx := 231) (by decide +kernel) (fun c73 => ?_) (fun c73 => ?_)
                                · refine zwW_retv (nx := 245) (a := 0) (b := 0) (by decide +kernel) ?_
                                  exact ⟨IhL71, RhL71, by omega, by refine Eq.trans iL71_1 ?_; unfold yWkM yBgA; rw [show ((zs (yMk6 (yMk5 q (yM h))) 37 0 ((yMk5 q (yM h)) 37 0 + 1)) 37 2).toNat = (kL71).toNat by rw [zs_ni (by decide), yMk6_n (by decide)]; omega]⟩
                                · refine zwW_p [(1, 0, 2)] (q := 232) (ls' := [(2, 37), (0, kL71)]) (st' := [(2, 37)]) (by decide +kernel) rfl ?_
                                  refine zwW_gc IhL71 (kd := 13) (bn := 33) (n := 97) (c := 92) (nx := 235) (by decide +kernel) ?_
                                  refine zwW_p [(1, 1, 0), (0, 0, 0)] (q := 237) (ls' := [(2, 37), (0, kL71)]) (st' := [(0, 0), (0, kL71), (2, 92)]) (by decide +kernel) rfl ?_
                                  have ib6 : 0 ≤ kL71 ∧ kL71 < ((20 : Nat) : Int) := (by first | omega | exact ⟨by omega, by omega⟩)
                                  refine zwW_as IhL71 (a1 := 92) (a2 := 92) (n := 20) (lo := -2147483648) (hi := 2147483647) (nx := 238) (by decide +kernel) (by first | decide | exact ⟨by decide, by decide⟩) ib6 (by first | decide | exact ⟨by decide, by decide⟩) ?_
                                  intro h74 eh74 Ih74
                                  have jbh74 : 0 ≤ kL71.toNat ∧ kL71.toNat < 20 := ⟨Nat.zero_le _, zit ib6⟩
                                  have th74_37_0 : fld h74 37 0 = fld hL71 37 0 := by rw [eh74]; exact fld_wr (Or.inl (by decide))
                                  have th74_37_2 : fld h74 37 2 = fld hL71 37 2 := by rw [eh74]; exact fld_wr (Or.inl (by decide))
                                  have Zh74 : yM h74 = (zs (yBg2 (yBg1 (zs (yMk6 (yMk5 q (yM h))) 37 0 ((yMk5 q (yM h)) 37 0 + 1)) ((zs (yMk6 (yMk5 q (yM h))) 37 0 ((yMk5 q (yM h)) 37 0 + 1)) 37 0).toNat ((zs (yMk6 (yMk5 q (yM h))) 37 0 ((yMk5 q (yM h)) 37 0 + 1)) 37 1).toNat) (kL71).toNat) 92 kL71.toNat 0) := by rw [yM_w (a := 92) (n := 20) (i := kL71.toNat) (kd := 20) rfl (IhL71.s (a1 := 92) (a2 := 92) (by decide +kernel) (by decide) (by decide)) jbh74.2 eh74, iL71_1]
                                  have Rh74 : zMR ms114 h h74 := RhL71.w (a1 := 92) (a2 := 92) (j1 := 0) (j2 := 20) (by decide +kernel) (by first | decide | exact ⟨by decide, by decide⟩) jbh74 eh74
                                  refine zwW_inc (i := 1) (c := 1) (x := kL71) (nx := 241) (by decide +kernel) rfl (by first | omega | exact ⟨by omega, by omega⟩) (ls' := [(2, 37), (0, (kL71 + 1))]) rfl ?_
                                  refine zwW_p [(24, 223, 0)] (q := 223) (ls' := [(2, 37), (0, (kL71 + 1))]) (st' := []) (by decide +kernel) rfl ?_
                                  exact IHL71 ((100 - (kL71 + 1))).toNat (by omega) (kL71 + 1) h74 rfl (by omega) (by rw [show (kL71 + 1).toNat = (kL71).toNat + 1 by omega, yBg2_s]; exact Zh74) Ih74 Rh74
                            exact L71 _ 0 hL68 rfl (by omega) (iL68_1.trans (by rw [show ((zs (yMk6 (yMk5 q (yM h))) 37 0 ((yMk5 q (yM h)) 37 0 + 1)) 37 1).toNat = (vL68).toNat by rw [zs_ni (by decide), yMk6_n (by decide)]; omega]; rfl)) IhL68 RhL68
                          · refine zwW_p [(1, 0, 2)] (q := 199) (ls' := [(2, 37), (0, vL68)]) (st' := [(2, 37)]) (by decide +kernel) rfl ?_
                            refine zwW_gc IhL68 (kd := 13) (bn := 5) (n := 97) (c := 56) (nx := 202) (by decide +kernel) ?_
                            refine zwW_p [(1, 1, 0)] (q := 203) (ls' := [(2, 37), (0, vL68)]) (st' := [(0, vL68), (2, 56)]) (by decide +kernel) rfl ?_
                            refine zwW_ro IhL68 (a := 56) (n := 8) (kd := 26) (base := 57) (step := 1) (nx := 204) (by decide +kernel) rfl (by first | omega | exact ⟨by omega, by omega⟩) ?_
                            rw [show ((57 : Nat) : Int) + ((1 : Nat) : Int) * vL68 = (57 + vL68) by omega]
                            refine zwW_p [(1, 0, 2)] (q := 205) (ls' := [(2, 37), (0, vL68)]) (st' := [(2, 37), (2, (57 + vL68))]) (by decide +kernel) rfl ?_
                            refine zwW_gs IhL68 (kd := 13) (bn := 0) (n := 97) (t := 0) (lo := 0) (hi := 156) (nx := 208) (by decide +kernel) ?_
                            intro v75 ev75 lv75 uv75
                            have sv75 : v75 = (yBg1 (zs (yMk6 (yMk5 q (yM h))) 37 0 ((yMk5 q (yM h)) 37 0 + 1)) ((zs (yMk6 (yMk5 q (yM h))) 37 0 ((yMk5 q (yM h)) 37 0 + 1)) 37 0).toNat (vL68).toNat) 37 0 := Eq.trans ev75 (Eq.trans (Eq.symm (yM_s (h := hL68) (i := 0) rfl)) (Eq.trans (congrFun (congrFun iL68_1 37) 0) rfl))
                            refine zwW_p [(1, 0, 2)] (q := 209) (ls' := [(2, 37), (0, vL68)]) (st' := [(2, 37), (0, v75), (2, (57 + vL68))]) (by decide +kernel) rfl ?_
                            refine zwW_gc IhL68 (kd := 13) (bn := 12) (n := 97) (c := 71) (nx := 212) (by decide +kernel) ?_
                            refine zwW_p [(1, 1, 0)] (q := 213) (ls' := [(2, 37), (0, vL68)]) (st' := [(0, vL68), (2, 71), (0, v75), (2, (57 + vL68))]) (by decide +kernel) rfl ?_
                            have ib7 : 0 ≤ vL68 ∧ vL68 < ((8 : Nat) : Int) := (by first | omega | exact ⟨by omega, by omega⟩)
                            refine zwW_al IhL68 (a1 := 71) (a2 := 71) (kd := 20) (n := 8) (t := 0) (lo := -2147483648) (hi := 2147483647) (nx := 214) (by decide +kernel) (by first | decide | exact ⟨by decide, by decide⟩) ib7 ?_
                            intro v76 ev76 lv76 uv76
                            have sv76 : v76 = (yBg1 (zs (yMk6 (yMk5 q (yM h))) 37 0 ((yMk5 q (yM h)) 37 0 + 1)) ((zs (yMk6 (yMk5 q (yM h))) 37 0 ((yMk5 q (yM h)) 37 0 + 1)) 37 0).toNat (vL68).toNat) 71 vL68.toNat := Eq.trans ev76 (Eq.trans (Eq.symm (yM_p (h := hL68) (a := 71) (n := 8) (i := vL68.toNat) rfl (zit ib7))) (Eq.trans (congrFun (congrFun iL68_1 71) vL68.toNat) rfl))
                            have ib8 : 0 ≤ v75 ∧ v75 < ((157 : Nat) : Int) := (by first | omega | exact ⟨by omega, by omega⟩)
                            refine zwW_as IhL68 (a1 := 57) (a2 := 64) (n := 157) (lo := -2147483648) (hi := 2147483647) (nx := 215) (by decide +kernel) (by first | omega | exact ⟨by omega, by omega⟩) ib8 (by first | omega | exact ⟨by omega, by omega⟩) ?_
                            intro h77 eh77 Ih77
                            have rbh77 : ((57 : Nat) : Int) ≤ (57 + vL68) ∧ (57 + vL68) ≤ ((64 : Nat) : Int) := (by first | omega | exact ⟨by omega, by omega⟩)
                            have jbh77 : 0 ≤ v75.toNat ∧ v75.toNat < 157 := ⟨Nat.zero_le _, zit ib8⟩
                            have th77_37_0 : fld h77 37 0 = fld hL68 37 0 := by rw [eh77]; exact fld_wr (Or.inl (zne_l (by decide) rbh77.1))
                            have th77_37_2 : fld h77 37 2 = fld hL68 37 2 := by rw [eh77]; exact fld_wr (Or.inl (zne_l (by decide) rbh77.1))
                            have Zh77 : yM h77 = (zs (yBg1 (zs (yMk6 (yMk5 q (yM h))) 37 0 ((yMk5 q (yM h)) 37 0 + 1)) ((zs (yMk6 (yMk5 q (yM h))) 37 0 ((yMk5 q (yM h)) 37 0 + 1)) 37 0).toNat (vL68).toNat) 57 (157 * vL68.toNat + v75.toNat) ((yBg1 (zs (yMk6 (yMk5 q (yM h))) 37 0 ((yMk5 q (yM h)) 37 0 + 1)) ((zs (yMk6 (yMk5 q (yM h))) 37 0 ((yMk5 q (yM h)) 37 0 + 1)) 37 0).toNat (vL68).toNat) 71 vL68.toNat)) := by rw [yM_w2 (a := 57) (w := 157) (v := vL68.toNat) (j := v75.toNat) (m := 157) (kd := 20) rfl (by omega) (IhL68.s (a1 := 57) (a2 := 64) (by decide +kernel) (by omega) (by omega)) (by omega) (by omega) (by show _ < 1256; omega) eh77, iL68_1, sv76, sv75]
                            have Rh77 : zMR ms114 h h77 := RhL68.w (a1 := 57) (a2 := 64) (j1 := 0) (j2 := 157) (by decide +kernel) rbh77 jbh77 eh77
                            refine zwW_inc (i := 1) (c := 1) (x := vL68) (nx := 218) (by decide +kernel) rfl (by first | omega | exact ⟨by omega, by omega⟩) (ls' := [(2, 37), (0, (vL68 + 1))]) rfl ?_
                            refine zwW_p [(24, 190, 0)] (q := 190) (ls' := [(2, 37), (0, (vL68 + 1))]) (st' := []) (by decide +kernel) rfl ?_
                            exact IHL68 ((100 - (vL68 + 1))).toNat (by omega) (vL68 + 1) h77 rfl (by omega) (by rw [show (vL68 + 1).toNat = (vL68).toNat + 1 by omega, yBg1_s]; exact Zh77.trans (zs_cg rfl (by omega) rfl)) Ih77 Rh77
                      exact L68 _ 0 h67 rfl (by omega) (Zh67.trans E189) Ih67 Rh67
                    · refine zwW_p [(1, 0, 2)] (q := 108) (ls' := [(2, 37), (0, lL54)]) (st' := [(2, 37)]) (by decide +kernel) rfl ?_
                      refine zwW_gc IhL54 (kd := 13) (bn := 91) (n := 97) (c := 205) (nx := 111) (by decide +kernel) ?_
                      refine zwW_p [(1, 0, 2)] (q := 112) (ls' := [(2, 37), (0, lL54)]) (st' := [(2, 37), (2, 205)]) (by decide +kernel) rfl ?_
                      refine zwW_gs IhL54 (kd := 13) (bn := 0) (n := 97) (t := 0) (lo := 0) (hi := 156) (nx := 115) (by decide +kernel) ?_
                      intro v78 ev78 lv78 uv78
                      have sv78 : v78 = ((yMk5 q (yM h))) 37 0 := Eq.trans ev78 (Eq.trans (Eq.symm (yM_s (h := hL54) (i := 0) rfl)) (Eq.trans (congrFun (congrFun (iL54_1) 37) 0) (Eq.trans (zs_na (by decide) : (zs (zs ((yMk5 q (yM h))) 206 (6 * ((yMk5 q (yM h)) 37 0).toNat) (ySmCA (yMk5 q (yM h)))) 206 (6 * ((yMk5 q (yM h)) 37 0).toNat + 2) (ySmL (yMk5 q (yM h)) (lL54).toNat)) 37 0 = (zs ((yMk5 q (yM h))) 206 (6 * ((yMk5 q (yM h)) 37 0).toNat) (ySmCA (yMk5 q (yM h)))) 37 0) (Eq.trans (zs_na (by decide) : (zs ((yMk5 q (yM h))) 206 (6 * ((yMk5 q (yM h)) 37 0).toNat) (ySmCA (yMk5 q (yM h)))) 37 0 = ((yMk5 q (yM h))) 37 0) rfl))))
                      refine zwW_ro IhL54 (a := 205) (n := 156) (kd := 26) (base := 206) (step := 1) (nx := 116) (by decide +kernel) rfl (by first | omega | exact ⟨by omega, by omega⟩) ?_
                      rw [show ((206 : Nat) : Int) + ((1 : Nat) : Int) * v78 = (206 + v78) by omega]
                      refine zwW_p [(0, 2, 0), (14, 0, 0)] (q := 118) (ls' := [(2, 37), (0, lL54)]) (st' := [(0, 2), (2, (206 + v78)), (0, 2), (2, (206 + v78))]) (by decide +kernel) rfl ?_
                      refine zwW_al IhL54 (a1 := 206) (a2 := 361) (kd := 20) (n := 6) (t := 0) (lo := -2147483648) (hi := 2147483647) (nx := 119) (by decide +kernel) (by first | omega | exact ⟨by omega, by omega⟩) (by first | decide | exact ⟨by decide, by decide⟩) ?_
                      intro v79 ev79 lv79 uv79
                      have sv79 : v79 = (zs (zs ((yMk5 q (yM h))) 206 (6 * ((yMk5 q (yM h)) 37 0).toNat) (ySmCA (yMk5 q (yM h)))) 206 (6 * ((yMk5 q (yM h)) 37 0).toNat + 2) (ySmL (yMk5 q (yM h)) (lL54).toNat)) 206 (6 * v78.toNat + 2) := Eq.trans (show v79 = yM hL54 206 (6 * v78.toNat + 2) by rw [yM_2 (a := 206) (w := 6) (v := v78.toNat) (j := 2) rfl (by omega) (by show _ < 936; omega), ev79]; congr 1; omega) (Eq.trans (congrFun (congrFun (iL54_1) 206) (6 * v78.toNat + 2)) rfl)
                      refine zwW_p [(1, 0, 2)] (q := 120) (ls' := [(2, 37), (0, lL54)]) (st' := [(2, 37), (0, v79), (0, 2), (2, (206 + v78))]) (by decide +kernel) rfl ?_
                      refine zwW_gc IhL54 (kd := 13) (bn := 63) (n := 97) (c := 175) (nx := 123) (by decide +kernel) ?_
                      refine zwW_p [(1, 1, 0)] (q := 124) (ls' := [(2, 37), (0, lL54)]) (st' := [(0, lL54), (2, 175), (0, v79), (0, 2), (2, (206 + v78))]) (by decide +kernel) rfl ?_
                      have ib9 : 0 ≤ lL54 ∧ lL54 < ((300 : Nat) : Int) := (by first | omega | exact ⟨by omega, by omega⟩)
                      refine zwW_al IhL54 (a1 := 175) (a2 := 175) (kd := 20) (n := 300) (t := 0) (lo := -2147483648) (hi := 2147483647) (nx := 125) (by decide +kernel) (by first | decide | exact ⟨by decide, by decide⟩) ib9 ?_
                      intro v80 ev80 lv80 uv80
                      have sv80 : v80 = ((yMk5 q (yM h))) 175 lL54.toNat := Eq.trans ev80 (Eq.trans (Eq.symm (yM_p (h := hL54) (a := 175) (n := 300) (i := lL54.toNat) rfl (zit ib9))) (Eq.trans (congrFun (congrFun (iL54_1) 175) lL54.toNat) (Eq.trans (zs_na (by decide) : (zs (zs ((yMk5 q (yM h))) 206 (6 * ((yMk5 q (yM h)) 37 0).toNat) (ySmCA (yMk5 q (yM h)))) 206 (6 * ((yMk5 q (yM h)) 37 0).toNat + 2) (ySmL (yMk5 q (yM h)) (lL54).toNat)) 175 lL54.toNat = (zs ((yMk5 q (yM h))) 206 (6 * ((yMk5 q (yM h)) 37 0).toNat) (ySmCA (yMk5 q (yM h)))) 175 lL54.toNat) (Eq.trans (zs_na (by decide) : (zs ((yMk5 q (yM h))) 206 (6 * ((yMk5 q (yM h)) 37 0).toNat) (ySmCA (yMk5 q (yM h)))) 175 lL54.toNat = ((yMk5 q (yM h))) 175 lL54.toNat) rfl))))
                      refine zwW_adw (nx := 126) (by decide +kernel) ?_
                      intro v81 ev81 lv81 uv81
                      have Ev81 : v81 = w32 (((zs (zs ((yMk5 q (yM h))) 206 (6 * ((yMk5 q (yM h)) 37 0).toNat) (ySmCA (yMk5 q (yM h)))) 206 (6 * ((yMk5 q (yM h)) 37 0).toNat + 2) (ySmL (yMk5 q (yM h)) (lL54).toNat)) 206 (6 * v78.toNat + 2)) + (((yMk5 q (yM h))) 175 lL54.toNat)) := by rw [ev81, sv79, sv80]
                      refine zwW_as IhL54 (a1 := 206) (a2 := 361) (n := 6) (lo := -2147483648) (hi := 2147483647) (nx := 127) (by decide +kernel) (by first | omega | exact ⟨by omega, by omega⟩) (by first | decide | exact ⟨by decide, by decide⟩) (by first | omega | exact ⟨by omega, by omega⟩) ?_
                      intro h82 eh82 Ih82
                      have rbh82 : ((206 : Nat) : Int) ≤ (206 + v78) ∧ (206 + v78) ≤ ((361 : Nat) : Int) := (by first | omega | exact ⟨by omega, by omega⟩)
                      have th82_37_0 : fld h82 37 0 = fld hL54 37 0 := by rw [eh82]; exact fld_wr (Or.inl (zne_l (by decide) rbh82.1))
                      have th82_37_2 : fld h82 37 2 = fld hL54 37 2 := by rw [eh82]; exact fld_wr (Or.inl (zne_l (by decide) rbh82.1))
                      have Zh82 : yM h82 = (zs (zs (zs ((yMk5 q (yM h))) 206 (6 * ((yMk5 q (yM h)) 37 0).toNat) (ySmCA (yMk5 q (yM h)))) 206 (6 * ((yMk5 q (yM h)) 37 0).toNat + 2) (ySmL (yMk5 q (yM h)) (lL54).toNat)) 206 (6 * v78.toNat + 2) (w32 (((zs (zs ((yMk5 q (yM h))) 206 (6 * ((yMk5 q (yM h)) 37 0).toNat) (ySmCA (yMk5 q (yM h)))) 206 (6 * ((yMk5 q (yM h)) 37 0).toNat + 2) (ySmL (yMk5 q (yM h)) (lL54).toNat)) 206 (6 * v78.toNat + 2)) + (((yMk5 q (yM h))) 175 lL54.toNat)))) := by rw [yM_w2 (a := 206) (w := 6) (v := v78.toNat) (j := 2) (m := 6) (kd := 20) rfl (by omega) (IhL54.s (a1 := 206) (a2 := 361) (by decide +kernel) (by omega) (by omega)) (by omega) (by omega) (by show _ < 936; omega) eh82, (iL54_1), Ev81]
                      have Rh82 : zMR ms114 h h82 := RhL54.w (a1 := 206) (a2 := 361) (j1 := 0) (j2 := 6) (by decide +kernel) rbh82 (by first | decide | exact ⟨by decide, by decide⟩) eh82
                      refine zwW_inc (i := 1) (c := 1) (x := lL54) (nx := 130) (by decide +kernel) rfl (by first | omega | exact ⟨by omega, by omega⟩) (ls' := [(2, 37), (0, (lL54 + 1))]) rfl ?_
                      refine zwW_p [(24, 99, 0)] (q := 99) (ls' := [(2, 37), (0, (lL54 + 1))]) (st' := []) (by decide +kernel) rfl ?_
                      exact IHL54 ((1000 - (lL54 + 1))).toNat (by omega) (lL54 + 1) h82 rfl (by omega) (Zh82.trans (zs_acc (by omega) (by rw [show (lL54 + 1).toNat = (lL54).toNat + 1 by omega]; exact ySmL_s))) Ih82 Rh82
                exact L54 _ 0 hL51 rfl (by omega) ((iL51_1).trans (by rw [show (vL51).toNat = ((yMk5 q (yM h)) 37 1).toNat by omega]; exact (zs_self ((zs_ni (by omega)).trans (yMk5_z ZR (Or.inr (by rw [M0]))))).symm)) IhL51 RhL51
              · refine zwW_p [(1, 0, 2)] (q := 72) (ls' := [(2, 37), (0, vL51)]) (st' := [(2, 37)]) (by decide +kernel) rfl ?_
                refine zwW_gc IhL51 (kd := 13) (bn := 91) (n := 97) (c := 205) (nx := 75) (by decide +kernel) ?_
                refine zwW_p [(1, 0, 2)] (q := 76) (ls' := [(2, 37), (0, vL51)]) (st' := [(2, 37), (2, 205)]) (by decide +kernel) rfl ?_
                refine zwW_gs IhL51 (kd := 13) (bn := 0) (n := 97) (t := 0) (lo := 0) (hi := 156) (nx := 79) (by decide +kernel) ?_
                intro v83 ev83 lv83 uv83
                have sv83 : v83 = ((yMk5 q (yM h))) 37 0 := Eq.trans ev83 (Eq.trans (Eq.symm (yM_s (h := hL51) (i := 0) rfl)) (Eq.trans (congrFun (congrFun (iL51_1) 37) 0) (Eq.trans (zs_na (by decide) : (zs ((yMk5 q (yM h))) 206 (6 * ((yMk5 q (yM h)) 37 0).toNat) (ySmC (yMk5 q (yM h)) (vL51).toNat)) 37 0 = ((yMk5 q (yM h))) 37 0) rfl)))
                refine zwW_ro IhL51 (a := 205) (n := 156) (kd := 26) (base := 206) (step := 1) (nx := 80) (by decide +kernel) rfl (by first | omega | exact ⟨by omega, by omega⟩) ?_
                rw [show ((206 : Nat) : Int) + ((1 : Nat) : Int) * v83 = (206 + v83) by omega]
                refine zwW_p [(0, 0, 0), (14, 0, 0)] (q := 82) (ls' := [(2, 37), (0, vL51)]) (st' := [(0, 0), (2, (206 + v83)), (0, 0), (2, (206 + v83))]) (by decide +kernel) rfl ?_
                refine zwW_al IhL51 (a1 := 206) (a2 := 361) (kd := 20) (n := 6) (t := 0) (lo := -2147483648) (hi := 2147483647) (nx := 83) (by decide +kernel) (by first | omega | exact ⟨by omega, by omega⟩) (by first | decide | exact ⟨by decide, by decide⟩) ?_
                intro v84 ev84 lv84 uv84
                have sv84 : v84 = (zs ((yMk5 q (yM h))) 206 (6 * ((yMk5 q (yM h)) 37 0).toNat) (ySmC (yMk5 q (yM h)) (vL51).toNat)) 206 (6 * v83.toNat + 0) := Eq.trans (show v84 = yM hL51 206 (6 * v83.toNat + 0) by rw [yM_2 (a := 206) (w := 6) (v := v83.toNat) (j := 0) rfl (by omega) (by show _ < 936; omega), ev84]; congr 1; omega) (Eq.trans (congrFun (congrFun (iL51_1) 206) (6 * v83.toNat + 0)) rfl)
                refine zwW_p [(1, 0, 2)] (q := 84) (ls' := [(2, 37), (0, vL51)]) (st' := [(2, 37), (0, v84), (0, 0), (2, (206 + v83))]) (by decide +kernel) rfl ?_
                refine zwW_gc IhL51 (kd := 13) (bn := 7) (n := 97) (c := 66) (nx := 87) (by decide +kernel) ?_
                refine zwW_p [(1, 1, 0)] (q := 88) (ls' := [(2, 37), (0, vL51)]) (st' := [(0, vL51), (2, 66), (0, v84), (0, 0), (2, (206 + v83))]) (by decide +kernel) rfl ?_
                have ib10 : 0 ≤ vL51 ∧ vL51 < ((8 : Nat) : Int) := (by first | omega | exact ⟨by omega, by omega⟩)
                refine zwW_al IhL51 (a1 := 66) (a2 := 66) (kd := 20) (n := 8) (t := 0) (lo := -2147483648) (hi := 2147483647) (nx := 89) (by decide +kernel) (by first | decide | exact ⟨by decide, by decide⟩) ib10 ?_
                intro v85 ev85 lv85 uv85
                have sv85 : v85 = ((yMk5 q (yM h))) 66 vL51.toNat := Eq.trans ev85 (Eq.trans (Eq.symm (yM_p (h := hL51) (a := 66) (n := 8) (i := vL51.toNat) rfl (zit ib10))) (Eq.trans (congrFun (congrFun (iL51_1) 66) vL51.toNat) (Eq.trans (zs_na (by decide) : (zs ((yMk5 q (yM h))) 206 (6 * ((yMk5 q (yM h)) 37 0).toNat) (ySmC (yMk5 q (yM h)) (vL51).toNat)) 66 vL51.toNat = ((yMk5 q (yM h))) 66 vL51.toNat) rfl)))
                refine zwW_adw (nx := 90) (by decide +kernel) ?_
                intro v86 ev86 lv86 uv86
                have Ev86 : v86 = w32 (((zs ((yMk5 q (yM h))) 206 (6 * ((yMk5 q (yM h)) 37 0).toNat) (ySmC (yMk5 q (yM h)) (vL51).toNat)) 206 (6 * v83.toNat + 0)) + (((yMk5 q (yM h))) 66 vL51.toNat)) := by rw [ev86, sv84, sv85]
                refine zwW_as IhL51 (a1 := 206) (a2 := 361) (n := 6) (lo := -2147483648) (hi := 2147483647) (nx := 91) (by decide +kernel) (by first | omega | exact ⟨by omega, by omega⟩) (by first | decide | exact ⟨by decide, by decide⟩) (by first | omega | exact ⟨by omega, by omega⟩) ?_
                intro h87 eh87 Ih87
                have rbh87 : ((206 : Nat) : Int) ≤ (206 + v83) ∧ (206 + v83) ≤ ((361 : Nat) : Int) := (by first | omega | exact ⟨by omega, by omega⟩)
                have th87_37_0 : fld h87 37 0 = fld hL51 37 0 := by rw [eh87]; exact fld_wr (Or.inl (zne_l (by decide) rbh87.1))
                have th87_37_2 : fld h87 37 2 = fld hL51 37 2 := by rw [eh87]; exact fld_wr (Or.inl (zne_l (by decide) rbh87.1))
                have Zh87 : yM h87 = (zs (zs ((yMk5 q (yM h))) 206 (6 * ((yMk5 q (yM h)) 37 0).toNat) (ySmC (yMk5 q (yM h)) (vL51).toNat)) 206 (6 * v83.toNat + 0) (w32 (((zs ((yMk5 q (yM h))) 206 (6 * ((yMk5 q (yM h)) 37 0).toNat) (ySmC (yMk5 q (yM h)) (vL51).toNat)) 206 (6 * v83.toNat + 0)) + (((yMk5 q (yM h))) 66 vL51.toNat)))) := by rw [yM_w2 (a := 206) (w := 6) (v := v83.toNat) (j := 0) (m := 6) (kd := 20) rfl (by omega) (IhL51.s (a1 := 206) (a2 := 361) (by decide +kernel) (by omega) (by omega)) (by omega) (by omega) (by show _ < 936; omega) eh87, (iL51_1), Ev86]
                have Rh87 : zMR ms114 h h87 := RhL51.w (a1 := 206) (a2 := 361) (j1 := 0) (j2 := 6) (by decide +kernel) rbh87 (by first | decide | exact ⟨by decide, by decide⟩) eh87
                refine zwW_inc (i := 1) (c := 1) (x := vL51) (nx := 94) (by decide +kernel) rfl (by first | omega | exact ⟨by omega, by omega⟩) (ls' := [(2, 37), (0, (vL51 + 1))]) rfl ?_
                refine zwW_p [(24, 63, 0)] (q := 63) (ls' := [(2, 37), (0, (vL51 + 1))]) (st' := []) (by decide +kernel) rfl ?_
                exact IHL51 ((100 - (vL51 + 1))).toNat (by omega) (vL51 + 1) h87 rfl (by omega) (Zh87.trans (zs_acc (by omega) (by rw [show (vL51 + 1).toNat = (vL51).toNat + 1 by omega]; exact ySmC_s))) Ih87 Rh87
          exact L51 _ 0 h50 rfl (by omega) ((show yM h50 = (yMk5 q (yM h)) from Zh50).trans (zs_self (yMk5_z ZR (Or.inl (by rw [M0])))).symm) Ih50 Rh50
      · refine zwW_p [(1, 0, 2)] (q := 15) (ls' := [(2, 37), (0, kL3)]) (st' := [(2, 37)]) (by decide +kernel) rfl ?_
        refine zwW_gs IhL3 (kd := 13) (bn := 0) (n := 97) (t := 0) (lo := 0) (hi := 156) (nx := 18) (by decide +kernel) ?_
        intro v88 ev88 lv88 uv88
        have sv88 : v88 = (yBys q (yLyM (yM h)) (kL3).toNat) 37 0 := Eq.trans ev88 (Eq.trans (Eq.symm (yM_s (h := hL3) (i := 0) rfl)) (Eq.trans (congrFun (congrFun iL3_2 37) 0) rfl))
        refine zwW_p [(1, 0, 2)] (q := 19) (ls' := [(2, 37), (0, kL3)]) (st' := [(2, 37), (0, v88)]) (by decide +kernel) rfl ?_
        refine zwW_gc IhL3 (kd := 13) (bn := 24) (n := 97) (c := 83) (nx := 22) (by decide +kernel) ?_
        refine zwW_p [(1, 1, 0)] (q := 23) (ls' := [(2, 37), (0, kL3)]) (st' := [(0, kL3), (2, 83), (0, v88)]) (by decide +kernel) rfl ?_
        have ib11 : 0 ≤ kL3 ∧ kL3 < ((20 : Nat) : Int) := (by first | omega | exact ⟨by omega, by omega⟩)
        refine zwW_al IhL3 (a1 := 83) (a2 := 83) (kd := 20) (n := 20) (t := 0) (lo := 0) (hi := 9) (nx := 24) (by decide +kernel) (by first | decide | exact ⟨by decide, by decide⟩) ib11 ?_
        intro v89 ev89 lv89 uv89
        have sv89 : v89 = (yBys q (yLyM (yM h)) (kL3).toNat) 83 kL3.toNat := Eq.trans ev89 (Eq.trans (Eq.symm (yM_p (h := hL3) (a := 83) (n := 20) (i := kL3.toNat) rfl (zit ib11))) (Eq.trans (congrFun (congrFun iL3_2 83) kL3.toNat) rfl))
        refine zwW_add (nx := 25) (by decide +kernel) (by first | omega | exact ⟨by omega, by omega⟩) ?_
        refine zwW_p [(0, 4, 0)] (q := 26) (ls' := [(2, 37), (0, kL3)]) (st' := [(0, 4), (0, (v88 + v89))]) (by decide +kernel) rfl ?_
        refine zwW_rem (nx := 27) (by decide +kernel) (by omega) (by omega) ?_
        refine zwif_ne (q := 35) (nx := 30) (by decide +kernel) (fun c90 => ?_) (fun c90 => ?_)
        · refine zwW_inc (i := 1) (c := 1) (x := kL3) (nx := 38) (by decide +kernel) rfl (by first | omega | exact ⟨by omega, by omega⟩) (ls' := [(2, 37), (0, (kL3 + 1))]) rfl ?_
          refine zwW_p [(24, 6, 0)] (q := 6) (ls' := [(2, 37), (0, (kL3 + 1))]) (st' := []) (by decide +kernel) rfl ?_
          exact IHL3 ((100 - (kL3 + 1))).toNat (by omega) (kL3 + 1) hL3 rfl (iL3_0) (by omega) (by rw [show (kL3 + 1).toNat = (kL3).toNat + 1 by omega, yBys_s]; first | (rw [if_neg (by omega)]; exact iL3_2) | (rw [if_pos (by omega)]; exact iL3_2)) IhL3 RhL3
        · refine zwW_p [(1, 0, 2), (1, 1, 0)] (q := 32) (ls' := [(2, 37), (0, kL3)]) (st' := [(0, kL3), (2, 37)]) (by decide +kernel) rfl ?_
          refine zwW_cmv IhL3 (op := 60) (k' := 195) (n := 1) (kd := 13) (m := 97) (nx := 35) (r := 37) (tl := [(0, kL3)]) (st' := []) (by decide +kernel) rfl (by decide +kernel) rfl (m195_z hL3 IhL3 kL3 q (by omega) (by omega) (by omega) iL3_0 (by rw [iL3_2]; exact OK1.bys _)) ?_
          rintro h92 ⟨Ih92, Qh92, f91⟩
          have Rh92 : zMR ms114 h h92 := RhL3.tr Qh92 (by decide +kernel)
          have Vh92 : mRq q h92 := iL3_0.fr Qh92 (by decide +kernel)
          have th92_37_0 : fld h92 37 0 = fld hL3 37 0 := Qh92.f (a1 := 37) (a2 := 37) (j1 := 0) (j2 := 1) (by decide +kernel) (by first | decide | exact ⟨by decide, by decide⟩) (by first | decide | exact ⟨by decide, by decide⟩)
          have th92_37_2 : fld h92 37 2 = fld hL3 37 2 := Qh92.f (a1 := 37) (a2 := 37) (j1 := 2) (j2 := 3) (by decide +kernel) (by first | decide | exact ⟨by decide, by decide⟩) (by first | decide | exact ⟨by decide, by decide⟩)
          have Zh92 : yM h92 = (yByh q (yBys q (yLyM (yM h)) (kL3).toNat) kL3.toNat) := by rw [f91, iL3_2]
          refine zwW_inc (i := 1) (c := 1) (x := kL3) (nx := 38) (by decide +kernel) rfl (by first | omega | exact ⟨by omega, by omega⟩) (ls' := [(2, 37), (0, (kL3 + 1))]) rfl ?_
          refine zwW_p [(24, 6, 0)] (q := 6) (ls' := [(2, 37), (0, (kL3 + 1))]) (st' := []) (by decide +kernel) rfl ?_
          exact IHL3 ((100 - (kL3 + 1))).toNat (by omega) (kL3 + 1) h92 rfl (Vh92) (by omega) (by rw [show (kL3 + 1).toNat = (kL3).toNat + 1 by omega, yBys_s]; first | (rw [if_neg (by omega)]; exact Zh92) | (rw [if_pos (by omega)]; exact Zh92)) Ih92 Rh92
  exact L3 _ 0 h2 rfl (Vh2) (by omega) (Zh2) Ih2 Rh2
end
section
/-! weeks, one behind the other -/
section YGN
variable {S T U : zT} {k n i j a : Nat} {x y z w : Int} {q : qT}
def yInv (S : zT) : Prop := yOK S ∧ zBs S ∧ zH65 S ∧ yZr S
theorem yOK.now (K : yOK S) (hx : 0 ≤ x ∧ x ≤ 156) : yOK (zs S 37 0 x) := by
  have t : ∀ a i, (a ≠ 37 ∨ i ≠ 0) → zs S 37 0 x a i = S a i := fun a i e => by rw [zs_if, if_neg (by omega)]
  obtain ⟨k1, k2, k3, k4⟩ := K
  refine ⟨?_, fun k hk => ?_, fun v hv => ?_, fun l hl => ?_⟩
  · rw [zs_eq, t 37 1 (by omega), t 37 2 (by omega), t 37 64 (by omega)]
    exact ⟨hx, k1.2⟩
  · rw [t 37 2 (by omega)] at hk
    rw [t 80 k (by omega), t 81 k (by omega), t 82 k (by omega), t 83 k (by omega), t 79 k (by omega), t 37 1 (by omega)]
    exact k2 k hk
  · rw [t 37 1 (by omega)] at hv
    rw [t 71 v (by omega)]
    refine ⟨(k3 v hv).1, fun s hs => ?_⟩
    rw [t 39 _ (by omega)]
    exact (k3 v hv).2 s hs
  · rw [t 37 64 (by omega)] at hl
    rw [t 172 l (by omega), t 173 l (by omega), t 170 l (by omega), t 37 2 (by omega)]
    exact k4 l hl
theorem yBgA_n (e : a ≠ 57 ∧ a ≠ 92) : yBgA S a i = S a i := (yBg2_n e.2 _).trans (yBg1_n e.1 _)
theorem yClo_n {b c d : Int} (e : a ≠ 206 ∧ (a ≠ 37 ∨ i ≠ 71)) : yClo S n b c d a i = S a i := by
  unfold yClo
  rw [zs_if, if_neg (by omega), zs_na e.1, zs_na e.1, zs_na e.1, zs_na e.1, zs_na e.1, zs_na e.1]
theorem yClo_z {b c d : Int} (e : 6 * n + 6 ≤ j) : yClo S n b c d 206 j = S 206 j := by
  unfold yClo
  rw [zs_na (by decide), zs_ni (by omega), zs_ni (by omega), zs_ni (by omega), zs_ni (by omega), zs_ni (by omega), zs_ni (by omega)]
theorem yWkC_n (e : (a ≠ 206 ∧ a ≠ 57 ∧ a ≠ 92) ∧ (a ≠ 37 ∨ (i ≠ 71 ∧ i ≠ 0))) : yWkC q S a i = yWk5 q S a i := by
  unfold yWkC
  rw [yBgA_n e.1.2, zs_if, if_neg (by omega), yClo_n (by omega)]
theorem yWkC_0 : yWkC q S 37 0 = S 37 0 + 1 := by
  unfold yWkC
  rw [yBgA_n (by decide), zs_eq, yWk5_n (by omega)]
/-- what a week leaves as laying leaves it -/
theorem yWk5_ly (e : (a ≠ 67 ∧ a ≠ 76 ∧ a ≠ 73 ∧ a ≠ 68) ∧ (a ≠ 69 ∧ a ≠ 77 ∧ a ≠ 84 ∧ a ≠ 87) ∧ (a ≠ 88 ∧ a ≠ 86 ∧ a ≠ 72) ∧ (a ≠ 93 ∧ a ≠ 71 ∧ a ≠ 78) ∧ (a ≠ 37 ∨ i ≠ 38)) : yWk5 q S a i = yLyA S a i := by
  have e3 : yWk3 q S a i = yLyA S a i := (yWrA_n (by omega)).trans (yBys_n (by omega) _)
  unfold yWk5
  split
  · rw [ySea_n (by omega), e3]
  · exact e3
theorem zBs.lya (B : zBs S) : zBs (yLyA S) := B.lyn (by have := B.2.2.2.2.2; omega)
theorem zBs.as (B : zBs U) (t : ∀ a i, (a = 80 ∨ a = 81 ∨ a = 85 ∨ a = 79 ∨ a = 66 ∨ a = 39 ∨ (a = 37 ∧ (i = 1 ∨ i = 2 ∨ i = 64))) → T a i = U a i) (h0 : 0 ≤ T 37 0 ∧ T 37 0 ≤ 156) : zBs T := by
  obtain ⟨b1, b2, b3, b4, b5, b6⟩ := B
  have s1 := t 37 1 (by omega)
  have s2 := t 37 2 (by omega)
  have s3 := t 37 64 (by omega)
  refine ⟨fun k hk => ?_, fun v hv => ?_, by rw [s3]; exact b3, h0, by rw [s1]; exact b5, by rw [s2]; exact b6⟩
  · rw [t 80 k (by omega), t 81 k (by omega), t 85 k (by omega), t 79 k (by omega), s1]
    exact b1 k (by omega)
  · rw [t 66 v (by omega)]
    refine ⟨(b2 v (by omega)).1, fun s hs => ?_⟩
    rw [t 39 _ (by omega)]
    exact (b2 v (by omega)).2 s hs
theorem yOK.wk5 (K : yOK S) (B : zBs S) (H : zH65 S) : yOK (yWk5 q S) := by
  have k3 : yOK (yWk3 q S) := ((K.lya B H).bya (q := q)).wra
  unfold yWk5
  split
  · exact k3.sea
  · exact k3
theorem yInv.wk (V : yInv S) (h : S 37 0 < 156) : yInv (yWkC q S) := by
  obtain ⟨K, B, H, Z⟩ := V
  have s := K.s
  have e0 := yWk5_n (q := q) (S := S) (a := 37) (i := 0) (by omega)
  refine ⟨?_, ?_, fun v hv => ?_, fun j hj => ?_⟩
  · refine yOK.ag (S := zs (yWk5 q S) 37 0 (yWk5 q S 37 0 + 1)) ((K.wk5 B H).now (by rw [e0]; omega)) (fun a i e => ?_)
    by_cases c : a = 37 ∧ i = 0
    · rw [c.1, c.2, yWkC_0, zs_eq, e0]
    · rw [yWkC_n (by unfold yKt at e; omega), zs_if, if_neg c]
  · refine B.lya.as (fun a i e => ?_) (by rw [yWkC_0]; omega)
    rw [yWkC_n (by omega), yWk5_ly (by omega)]
  · rw [yWkC_n (by omega), yWk5_ly (by omega)] at hv
    rw [yWkC_n (by omega), yWk5_ly (by omega)]
    have e1 : yLyA S 37 1 = S 37 1 := yLyN_n (by omega) _
    have e2 : yLyA S 65 v = S 65 v := yLyN_n (by omega) _
    rw [e2]
    exact H v (by omega)
  · rw [yWkC_0] at hj
    unfold yWkC
    rw [yBgA_n (by decide), zs_na (by decide), yClo_z (by rw [e0]; omega), yWk5_n (by omega)]
    exact Z j (by omega)
def yGoN (q : qT) (S : zT) : Nat → zT
  | 0 => S
  | k + 1 => if yGoN q S k 37 0 < 156 then yWkC q (yGoN q S k) else yGoN q S k
theorem yGoN_s : yGoN q S (k + 1) = if yGoN q S k 37 0 < 156 then yWkC q (yGoN q S k) else yGoN q S k := rfl
theorem yInv.go (V : yInv S) : ∀ k : Nat, yInv (yGoN q S k)
  | 0 => V
  | k + 1 => by
    rw [yGoN_s]
    split
    · exact (V.go k).wk (by assumption)
    · exact V.go k
theorem yGoN_stop (h : 156 ≤ yGoN q S k 37 0) : ∀ d, yGoN q S (k + d) = yGoN q S k
  | 0 => rfl
  | d + 1 => by
    show (if yGoN q S (k + d) 37 0 < 156 then yWkC q (yGoN q S (k + d)) else yGoN q S (k + d)) = _
    rw [yGoN_stop h d, if_neg (by omega)]
theorem yGoN_e (h : k = n ∨ (k ≤ n ∧ 156 ≤ yGoN q S k 37 0)) : yGoN q S n = yGoN q S k := by
  rcases h with rfl | ⟨h1, h2⟩
  · rfl
  · rw [show n = k + (n - k) by omega]
    exact yGoN_stop h2 _
def yGoF (q : qT) (S : zT) (a : Int) : zT := if 0 ≤ a ∧ a ≤ 26 then yGoN q S a.toNat else S
def yGoA (q : qT) (S : zT) (a : Int) : Int := if 0 ≤ a ∧ a ≤ 26 then yGoN q S a.toNat 37 0 else -1
theorem yInv.gof {a : Int} (V : yInv S) : yInv (yGoF q S a) := by
  unfold yGoF
  split
  · exact V.go _
  · exact V
end YGN
end
section
/-! contracts of the class -/
def msx19_z : Zms := [(1, 1, 0, 1), (1, 1, 1, 2), (4, 4, 0, 3), (17, 17, 0, 13), (18, 18, 0, 400), (34, 34, 2, 3), (35, 35, 0, 936), (36, 36, 0, 8), (1004, 1004, 6, 7), (1004, 1004, 8, 9), (1004, 1004, 9, 10), (1004, 1004, 10, 11), (1004, 1004, 14, 15), (1004, 1004, 15, 16), (1004, 1004, 18, 19), (1011, 1011, 3, 4), (1011, 1011, 4, 5), (1011, 1011, 5, 6), (1011, 1011, 6, 7), (1011, 1011, 7, 8), (1011, 1011, 9, 10), (1011, 1011, 10, 11), (1011, 1011, 13, 14), (1011, 1011, 14, 15), (1011, 1011, 15, 16), (1020, 1020, 0, 100000)]
-- WheelLand.go(I)I
theorem x19_z {sc : List Int} (h : Hp) (C : CI h) (a : Int) (q : qT) (q_a : -2147483648 ≤ a ∧ a ≤ 2147483647) (J : yR h) (V : zRq q h) (K : yInv (yC h)) (W : zLw h) (PD : zPd h) (hl : h.length ≤ 999910000) : zwC sc 9 19 [(2, 1), (0, a)] h (zwRt 0 (fun x g => CI g ∧ zXR msx19_z (0) (0) h g ∧ (-2147483648 ≤ x ∧ x ≤ 2147483647) ∧ (zRq q g) ∧ (x = yGoA q (yC h) a) ∧ (yC g = yGoF q (yC h) a) ∧ (yR g))) := by
  refine zwC_of (D := 8) 3 (by decide +kernel) rfl (ls := [(2, 1), (0, a), (9, 0)]) rfl ?_
  have X : zXR msx19_z 0 0 h h := zXR.rf _ _
  have u0 : yC h 37 0 = fld h 1 0 := rfl
  have u1 : yC h 37 1 = fld h 2 2 := rfl
  have u2 : yC h 37 2 = fld h 3 2 := rfl
  have u64 : yC h 37 64 = fld h 4 2 := rfl
  have u78 : yC h 37 78 = fld h 5 2 := rfl
  refine zwW_p [(1, 1, 0), (0, 0, 0), (0, 26, 0)] (q := 4) (ls' := [(2, 1), (0, a), (9, 0)]) (st' := [(0, 26), (0, 0), (0, a)]) (by decide +kernel) rfl ?_
  refine zwW_cs (k' := 98) (n := 3) (nx := 7) (as := [(0, a), (0, 0), (0, 26)]) (st' := []) (by decide +kernel) rfl (x98 h C a 0 26 (by omega) (by omega) (by omega)) rfl ?_
  rintro x _ ⟨rfl, ⟨rfl, c1⟩ | ⟨rfl, c1⟩⟩
  · refine zwif_eq (q := 12) (nx := 10) (by decide +kernel) (fun c2 => ?_) (fun c2 => ?_)
    · exfalso; omega
    · refine zwW_p [(0, -1, 0)] (q := 11) (ls' := [(2, 1), (0, a), (9, 0)]) (st' := [(0, -1)]) (by decide +kernel) rfl ?_
      refine zwW_ret (nx := 12) (a := 0) (b := 0) (by decide +kernel) rfl (Or.inl rfl) ?_
      exact ⟨C, X.le (by decide) (by decide), by omega, by first | exact {i14_0} | exact V, by first | (unfold yGoA; rw [if_neg (by omega)]) | (unfold yGoA; rw [if_pos (by omega), yGoN_e (k := ({k}).toNat) (n := a.toNat) (by omega)]; omega), by first | (unfold yGoF; rw [if_neg (by omega)]) | (unfold yGoF; rw [if_pos (by omega), yGoN_e (k := ({k}).toNat) (n := a.toNat) (by omega)]; exact (rfl : yC h = yC h)), by exact J⟩
  · refine zwif_eq (q := 12) (nx := 10) (by decide +kernel) (fun c3 => ?_) (fun c3 => ?_)
    · refine zwW_p [(0, 0, 0), (2, 2, 0)] (q := 14) (ls' := [(2, 1), (0, a), (0, 0)]) (st' := []) (by decide +kernel) rfl ?_
      have L4 : ∀ (n0 : Nat) (kL4 : Int) (hL4 : Hp), n0 = ((1000 - kL4)).toNat → (zRq q hL4) → (zLw hL4) → (zPd hL4) → (kL4 ≤ a) → (0 ≤ kL4 ∧ kL4 ≤ 26) → (yC hL4 = (yGoN q (yC h) (kL4).toNat)) → (yR hL4) → CI hL4 → zXR msx19_z (0) (0) h hL4 → zwW sc (8) 19 14 [(2, 1), (0, a), (0, kL4)] [] hL4 (zwRt 0 (fun x g => CI g ∧ zXR msx19_z (0) (0) h g ∧ (-2147483648 ≤ x ∧ x ≤ 2147483647) ∧ (zRq q g) ∧ (x = yGoA q (yC h) a) ∧ (yC g = yGoF q (yC h) a) ∧ (yR g))) := by
        intro n0
        induction n0 using Nat.strongRecOn with
        | ind n0 IHL4 =>
          intro kL4 hL4 hnL4 iL4_0 iL4_1 iL4_2 iL4_3 iL4_4 iL4_5 iL4_6 ChL4 XhL4
          refine zwW_p [(1, 2, 0), (1, 1, 0)] (q := 16) (ls' := [(2, 1), (0, a), (0, kL4)]) (st' := [(0, a), (0, kL4)]) (by decide +kernel) rfl ?_
          refine zwic_ge (q := 39) (nx := 19) (by decide +kernel) (fun c5 => ?_) (fun c5 => ?_)
          · refine zwW_p [(1, 0, 2)] (q := 40) (ls' := [(2, 1), (0, a), (0, kL4)]) (st' := [(2, 1)]) (by decide +kernel) rfl ?_
            refine zwW_gs ChL4.1 (kd := 12) (bn := 0) (n := 13) (t := 0) (lo := 0) (hi := 156) (nx := 43) (by decide +kernel) ?_
            intro v6 ev6 lv6 uv6
            have sv6 : v6 = (yGoN q (yC h) (kL4).toNat) 37 0 := Eq.trans ev6 (Eq.trans (Eq.symm (yC_s (h := hL4) (i := 0) rfl)) (Eq.trans (congrFun (congrFun iL4_5 37) 0) rfl))
            refine zwW_ret (nx := 44) (a := 0) (b := 0) (by decide +kernel) rfl (Or.inl rfl) ?_
            exact ⟨ChL4, XhL4.le (by decide) (by decide), by omega, by first | exact iL4_0 | exact V, by first | (unfold yGoA; rw [if_neg (by omega)]) | (unfold yGoA; rw [if_pos (by omega), yGoN_e (k := (kL4).toNat) (n := a.toNat) (by omega)]; omega), by first | (unfold yGoF; rw [if_neg (by omega)]) | (unfold yGoF; rw [if_pos (by omega), yGoN_e (k := (kL4).toNat) (n := a.toNat) (by omega)]; exact iL4_5), by exact iL4_6⟩
          · refine zwW_p [(1, 0, 2)] (q := 20) (ls' := [(2, 1), (0, a), (0, kL4)]) (st' := [(2, 1)]) (by decide +kernel) rfl ?_
            refine zwW_gs ChL4.1 (kd := 12) (bn := 0) (n := 13) (t := 0) (lo := 0) (hi := 156) (nx := 23) (by decide +kernel) ?_
            intro v7 ev7 lv7 uv7
            have sv7 : v7 = (yGoN q (yC h) (kL4).toNat) 37 0 := Eq.trans ev7 (Eq.trans (Eq.symm (yC_s (h := hL4) (i := 0) rfl)) (Eq.trans (congrFun (congrFun iL4_5 37) 0) rfl))
            refine zwW_p [(0, 156, 0)] (q := 26) (ls' := [(2, 1), (0, a), (0, kL4)]) (st' := [(0, 156), (0, v7)]) (by decide +kernel) rfl ?_
            refine zwic_ge (q := 39) (nx := 29) (by decide +kernel) (fun c8 => ?_) (fun c8 => ?_)
            · refine zwW_p [(1, 0, 2)] (q := 40) (ls' := [(2, 1), (0, a), (0, kL4)]) (st' := [(2, 1)]) (by decide +kernel) rfl ?_
              refine zwW_gs ChL4.1 (kd := 12) (bn := 0) (n := 13) (t := 0) (lo := 0) (hi := 156) (nx := 43) (by decide +kernel) ?_
              intro v9 ev9 lv9 uv9
              have sv9 : v9 = (yGoN q (yC h) (kL4).toNat) 37 0 := Eq.trans ev9 (Eq.trans (Eq.symm (yC_s (h := hL4) (i := 0) rfl)) (Eq.trans (congrFun (congrFun iL4_5 37) 0) rfl))
              refine zwW_ret (nx := 44) (a := 0) (b := 0) (by decide +kernel) rfl (Or.inl rfl) ?_
              exact ⟨ChL4, XhL4.le (by decide) (by decide), by omega, by first | exact iL4_0 | exact V, by first | (unfold yGoA; rw [if_neg (by omega)]) | (unfold yGoA; rw [if_pos (by omega), yGoN_e (k := (kL4).toNat) (n := a.toNat) (by omega)]; omega), by first | (unfold yGoF; rw [if_neg (by omega)]) | (unfold yGoF; rw [if_pos (by omega), yGoN_e (k := (kL4).toNat) (n := a.toNat) (by omega)]; exact iL4_5), by exact iL4_6⟩
            · refine zwW_p [(1, 0, 2)] (q := 30) (ls' := [(2, 1), (0, a), (0, kL4)]) (st' := [(2, 1)]) (by decide +kernel) rfl ?_
              refine zwW_cmv ChL4.1 (op := 60) (k' := 113) (n := 0) (kd := 12) (m := 13) (nx := 33) (r := 1) (tl := []) (st' := []) (by decide +kernel) rfl (by decide +kernel) rfl (x113_z hL4 ChL4 q iL4_6 iL4_0 (by rw [iL4_5]; exact (K.go _).1) (by rw [iL4_5]; exact (K.go _).2.1) (by rw [iL4_5]; exact (K.go _).2.2.1) iL4_1 iL4_2 (by omega) (by have := XhL4.hl C ChL4 (by decide) hl; omega)) ?_
              rintro h14 ⟨Ch14, Qh14, f10, f11, f12, f13⟩
              have Zh14 : yC h14 = (yWkC q (yGoN q (yC h) (kL4).toNat)) := by rw [f12, iL4_5]
              have Xh14 : zXR msx19_z (0) (0) h h14 := XhL4.tr (c2 := 0) (s2 := 0) Qh14 (by decide +kernel) (by decide) (by decide)
              have Wh14 : zLw h14 := iL4_1.fr Qh14 (by decide +kernel)
              have PDh14 : zPd h14 := iL4_2.fr ChL4 Qh14 (by decide +kernel)
              have VN : zRq q h14 := f11
              refine zwW_inc (i := 2) (c := 1) (x := kL4) (nx := 36) (by decide +kernel) rfl (by first | omega | exact ⟨by omega, by omega⟩) (ls' := [(2, 1), (0, a), (0, (kL4 + 1))]) rfl ?_
              refine zwW_p [(24, 14, 0)] (q := 14) (ls' := [(2, 1), (0, a), (0, (kL4 + 1))]) (st' := []) (by decide +kernel) rfl ?_
              exact IHL4 ((1000 - (kL4 + 1))).toNat (by omega) (kL4 + 1) h14 rfl (VN) (Wh14) (PDh14) (by omega) (by omega) (by rw [show (kL4 + 1).toNat = (kL4).toNat + 1 by omega, yGoN_s, if_pos (by omega)]; exact Zh14) (f13) Ch14 (Xh14.le (by decide) (by decide))
      exact L4 _ 0 h rfl (V) (W) (PD) (by omega) (by omega) ((rfl : yC h = yC h)) (J) C (X.le (by decide) (by decide))
    · exfalso; omega
end
section
/-! contracts of methods -/
-- WheelLandModel.go(I)I
theorem m20_z {sc : List Int} (h : Hp) (I : zI h) (a : Int) (q : qT) (hA : zAM h) (V : mRq q h) (K : yInv (yM h)) : zwC sc 9 20 [(2, 37), (0, a)] h (zwRt 0 (fun x g => zI g ∧ zMR ms20 h g ∧ (-2147483648 ≤ x ∧ x ≤ 2147483647) ∧ (x = yGoA q (yM h) a) ∧ (yM g = yGoF q (yM h) a))) := by
  refine zwC_of (D := 8) 3 (by decide +kernel) rfl (ls := [(2, 37), (0, a), (9, 0)]) rfl ?_
  have R : zMR ms20 h h := zMR.rf _ _
  have u0 : yM h 37 0 = fld h 37 0 := rfl
  have u1 : yM h 37 1 = fld h 37 1 := rfl
  have u2 : yM h 37 2 = fld h 37 2 := rfl
  have u64 : yM h 37 64 = fld h 37 64 := rfl
  have u78 : yM h 37 78 = fld h 37 78 := rfl
  have B0 := I.b (a1 := 37) (a2 := 37) (j1 := 2) (j2 := 3) (lo := 0) (hi := 20) (by decide +kernel) (r := 37) (j := 2) (by decide) (by decide) (by decide) (by decide)
  refine zwW_p [(1, 1, 0), (7, 0, 0), (0, 0, 1), (0, 26, 1)] (q := 6) (ls' := [(2, 37), (0, a), (9, 0)]) (st' := [(1, 26), (1, 0), (1, a)]) (by decide +kernel) rfl ?_
  refine zwW_cs (k' := 101) (n := 3) (nx := 9) (as := [(1, a), (1, 0), (1, 26)]) (st' := []) (by decide +kernel) rfl (m101 h a 0 26) rfl ?_
  rintro x _ ⟨rfl, ⟨rfl, c1⟩ | ⟨rfl, c1⟩⟩
  · refine zwif_ne (q := 14) (nx := 12) (by decide +kernel) (fun c2 => ?_) (fun c2 => ?_)
    · refine zwW_p [(0, 0, 0), (2, 2, 0)] (q := 16) (ls' := [(2, 37), (0, a), (0, 0)]) (st' := []) (by decide +kernel) rfl ?_
      have L3 : ∀ (n0 : Nat) (kL3 : Int) (hL3 : Hp), n0 = ((1000 - kL3)).toNat → (mRq q hL3) → (0 ≤ kL3 ∧ kL3 ≤ a) → (yM hL3 = (yGoN q (yM h) (kL3).toNat)) → zI hL3 → zMR ms20 h hL3 → zwW sc (8) 20 16 [(2, 37), (0, a), (0, kL3)] [] hL3 (zwRt 0 (fun x g => zI g ∧ zMR ms20 h g ∧ (-2147483648 ≤ x ∧ x ≤ 2147483647) ∧ (x = yGoA q (yM h) a) ∧ (yM g = yGoF q (yM h) a))) := by
        intro n0
        induction n0 using Nat.strongRecOn with
        | ind n0 IHL3 =>
          intro kL3 hL3 hnL3 iL3_0 iL3_1 iL3_2 IhL3 RhL3
          refine zwW_p [(1, 2, 0), (1, 1, 0)] (q := 18) (ls' := [(2, 37), (0, a), (0, kL3)]) (st' := [(0, a), (0, kL3)]) (by decide +kernel) rfl ?_
          refine zwic_ge (q := 41) (nx := 21) (by decide +kernel) (fun c4 => ?_) (fun c4 => ?_)
          · refine zwW_p [(1, 0, 2)] (q := 42) (ls' := [(2, 37), (0, a), (0, kL3)]) (st' := [(2, 37)]) (by decide +kernel) rfl ?_
            refine zwW_gs IhL3 (kd := 13) (bn := 0) (n := 97) (t := 0) (lo := 0) (hi := 156) (nx := 45) (by decide +kernel) ?_
            intro v5 ev5 lv5 uv5
            have sv5 : v5 = (yGoN q (yM h) (kL3).toNat) 37 0 := Eq.trans ev5 (Eq.trans (Eq.symm (yM_s (h := hL3) (i := 0) rfl)) (Eq.trans (congrFun (congrFun iL3_2 37) 0) rfl))
            refine zwW_ret (nx := 46) (a := 0) (b := 0) (by decide +kernel) rfl (Or.inl rfl) ?_
            exact ⟨IhL3, RhL3, by omega, by first | (unfold yGoA; rw [if_neg (by omega)]) | (unfold yGoA; rw [if_pos (by omega), yGoN_e (k := (kL3).toNat) (n := a.toNat) (by omega)]; omega), by first | (unfold yGoF; rw [if_neg (by omega)]) | (unfold yGoF; rw [if_pos (by omega), yGoN_e (k := (kL3).toNat) (n := a.toNat) (by omega)]; exact iL3_2)⟩
          · refine zwW_p [(1, 0, 2)] (q := 22) (ls' := [(2, 37), (0, a), (0, kL3)]) (st' := [(2, 37)]) (by decide +kernel) rfl ?_
            refine zwW_gs IhL3 (kd := 13) (bn := 0) (n := 97) (t := 0) (lo := 0) (hi := 156) (nx := 25) (by decide +kernel) ?_
            intro v6 ev6 lv6 uv6
            have sv6 : v6 = (yGoN q (yM h) (kL3).toNat) 37 0 := Eq.trans ev6 (Eq.trans (Eq.symm (yM_s (h := hL3) (i := 0) rfl)) (Eq.trans (congrFun (congrFun iL3_2 37) 0) rfl))
            refine zwW_p [(0, 156, 0)] (q := 28) (ls' := [(2, 37), (0, a), (0, kL3)]) (st' := [(0, 156), (0, v6)]) (by decide +kernel) rfl ?_
            refine zwic_ge (q := 41) (nx := 31) (by decide +kernel) (fun c7 => ?_) (fun c7 => ?_)
            · refine zwW_p [(1, 0, 2)] (q := 42) (ls' := [(2, 37), (0, a), (0, kL3)]) (st' := [(2, 37)]) (by decide +kernel) rfl ?_
              refine zwW_gs IhL3 (kd := 13) (bn := 0) (n := 97) (t := 0) (lo := 0) (hi := 156) (nx := 45) (by decide +kernel) ?_
              intro v8 ev8 lv8 uv8
              have sv8 : v8 = (yGoN q (yM h) (kL3).toNat) 37 0 := Eq.trans ev8 (Eq.trans (Eq.symm (yM_s (h := hL3) (i := 0) rfl)) (Eq.trans (congrFun (congrFun iL3_2 37) 0) rfl))
              refine zwW_ret (nx := 46) (a := 0) (b := 0) (by decide +kernel) rfl (Or.inl rfl) ?_
              exact ⟨IhL3, RhL3, by omega, by first | (unfold yGoA; rw [if_neg (by omega)]) | (unfold yGoA; rw [if_pos (by omega), yGoN_e (k := (kL3).toNat) (n := a.toNat) (by omega)]; omega), by first | (unfold yGoF; rw [if_neg (by omega)]) | (unfold yGoF; rw [if_pos (by omega), yGoN_e (k := (kL3).toNat) (n := a.toNat) (by omega)]; exact iL3_2)⟩
            · refine zwW_p [(1, 0, 2)] (q := 32) (ls' := [(2, 37), (0, a), (0, kL3)]) (st' := [(2, 37)]) (by decide +kernel) rfl ?_
              refine zwW_cmv IhL3 (op := 60) (k' := 114) (n := 0) (kd := 13) (m := 97) (nx := 35) (r := 37) (tl := []) (st' := []) (by decide +kernel) rfl (by decide +kernel) rfl (m114_z hL3 IhL3 q (by omega) (hA.mr RhL3 (by decide +kernel) (by omega)) iL3_0 (by rw [iL3_2]; exact (K.go _).1) (by rw [iL3_2]; exact (K.go _).2.1) (by rw [iL3_2]; exact (K.go _).2.2.1) (by rw [iL3_2]; exact (K.go _).2.2.2)) ?_
              rintro h11 ⟨Ih11, Qh11, f9, f10⟩
              have Rh11 : zMR ms20 h h11 := RhL3.tr Qh11 (by decide +kernel)
              have Vh11 : mRq q h11 := iL3_0.fr Qh11 (by decide +kernel)
              have Zh11 : yM h11 = (yWkM q (yGoN q (yM h) (kL3).toNat)) := by rw [f10, iL3_2]
              refine zwW_inc (i := 2) (c := 1) (x := kL3) (nx := 38) (by decide +kernel) rfl (by first | omega | exact ⟨by omega, by omega⟩) (ls' := [(2, 37), (0, a), (0, (kL3 + 1))]) rfl ?_
              refine zwW_p [(24, 16, 0)] (q := 16) (ls' := [(2, 37), (0, a), (0, (kL3 + 1))]) (st' := []) (by decide +kernel) rfl ?_
              exact IHL3 ((1000 - (kL3 + 1))).toNat (by omega) (kL3 + 1) h11 rfl (Vh11) (by omega) (by rw [show (kL3 + 1).toNat = (kL3).toNat + 1 by omega, yGoN_s, if_pos (by omega)]; exact Zh11.trans yWk_e) Ih11 Rh11
      exact L3 _ 0 h rfl (V) (by omega) ((rfl : yM h = yM h)) I R
    · exfalso; omega
  · refine zwif_ne (q := 14) (nx := 12) (by decide +kernel) (fun c12 => ?_) (fun c12 => ?_)
    · exfalso; omega
    · refine zwW_p [(0, -1, 0)] (q := 13) (ls' := [(2, 37), (0, a), (9, 0)]) (st' := [(0, -1)]) (by decide +kernel) rfl ?_
      refine zwW_ret (nx := 14) (a := 0) (b := 0) (by decide +kernel) rfl (Or.inl rfl) ?_
      exact ⟨I, R, by omega, by first | (unfold yGoA; rw [if_neg (by omega)]) | (unfold yGoA; rw [if_pos (by omega), yGoN_e (k := ({k}).toNat) (n := a.toNat) (by omega)]; omega), by first | (unfold yGoF; rw [if_neg (by omega)]) | (unfold yGoF; rw [if_pos (by omega), yGoN_e (k := ({k}).toNat) (n := a.toNat) (by omega)]; exact (rfl : yM h = yM h))⟩
end
section
/-! tables that stay where what they rest on stays -/
section YFR
variable {h h1 g : Hp} {ms ms' : Zms} {c s c' s' : Int} {a i k n : Nat} {x : Int}
/-- the lists and the objects stay -/
def yXo (ms : Zms) : Bool := (zun ms 2 && (zun ms 3 && (zun ms 4 && zun ms 5))) && (zqN ms 1011 1011 0 17 && (zqN ms 1004 1004 0 19 && (zqN ms 1006 1006 0 7 && (zqN ms 1001 1001 0 6 && zqN ms 1020 1020 0 157))))
/-- one place of a table, where what it rests on stays -/
theorem yC_z (C : CI h) (R : zXR ms c s h g) (e : yXo ms = true) (hS : a = 37 → ySc i = true → fld g ((ySr i).1 : Nat) (ySr i).2 = fld h ((ySr i).1 : Nat) (ySr i).2) (h7 : a = 48 → i < 64 → fld g 7 i = fld h 7 i) (h10 : a = 98 → i < 400 → fld g 10 i = fld h 10 i) (h1 : a = 57 → fld g 1 0 = fld h 1 0) (h13 : a = 164 → fld g 13 1 = fld h 13 1 ∧ fld g 15 = fld h 15) (h20 : a = 186 → zun ms 20 = true) (hX : yK a = 9 → i < ySz a → fld g ((yFx a : Nat) : Int) i = fld h ((yFx a : Nat) : Int) i) (h8 : yK a ≠ 8) : yC g a i = yC h a i := by
  unfold yXo at e
  simp only [Bool.and_eq_true] at e
  obtain ⟨⟨e2, e3, e4, e5⟩, o11, o4, o6, o1, o20⟩ := e
  have m2 : (2 : Nat) ∈ zLis := by decide
  have m3 : (3 : Nat) ∈ zLis := by decide
  have m4 : (4 : Nat) ∈ zLis := by decide
  have m5 : (5 : Nat) ∈ zLis := by decide
  have m20 : (20 : Nat) ∈ zLis := by decide
  have L : ∀ A : Nat, (A = 2 ∨ A = 3 ∨ A = 4 ∨ A = 5) → A ∈ zLis ∧ fld g A 2 = fld h A 2 ∧ ∀ i : Nat, (i : Int) < fld h A 2 → zv g A i = zv h A i := by
    intro A hA
    rcases hA with rfl | rfl | rfl | rfl
    · exact ⟨m2, R.vz m2 e2, fun i hi => R.v C m2 e2 hi⟩
    · exact ⟨m3, R.vz m3 e3, fun i hi => R.v C m3 e3 hi⟩
    · exact ⟨m4, R.vz m4 e4, fun i hi => R.v C m4 e4 hi⟩
    · exact ⟨m5, R.vz m5 e5, fun i hi => R.v C m5 e5 hi⟩
  have F : ∀ (A j : Nat), A ∈ zLis → zfin (zkd A) j = true → ∀ i : Nat, (i : Int) < fld h A 2 → fld g (zv h A i) j = fld h (zv h A i) j := by
    intro A j hA hf i hi
    obtain ⟨h1, n, h2⟩ := zv_s C hA hi
    exact R.2.2.1 _ _ n j h1 h2 hf
  obtain ⟨-, l2, v2⟩ := L 2 (by omega)
  have l2 : fld g 2 2 = fld h 2 2 := l2
  unfold yC
  split
  · rename_i hK
    have z := yK_1 hK
    cases c2 : ySc i with
    | false => rfl
    | true => exact hS z c2
  · rw [l2]
    by_cases q : i < 32 ∧ ((i / 4 : Nat) : Int) < fld h 2 2
    · rw [if_pos q, if_pos q, v2 _ q.2, F 2 1 m2 rfl _ q.2]
    · rw [if_neg q, if_neg q]
  · rename_i hK
    by_cases q : i < 64
    · rw [if_pos q, if_pos q, h7 (yK_3 hK) q]
    · rw [if_neg q, if_neg q]
  · rename_i hK
    rw [l2, h1 (yK_4 hK)]
    by_cases q : i < 1256 ∧ ((i / 157 : Nat) : Int) < fld h 2 2 ∧ ((i % 157 : Nat) : Int) ≤ fld h 1 0
    · rw [if_pos q, if_pos q, v2 _ q.2.1, F 2 16 m2 rfl _ q.2.1]
      have gv : gV h (zv h 2 (i / 157)) := (zv_g C (A := 2) m2 q.2.1).2
      exact R.dy (k := 20) (n := 157) (j1 := 0) (j2 := 157) o20 gv.2.2.1 gv.2.2.2 (by decide) ⟨Nat.zero_le _, Nat.mod_lt _ (by decide)⟩
    · rw [if_neg q, if_neg q]
  · rename_i hK
    by_cases q : i < 400
    · rw [if_pos q, if_pos q, h10 (yK_5 hK) q]
    · rw [if_neg q, if_neg q]
  · rename_i hK
    obtain ⟨p1, p2⟩ := h13 (yK_6 hK)
    rw [p1, p2]
    by_cases q : (i : Int) < fld h 13 1
    · have hb := C.1.b (a1 := 13) (a2 := 13) (j1 := 1) (j2 := 2) (lo := 0) (hi := 12) (by decide +kernel) (r := 13) (j := 1) (by decide) (by decide) (by decide) (by decide)
      rw [if_pos q, if_pos q]
      rcases C.2.2.2.2 i (by omega) with z | z
      · rw [z]
        unfold fld
        rw [cel_0, cel_0]
      · exact R.2.2.1 _ 10 3 0 z.1 z.2.1 rfl
    · rw [if_neg q, if_neg q]
  · rename_i hK
    have e20 := h20 (yK_7 hK)
    have l20 : fld g 20 2 = fld h 20 2 := R.vz m20 e20
    rw [l20]
    by_cases q : (i : Int) < fld h 20 2
    · rw [if_pos q, if_pos q, R.v C m20 e20 q, F 20 0 m20 rfl i q]
    · rw [if_neg q, if_neg q]
  · rename_i hK
    exact absurd hK h8
  · rename_i hK
    by_cases q : i < ySz a
    · rw [if_pos q, if_pos q, hX hK q]
    · rw [if_neg q, if_neg q]
  · rename_i hK
    have w := yK_10 hK
    obtain ⟨lA, zA, vA⟩ := L (yRA a).1 (by omega)
    rw [zA]
    by_cases q : (i : Int) < fld h ((yRA a).1 : Nat) 2
    · have wf : zfin (zkd (yRA a).1) (yRA a).2.1 = true := by
        rcases w with ⟨z1, z2⟩ | ⟨z1, z2⟩ | ⟨z1, z2⟩ | ⟨z1, z2⟩ <;> rw [z1, z2] <;> rfl
      rw [if_pos q, if_pos q, vA i q, F _ _ lA wf i q]
      have gr : ∃ kk nn, 365 < fld h (zv h (yRA a).1 i) (yRA a).2.1 ∧ sh h (fld h (zv h (yRA a).1 i) (yRA a).2.1) = some (kk, nn) ∧ zfin kk 0 = true := by
        have G := (zv_g C lA q).2
        unfold zG at G
        rcases w with ⟨z1, z2⟩ | ⟨z1, z2⟩ | ⟨z1, z2⟩ | ⟨z1, z2⟩
        · rw [z1] at G ⊢; rw [z2]; exact ⟨11, 17, G.2.2.1, G.2.2.2.1, rfl⟩
        · rw [z1] at G ⊢; rw [z2]; exact ⟨4, 19, G.2.2.1, G.2.2.2.1, rfl⟩
        · rw [z1] at G ⊢; rw [z2]; exact ⟨6, 7, G.2.2.1.1, G.2.2.1.2.1, rfl⟩
        · rw [z1] at G ⊢; rw [z2]; exact ⟨4, 19, G.2.2.2.1, G.2.2.2.2.1, rfl⟩
      obtain ⟨kk, nn, g1, g2, g3⟩ := gr
      exact R.2.2.1 _ kk nn 0 g1 g2 g3
    · rw [if_neg q, if_neg q]
  · rename_i hK
    obtain ⟨u1, u2, u3⟩ := yF_of hK
    obtain ⟨lA, zA, vA⟩ := L (yFA a) (by omega)
    rw [zA]
    by_cases q : (i : Int) < fld h ((yFA a : Nat) : Int) 2
    · rw [if_pos q, if_pos q, vA i q]
      have tb := List.all_eq_true.mp yF_len a (List.mem_range.mpr (yF_lt hK))
      rw [hK] at tb
      simp only [Nat.beq_refl, Bool.not_true, Bool.false_or] at tb
      have tb : yFj a < (if yFA a = 2 then 17 else if yFA a = 3 then 19 else if yFA a = 4 then 7 else 6) := Nat.le_of_ble_eq_true tb
      obtain ⟨h1, n, h2⟩ := zv_s C lA q
      rcases u3 with z | z | z | z
      · rw [z] at h1 h2 tb ⊢; exact R.dy (k := 11) (j1 := 0) (j2 := 17) o11 h1 h2 (by decide) ⟨Nat.zero_le _, tb⟩
      · rw [z] at h1 h2 tb ⊢; exact R.dy (k := 4) (j1 := 0) (j2 := 19) o4 h1 h2 (by decide) ⟨Nat.zero_le _, tb⟩
      · rw [z] at h1 h2 tb ⊢; exact R.dy (k := 6) (j1 := 0) (j2 := 7) o6 h1 h2 (by decide) ⟨Nat.zero_le _, tb⟩
      · rw [z] at h1 h2 tb ⊢; exact R.dy (k := 1) (j1 := 0) (j2 := 6) o1 h1 h2 (by decide) ⟨Nat.zero_le _, tb⟩
    · rw [if_neg q, if_neg q]
  · rfl
/-- how many rows a table has, and how wide they are -/
def yTp (a : Nat) : Nat := if a = 39 ∨ a = 48 ∨ a = 57 ∨ a = 155 then 7 else if a = 101 then 47 else if a = 206 then 155 else 0
def yWw (a : Nat) : Nat := if yWd a = 0 then ySz a else yWd a
def ySa : List (Nat × Nat) := [(0, 3), (38, 39), (41, 42), (52, 54), (64, 65), (69, 72), (78, 79), (86, 87), (96, 97)]
/-- a table of the model's stays -/
def yTf (ms : Zms) (a : Nat) : Bool := if a = 37 then ySa.all (fun q => zqN ms 37 37 q.1 q.2) else if a = 186 then zqN ms 186 186 0 6 && zqN ms 37 37 86 87 else zqN ms a (a + yTp a) 0 (yWw a)
theorem yM_z (F : ∀ (a1 a2 j1 j2 : Nat), zqN ms a1 a2 j1 j2 = true → ∀ (p : Int) (q : Nat), (a1 : Int) ≤ p → p ≤ (a2 : Int) → j1 ≤ q → q < j2 → 0 < p ∧ p ≤ 365 → fld g p q = fld h p q) (e : 366 ≤ a ∨ yTf ms a = true) (b86 : fld h 37 86 ≤ 6) : yM g a i = yM h a i := by
  unfold yM
  cases c1 : Nat.beq a 37 with
  | true =>
    simp only [cond_true]
    have z := Nat.eq_of_beq_eq_true c1
    subst z
    rcases e with e | e
    · omega
    unfold yTf at e
    rw [if_pos rfl] at e
    have f := fun q hq => List.all_eq_true.mp e q hq
    cases c2 : ySc i with
    | false => rfl
    | true =>
      show fld g 37 i = fld h 37 i
      rcases ySc_of c2 with z | rfl | rfl | rfl | rfl | rfl | z | rfl | rfl | rfl
      · exact F 37 37 0 3 (f (0, 3) (by decide)) 37 i (by decide) (by decide) (by omega) (by omega) (by decide)
      · exact F 37 37 38 39 (f (38, 39) (by decide)) 37 38 (by decide) (by decide) (by omega) (by omega) (by decide)
      · exact F 37 37 41 42 (f (41, 42) (by decide)) 37 41 (by decide) (by decide) (by omega) (by omega) (by decide)
      · exact F 37 37 52 54 (f (52, 54) (by decide)) 37 52 (by decide) (by decide) (by omega) (by omega) (by decide)
      · exact F 37 37 52 54 (f (52, 54) (by decide)) 37 53 (by decide) (by decide) (by omega) (by omega) (by decide)
      · exact F 37 37 64 65 (f (64, 65) (by decide)) 37 64 (by decide) (by decide) (by omega) (by omega) (by decide)
      · exact F 37 37 69 72 (f (69, 72) (by decide)) 37 i (by decide) (by decide) (by omega) (by omega) (by decide)
      · exact F 37 37 78 79 (f (78, 79) (by decide)) 37 78 (by decide) (by decide) (by omega) (by omega) (by decide)
      · exact F 37 37 86 87 (f (86, 87) (by decide)) 37 86 (by decide) (by decide) (by omega) (by omega) (by decide)
      · exact F 37 37 96 97 (f (96, 97) (by decide)) 37 96 (by decide) (by decide) (by omega) (by omega) (by decide)
  | false =>
    have n37 := Nat.ne_of_beq_eq_false c1
    simp only [cond_false]
    cases c3 : Nat.beq a 186 with
    | true =>
      simp only [cond_true]
      have z := Nat.eq_of_beq_eq_true c3
      subst z
      rcases e with e | e
      · omega
      unfold yTf at e
      rw [if_neg (by decide), if_pos rfl, Bool.and_eq_true] at e
      rw [F 37 37 86 87 e.2 37 86 (by decide) (by decide) (by omega) (by omega) (by decide)]
      by_cases hk : (i : Int) < fld h 37 86
      · rw [if_pos hk, if_pos hk]
        exact F 186 186 0 6 e.1 186 i (by decide) (by decide) (by omega) (by omega) (by decide)
      · rw [if_neg hk, if_neg hk]
    | false =>
      have n186 := Nat.ne_of_beq_eq_false c3
      simp only [cond_false]
      cases c4 : Nat.blt i (ySz a) with
      | false => rfl
      | true =>
        have hi : i < ySz a := Nat.le_of_ble_eq_true c4
        simp only [cond_true]
        have w := yM_wh hi
        have key : fld g ((a + i / yWd a : Nat) : Int) (i % yWd a) = fld h ((a + i / yWd a : Nat) : Int) (i % yWd a) := by
          rcases e with e | e
          · omega
          unfold yTf at e
          rw [if_neg n37, if_neg n186] at e
          refine F a (a + yTp a) 0 (yWw a) e _ _ (by omega) ?_ (Nat.zero_le _) ?_ ?_
          · unfold yTp
            rcases w with ⟨w1, w2, w3, w4, w5, w6⟩ | ⟨w1, w2, w3, w4⟩
            · rcases w1 with rfl | rfl | rfl | rfl | rfl | rfl
              · rw [if_pos (by decide)]; omega
              · rw [if_pos (by decide)]; omega
              · rw [if_pos (by decide)]; omega
              · rw [if_neg (by decide), if_pos rfl]; omega
              · rw [if_pos (by decide)]; omega
              · rw [if_neg (by decide), if_neg (by decide), if_pos rfl]; omega
            · omega
          · unfold yWw
            split
            · rename_i z
              rw [z, Nat.mod_zero]
              exact hi
            · rename_i z
              exact Nat.mod_lt _ (Nat.pos_of_ne_zero z)
          · rcases w with ⟨w1, w2, ⟨w31, w32, w33, w34, w35, w36⟩, w4, w5, w6⟩ | ⟨w1, w2, w3, w4⟩ <;> omega
        cases c5 : Nat.beq a 93 with
        | false => exact key
        | true =>
          have hb := Nat.eq_of_beq_eq_true c5
          subst hb
          have key : fld g ((93 + i / 0 : Nat) : Int) (i % 0) = fld h ((93 + i / 0 : Nat) : Int) (i % 0) := key
          rw [Nat.div_zero, Nat.mod_zero] at key
          show w32 _ = w32 _
          rw [show fld g 93 i = fld h 93 i from key]
theorem yM_zx (R : zXR ms c s h g) (e : 366 ≤ a ∨ yTf ms a = true) (b86 : fld h 37 86 ≤ 6) : yM g a i = yM h a i := yM_z (fun _ _ _ _ e p q k1 k2 k3 k4 k5 => R.f e ⟨k1, k2⟩ ⟨k3, k4⟩ k5) e b86
/-- a table of the class's stays -/
def yCf (ms : Zms) (a : Nat) : Bool := if a = 37 then zqN ms 1 1 0 2 && (zqN ms 9 9 0 1 && (zun ms 14 && (zqN ms 13 13 1 2 && (zqN ms 34 34 0 3 && (zun ms 20 && zqN ms 27 27 0 1))))) else if a = 48 then zqN ms 7 7 0 64 else if a = 98 then zqN ms 10 10 0 400 else if a = 57 then zqN ms 1 1 0 1 else if a = 164 then zqN ms 13 13 1 2 && zun ms 15 else if a = 186 then zun ms 20 else if a = 165 then zqN ms 16 16 0 12 else if a = 206 then zqN ms 35 35 0 936 else if a = 363 ∨ a = 364 ∨ a = 365 then zqN ms 28 30 0 8 else true
theorem yC_zx (C : CI h) (R : zXR ms c s h g) (e : yXo ms = true) (t : 366 ≤ a ∨ yCf ms a = true) (h8 : yK a ≠ 8) : yC g a i = yC h a i := by
  have e2 := e
  unfold yXo at e2
  simp only [Bool.and_eq_true] at e2
  obtain ⟨⟨e2, e3, e4, e5⟩, -⟩ := e2
  have t : a < 366 → yCf ms a = true := fun w => t.resolve_left (by omega)
  have m14 : (14 : Nat) ∈ zLis := by decide
  have m20 : (20 : Nat) ∈ zLis := by decide
  refine yC_z C R e (fun z1 z2 => ?_) (fun z z7 => ?_) (fun z z10 => ?_) (fun z => ?_) (fun z => ?_) (fun z => ?_) (fun z zi => ?_) h8
  · subst z1
    have t := t (by decide)
    unfold yCf at t
    rw [if_pos rfl] at t
    simp only [Bool.and_eq_true] at t
    obtain ⟨t1, t2, t3, t4, t5, t6, t7⟩ := t
    rcases ySc_of z2 with z | rfl | rfl | rfl | rfl | rfl | z | rfl | rfl | rfl
    · have z : i = 0 ∨ i = 1 ∨ i = 2 := by omega
      rcases z with rfl | rfl | rfl
      · exact R.f t1 (r := 1) (j := 0) (by first | decide | exact ⟨by decide, by decide⟩) (by first | decide | exact ⟨by decide, by decide⟩) (by first | decide | exact ⟨by decide, by decide⟩)
      · exact R.vz (A := 2) (by decide) e2
      · exact R.vz (A := 3) (by decide) e3
    · exact R.f t1 (r := 1) (j := 1) (by first | decide | exact ⟨by decide, by decide⟩) (by first | decide | exact ⟨by decide, by decide⟩) (by first | decide | exact ⟨by decide, by decide⟩)
    · exact R.f t2 (r := 9) (j := 0) (by first | decide | exact ⟨by decide, by decide⟩) (by first | decide | exact ⟨by decide, by decide⟩) (by first | decide | exact ⟨by decide, by decide⟩)
    · exact R.vz (A := 14) m14 t3
    · exact R.f t4 (r := 13) (j := 1) (by first | decide | exact ⟨by decide, by decide⟩) (by first | decide | exact ⟨by decide, by decide⟩) (by first | decide | exact ⟨by decide, by decide⟩)
    · exact R.vz (A := 4) (by decide) e4
    · have z : i = 69 ∨ i = 70 ∨ i = 71 := by omega
      rcases z with rfl | rfl | rfl
      · exact R.f t5 (r := 34) (j := 0) (by first | decide | exact ⟨by decide, by decide⟩) (by first | decide | exact ⟨by decide, by decide⟩) (by first | decide | exact ⟨by decide, by decide⟩)
      · exact R.f t5 (r := 34) (j := 1) (by first | decide | exact ⟨by decide, by decide⟩) (by first | decide | exact ⟨by decide, by decide⟩) (by first | decide | exact ⟨by decide, by decide⟩)
      · exact R.f t5 (r := 34) (j := 2) (by first | decide | exact ⟨by decide, by decide⟩) (by first | decide | exact ⟨by decide, by decide⟩) (by first | decide | exact ⟨by decide, by decide⟩)
    · exact R.vz (A := 5) (by decide) e5
    · exact R.vz (A := 20) m20 t6
    · exact R.f t7 (r := 27) (j := 0) (by first | decide | exact ⟨by decide, by decide⟩) (by first | decide | exact ⟨by decide, by decide⟩) (by first | decide | exact ⟨by decide, by decide⟩)
  · subst z
    have t : zqN ms 7 7 0 64 = true := t (by decide)
    exact R.f t (r := 7) (by first | decide | exact ⟨by decide, by decide⟩) ⟨Nat.zero_le _, z7⟩ (by first | decide | exact ⟨by decide, by decide⟩)
  · subst z
    have t : zqN ms 10 10 0 400 = true := t (by decide)
    exact R.f t (r := 10) (by first | decide | exact ⟨by decide, by decide⟩) ⟨Nat.zero_le _, z10⟩ (by first | decide | exact ⟨by decide, by decide⟩)
  · subst z
    have t : zqN ms 1 1 0 1 = true := t (by decide)
    exact R.f t (r := 1) (j := 0) (by first | decide | exact ⟨by decide, by decide⟩) (by first | decide | exact ⟨by decide, by decide⟩) (by first | decide | exact ⟨by decide, by decide⟩)
  · subst z
    have t : (zqN ms 13 13 1 2 && zun ms 15) = true := t (by decide)
    rw [Bool.and_eq_true] at t
    exact ⟨R.f t.1 (r := 13) (j := 1) (by first | decide | exact ⟨by decide, by decide⟩) (by first | decide | exact ⟨by decide, by decide⟩) (by first | decide | exact ⟨by decide, by decide⟩), R.fa (a := 15) t.2 (by decide)⟩
  · subst z
    have t : zun ms 20 = true := t (by decide)
    exact t
  · rcases yK_9 z with rfl | rfl | rfl | rfl | rfl
    · have t : zqN ms 16 16 0 12 = true := t (by decide)
      exact R.f t (r := 16) (by first | decide | exact ⟨by decide, by decide⟩) ⟨Nat.zero_le _, zi⟩ (by first | decide | exact ⟨by decide, by decide⟩)
    · have t : zqN ms 35 35 0 936 = true := t (by decide)
      exact R.f t (r := 35) (by first | decide | exact ⟨by decide, by decide⟩) ⟨Nat.zero_le _, zi⟩ (by first | decide | exact ⟨by decide, by decide⟩)
    · have t : zqN ms 28 30 0 8 = true := t (by decide)
      exact R.f t (r := 28) (by first | decide | exact ⟨by decide, by decide⟩) ⟨Nat.zero_le _, zi⟩ (by first | decide | exact ⟨by decide, by decide⟩)
    · have t : zqN ms 28 30 0 8 = true := t (by decide)
      exact R.f t (r := 29) (by first | decide | exact ⟨by decide, by decide⟩) ⟨Nat.zero_le _, zi⟩ (by first | decide | exact ⟨by decide, by decide⟩)
    · have t : zqN ms 28 30 0 8 = true := t (by decide)
      exact R.f t (r := 30) (by first | decide | exact ⟨by decide, by decide⟩) ⟨Nat.zero_le _, zi⟩ (by first | decide | exact ⟨by decide, by decide⟩)
/-- all the class's tables stay: what the model's calls touch -/
def yXc (ms : Zms) : Bool := yXo ms && (List.range 366).all (fun a => yCf ms a)
theorem yC_zm (C : CI h) (R : zXR ms c s h g) (e : yXc ms = true) (h8 : yK a ≠ 8) : yC g a i = yC h a i := by
  unfold yXc at e
  rw [Bool.and_eq_true] at e
  refine yC_zx C R e.1 ?_ h8
  by_cases w : a < 366
  · exact Or.inr (List.all_eq_true.mp e.2 a (List.mem_range.mpr w))
  · exact Or.inl (by omega)
theorem yC_8 (e : yK a = 8) : yC h a i = yM h a i := by
  unfold yC
  rw [e]
  rfl
/-- class and model alike behind a call that both tell alike -/
theorem yEq_z {F : zT → zT} (H : yM h = yC h) (C1 : CI h1) (Q : zXR ms c s h h1) (Z : zXR ms' c' s' h1 g) (eQ : yFr ms = true) (eZ : yXc ms' = true) (b86 : fld h 37 86 ≤ 6) (X : yC h1 = F (yC h)) (M : yM g = F (yM h1)) : yM g = yC g := by
  funext a i
  by_cases e : yK a = 8
  · exact (yC_8 e).symm
  · rw [yC_zm C1 Z eZ e, M, X, yM_xr Q eQ b86, H]
end YFR
end
