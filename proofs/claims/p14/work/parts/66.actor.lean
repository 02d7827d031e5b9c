/-! constructors -/
section ZN
variable {sc : List Int} {D D' y pc nx : Nat} {ls st st' : List Vl} {h h' h0 h1 h2 g : Hp} {Q : Option Vl → Hp → Prop}
/-- a fresh object: what stands in it, how much is new -/
def zFr (h0 h : Hp) (r : Int) (kd : Nat) (l : List Int) (c s : Nat) : Prop := zOld h0 h ∧ zDy h ∧ cel h r = some (kd, l) ∧ h.length = h0.length + c ∧ sz h = sz h0 + s
theorem zFr.start (C : CI h) {kd n : Nat} : zFr h (h ++ [(kd, List.replicate n 0)]) ((h.length + 1 : Nat) : Int) kd (List.replicate n 0) 1 n := by
  refine ⟨zOld.app _, C.2.1.app (fun x hx => by rw [List.eq_of_mem_replicate hx]; decide), cel_new _, by rw [List.length_append, List.length_singleton], ?_⟩
  rw [sz_app]
  unfold sz
  simp
theorem zwX_fp {kd bn t tv c s : Nat} {r x : Int} {l : List Int} (e : zkPut y pc nx kd bn t = true) (F : zFr h0 h r kd l c s) (hr : h0.length < r) (hb : Nat.blt bn l.length = true) (ht : keptF t (tv, x) = some x) (hx : t ≠ 0 ∨ (-2147483648 ≤ x ∧ x ≤ 2147483647)) (k : ∀ g, zFr h0 g r kd (l.set bn x) c s → (∀ q : Int, q ≠ r → cel g q = cel h q) → zwW sc D y nx ls st g Q) : zwW sc D y pc ls ((tv, x) :: (2, r) :: st) h Q := by
  obtain ⟨O, Y, hc, h3, h4⟩ := F
  refine zwW_put e (sh_of hc) hb ht (fun g eg => ?_)
  have hg := wr_of (i := bn) (x := x) hc
  have hcel : ∀ q, cel g q = if q = r then some (kd, l.set bn x) else cel h q := fun q => by rw [eg, hg]; exact cel_set q (by rw [hc]; rfl)
  refine k g ⟨O.w eg hr, ?_, by rw [hcel, if_pos rfl], by rw [eg, len_wr]; exact h3, by rw [eg, sz_wr]; exact h4⟩ (fun q hq => by rw [hcel, if_neg hq])
  rcases hx with hx | hx
  · exact Y.wq eg (sh_of hc) (by rw [(zkPut_of e).2]; exact hx)
  · exact Y.w eg hx
theorem zFr.fin {r : Int} {kd c s : Nat} {l : List Int} (C : CI h0) (F : zFr h0 g r kd l c s) : CI g ∧ zXR [] c s h0 g := ⟨C.old F.1 F.2.1, F.1.xr C (by have := F.2.2.2.1; omega) (by have := F.2.2.2.2; omega) []⟩
theorem x108 {sc : List Int} (h0 : Hp) (C : CI h0) (a v b : Int) (q_a : -2147483648 ≤ a ∧ a ≤ 2147483647) (q_b : 0 ≤ b ∧ b ≤ 2147483647) (G : gV h0 v) : zwC sc 1 108 [(2, ((h0.length + 1 : Nat) : Int)), (0, a), (2, v), (0, b)] (h0 ++ [(4, List.replicate 19 0)]) (zwRv (fun g => CI g ∧ zXR [] 1 19 h0 g ∧ gH g ((h0.length + 1 : Nat) : Int) ∧ cel g ((h0.length + 1 : Nat) : Int) = some (4, [a, v, b / 1000, b / 100 % 10, b / 10 % 10, b % 10, 0, 10, 0, 0, 0, 0, 0, 0, 0, 0, 0, 0, 0]))) := by
  have F := zFr.start C (kd := 4) (n := 19)
  have hlen := C.len
  obtain ⟨r, er⟩ : ∃ r, r = ((h0.length + 1 : Nat) : Int) := ⟨_, rfl⟩
  rw [← er] at F ⊢
  have hr : (h0.length : Int) < r := by omega
  refine zwC_of (D := 0) 4 (by decide +kernel) rfl (ls := [(2, r), (0, a), (2, v), (0, b)]) rfl ?_
  refine zwW_p [(1, 0, 2)] (q := 1) (ls' := [(2, r), (0, a), (2, v), (0, b)]) (st' := [(2, r)]) (by decide +kernel) rfl ?_
  refine zwW_obj (nx := 4) (by decide +kernel) (by omega) rfl ?_
  refine zwW_p [(1, 0, 2), (0, 10, 0)] (q := 7) (ls' := [(2, r), (0, a), (2, v), (0, b)]) (st' := [(0, 10), (2, r)]) (by decide +kernel) rfl ?_
  refine zwX_fp (kd := 4) (bn := 7) (t := 0) (nx := 10) (by decide +kernel) F hr rfl rfl (Or.inr (by decide)) ?_
  intro g1 F o
  refine zwW_p [(1, 0, 2), (1, 1, 0)] (q := 12) (ls' := [(2, r), (0, a), (2, v), (0, b)]) (st' := [(0, a), (2, r)]) (by decide +kernel) rfl ?_
  refine zwX_fp (kd := 4) (bn := 0) (t := 0) (nx := 15) (by decide +kernel) F hr rfl rfl (Or.inr q_a) ?_
  intro g2 F o
  refine zwW_p [(1, 0, 2), (1, 2, 2)] (q := 17) (ls' := [(2, r), (0, a), (2, v), (0, b)]) (st' := [(2, v), (2, r)]) (by decide +kernel) rfl ?_
  refine zwX_fp (kd := 4) (bn := 1) (t := 2) (nx := 20) (by decide +kernel) F hr rfl rfl (Or.inl (by decide)) ?_
  intro g3 F o
  refine zwW_p [(1, 0, 2), (1, 3, 0), (0, 1000, 0)] (q := 25) (ls' := [(2, r), (0, a), (2, v), (0, b)]) (st' := [(0, 1000), (0, b), (2, r)]) (by decide +kernel) rfl ?_
  refine zwW_div (nx := 26) (by decide +kernel) (by omega) (by omega) (by omega) ?_
  refine zwX_fp (kd := 4) (bn := 2) (t := 0) (nx := 29) (by decide +kernel) F hr rfl rfl (Or.inr ⟨by omega, by omega⟩) ?_
  intro g4 F o
  refine zwW_p [(1, 0, 2), (1, 3, 0), (0, 100, 0)] (q := 33) (ls' := [(2, r), (0, a), (2, v), (0, b)]) (st' := [(0, 100), (0, b), (2, r)]) (by decide +kernel) rfl ?_
  refine zwW_div (nx := 34) (by decide +kernel) (by omega) (by omega) (by omega) ?_
  refine zwW_p [(0, 10, 0)] (q := 36) (ls' := [(2, r), (0, a), (2, v), (0, b)]) (st' := [(0, 10), (0, b / 100), (2, r)]) (by decide +kernel) rfl ?_
  refine zwW_rem (nx := 37) (by decide +kernel) (by omega) (by omega) ?_
  refine zwX_fp (kd := 4) (bn := 3) (t := 0) (nx := 40) (by decide +kernel) F hr rfl rfl (Or.inr ⟨by omega, by omega⟩) ?_
  intro g5 F o
  refine zwW_p [(1, 0, 2), (1, 3, 0), (0, 10, 0)] (q := 44) (ls' := [(2, r), (0, a), (2, v), (0, b)]) (st' := [(0, 10), (0, b), (2, r)]) (by decide +kernel) rfl ?_
  refine zwW_div (nx := 45) (by decide +kernel) (by omega) (by omega) (by omega) ?_
  refine zwW_p [(0, 10, 0)] (q := 47) (ls' := [(2, r), (0, a), (2, v), (0, b)]) (st' := [(0, 10), (0, b / 10), (2, r)]) (by decide +kernel) rfl ?_
  refine zwW_rem (nx := 48) (by decide +kernel) (by omega) (by omega) ?_
  refine zwX_fp (kd := 4) (bn := 4) (t := 0) (nx := 51) (by decide +kernel) F hr rfl rfl (Or.inr ⟨by omega, by omega⟩) ?_
  intro g6 F o
  refine zwW_p [(1, 0, 2), (1, 3, 0), (0, 10, 0)] (q := 55) (ls' := [(2, r), (0, a), (2, v), (0, b)]) (st' := [(0, 10), (0, b), (2, r)]) (by decide +kernel) rfl ?_
  refine zwW_rem (nx := 56) (by decide +kernel) (by omega) (by omega) ?_
  refine zwX_fp (kd := 4) (bn := 5) (t := 0) (nx := 59) (by decide +kernel) F hr rfl rfl (Or.inr ⟨by omega, by omega⟩) ?_
  intro g7 F o
  obtain ⟨Cg, R⟩ := F.fin C
  have hc : cel g7 r = some (4, [a, v, b / 1000, b / 100 % 10, b / 10 % 10, b % 10, 0, 10, 0, 0, 0, 0, 0, 0, 0, 0, 0, 0, 0]) := F.2.2.1
  refine zwW_retv (nx := 60) (a := 0) (b := 0) (by decide +kernel) ⟨Cg, R, ⟨by omega, sh_of hc, ?_⟩, hc⟩
  rw [fld_of hc]
  exact G.x R
theorem x231 {sc : List Int} (h0 : Hp) (C : CI h0) (a v b d : Int) (q_a : -2147483648 ≤ a ∧ a ≤ 2147483647) (q_b : -2147483648 ≤ b ∧ b ≤ 2147483647) (q_d : -2147483648 ≤ d ∧ d ≤ 2147483647) (G : gH h0 v) (S : ∀ g, zOld h0 g → CI g → zwC sc 1 169 [(2, v)] g (zwRt 0 (fun x g' => g = g' ∧ (-2147483648 ≤ x ∧ x ≤ 2147483647)))) : zwC sc 2 231 [(2, ((h0.length + 1 : Nat) : Int)), (0, a), (2, v), (0, b), (0, d)] (h0 ++ [(6, List.replicate 7 0)]) (zwRv (fun g => CI g ∧ zXR [] 1 7 h0 g ∧ gL g ((h0.length + 1 : Nat) : Int) ∧ ∃ z, cel g ((h0.length + 1 : Nat) : Int) = some (6, [a, v, b, fld h0 v 7, z, d, d]))) := by
  have F := zFr.start C (kd := 6) (n := 7)
  have hlen := C.len
  obtain ⟨r, er⟩ : ∃ r, r = ((h0.length + 1 : Nat) : Int) := ⟨_, rfl⟩
  rw [← er] at F ⊢
  have hr : (h0.length : Int) < r := by omega
  have hv := sh_pos G.2.1
  have hvr : v ≠ r := by omega
  have hb := C.2.1 v 4 19 7 G.1 G.2.1 rfl
  refine zwC_of (D := 1) 5 (by decide +kernel) rfl (ls := [(2, r), (0, a), (2, v), (0, b), (0, d)]) rfl ?_
  refine zwW_p [(1, 0, 2)] (q := 1) (ls' := [(2, r), (0, a), (2, v), (0, b), (0, d)]) (st' := [(2, r)]) (by decide +kernel) rfl ?_
  refine zwW_obj (nx := 4) (by decide +kernel) (by omega) rfl ?_
  refine zwW_p [(1, 0, 2), (1, 1, 0)] (q := 6) (ls' := [(2, r), (0, a), (2, v), (0, b), (0, d)]) (st' := [(0, a), (2, r)]) (by decide +kernel) rfl ?_
  refine zwX_fp (kd := 6) (bn := 0) (t := 0) (nx := 9) (by decide +kernel) F hr rfl rfl (Or.inr q_a) ?_
  intro g1 F o
  refine zwW_p [(1, 0, 2), (1, 2, 2)] (q := 11) (ls' := [(2, r), (0, a), (2, v), (0, b), (0, d)]) (st' := [(2, v), (2, r)]) (by decide +kernel) rfl ?_
  refine zwX_fp (kd := 6) (bn := 1) (t := 2) (nx := 14) (by decide +kernel) F hr rfl rfl (Or.inl (by decide)) ?_
  intro g2 F o
  refine zwW_p [(1, 0, 2), (1, 3, 0)] (q := 16) (ls' := [(2, r), (0, a), (2, v), (0, b), (0, d)]) (st' := [(0, b), (2, r)]) (by decide +kernel) rfl ?_
  refine zwX_fp (kd := 6) (bn := 2) (t := 0) (nx := 19) (by decide +kernel) F hr rfl rfl (Or.inr q_b) ?_
  intro g3 F o
  refine zwW_p [(1, 0, 2), (1, 4, 0)] (q := 22) (ls' := [(2, r), (0, a), (2, v), (0, b), (0, d)]) (st' := [(0, d), (2, r)]) (by decide +kernel) rfl ?_
  refine zwX_fp (kd := 6) (bn := 5) (t := 0) (nx := 25) (by decide +kernel) F hr rfl rfl (Or.inr q_d) ?_
  intro g4 F o
  refine zwW_p [(1, 0, 2), (1, 2, 2)] (q := 27) (ls' := [(2, r), (0, a), (2, v), (0, b), (0, d)]) (st' := [(2, v), (2, r)]) (by decide +kernel) rfl ?_
  refine zwW_get (kd := 4) (bn := 7) (t := 0) (n := 19) (nx := 30) (by decide +kernel) (F.1.sp G.2.1) rfl ?_
  rw [F.1.fl hv.2]
  refine zwX_fp (kd := 6) (bn := 3) (t := 0) (nx := 33) (by decide +kernel) F hr rfl rfl (Or.inr hb) ?_
  intro g5 F o
  refine zwW_p [(1, 0, 2), (1, 2, 2)] (q := 35) (ls' := [(2, r), (0, a), (2, v), (0, b), (0, d)]) (st' := [(2, v), (2, r)]) (by decide +kernel) rfl ?_
  refine zwW_cv (op := 60) (k' := 169) (n := 0) (kd := 4) (m := 19) (nx := 38) (r := v) (tl := []) (st' := [(2, r)]) (by decide +kernel) rfl (by decide +kernel) (F.1.sp G.2.1) (S g5 F.1 (C.old F.1 F.2.1)) rfl ?_
  rintro z _ ⟨rfl, hz⟩
  refine zwX_fp (kd := 6) (bn := 4) (t := 0) (nx := 41) (by decide +kernel) F hr rfl rfl (Or.inr hz) ?_
  intro g6 F o
  refine zwW_p [(1, 0, 2), (1, 4, 0)] (q := 44) (ls' := [(2, r), (0, a), (2, v), (0, b), (0, d)]) (st' := [(0, d), (2, r)]) (by decide +kernel) rfl ?_
  refine zwX_fp (kd := 6) (bn := 6) (t := 0) (nx := 47) (by decide +kernel) F hr rfl rfl (Or.inr q_d) ?_
  intro g7 F o
  obtain ⟨Cg, R⟩ := F.fin C
  have hc : cel g7 r = some (6, [a, v, b, fld h0 v 7, z, d, d]) := F.2.2.1
  refine zwW_retv (nx := 48) (a := 0) (b := 0) (by decide +kernel) ⟨Cg, R, ⟨by omega, sh_of hc, ?_⟩, z, hc⟩
  rw [fld_of hc]
  exact G.x R
theorem x135 {sc : List Int} (h0 : Hp) (C : CI h0) (v w a b d : Int) (q_a : -2147483648 ≤ a ∧ a ≤ 2147483647) (q_b : -2147483648 ≤ b ∧ b ≤ 2147483647) (G : gL h0 v) (H : gH h0 w) (q_d : d = 0 ∨ d = 1) : zwC sc 1 135 [(2, ((h0.length + 1 : Nat) : Int)), (2, v), (2, w), (0, a), (0, b), (0, d)] (h0 ++ [(1, List.replicate 6 0)]) (zwRv (fun g => CI g ∧ zXR [] 1 6 h0 g ∧ gC g ((h0.length + 1 : Nat) : Int) ∧ cel g ((h0.length + 1 : Nat) : Int) = some (1, [v, w, a, b, d, -1]))) := by
  have F := zFr.start C (kd := 1) (n := 6)
  have hlen := C.len
  obtain ⟨r, er⟩ : ∃ r, r = ((h0.length + 1 : Nat) : Int) := ⟨_, rfl⟩
  rw [← er] at F ⊢
  have hr : (h0.length : Int) < r := by omega
  refine zwC_of (D := 0) 6 (by decide +kernel) rfl (ls := [(2, r), (2, v), (2, w), (0, a), (0, b), (0, d)]) rfl ?_
  refine zwW_p [(1, 0, 2)] (q := 1) (ls' := [(2, r), (2, v), (2, w), (0, a), (0, b), (0, d)]) (st' := [(2, r)]) (by decide +kernel) rfl ?_
  refine zwW_obj (nx := 4) (by decide +kernel) (by omega) rfl ?_
  refine zwW_p [(1, 0, 2), (0, -1, 0)] (q := 6) (ls' := [(2, r), (2, v), (2, w), (0, a), (0, b), (0, d)]) (st' := [(0, -1), (2, r)]) (by decide +kernel) rfl ?_
  refine zwX_fp (kd := 1) (bn := 5) (t := 0) (nx := 9) (by decide +kernel) F hr rfl rfl (Or.inr (by decide)) ?_
  intro g1 F o
  refine zwW_p [(1, 0, 2), (1, 1, 2)] (q := 11) (ls' := [(2, r), (2, v), (2, w), (0, a), (0, b), (0, d)]) (st' := [(2, v), (2, r)]) (by decide +kernel) rfl ?_
  refine zwX_fp (kd := 1) (bn := 0) (t := 2) (nx := 14) (by decide +kernel) F hr rfl rfl (Or.inl (by decide)) ?_
  intro g2 F o
  refine zwW_p [(1, 0, 2), (1, 2, 2)] (q := 16) (ls' := [(2, r), (2, v), (2, w), (0, a), (0, b), (0, d)]) (st' := [(2, w), (2, r)]) (by decide +kernel) rfl ?_
  refine zwX_fp (kd := 1) (bn := 1) (t := 2) (nx := 19) (by decide +kernel) F hr rfl rfl (Or.inl (by decide)) ?_
  intro g3 F o
  refine zwW_p [(1, 0, 2), (1, 3, 0)] (q := 21) (ls' := [(2, r), (2, v), (2, w), (0, a), (0, b), (0, d)]) (st' := [(0, a), (2, r)]) (by decide +kernel) rfl ?_
  refine zwX_fp (kd := 1) (bn := 2) (t := 0) (nx := 24) (by decide +kernel) F hr rfl rfl (Or.inr q_a) ?_
  intro g4 F o
  refine zwW_p [(1, 0, 2), (1, 4, 0)] (q := 27) (ls' := [(2, r), (2, v), (2, w), (0, a), (0, b), (0, d)]) (st' := [(0, b), (2, r)]) (by decide +kernel) rfl ?_
  refine zwX_fp (kd := 1) (bn := 3) (t := 0) (nx := 30) (by decide +kernel) F hr rfl rfl (Or.inr q_b) ?_
  intro g5 F o
  refine zwW_p [(1, 0, 2), (1, 5, 0)] (q := 33) (ls' := [(2, r), (2, v), (2, w), (0, a), (0, b), (0, d)]) (st' := [(0, d), (2, r)]) (by decide +kernel) rfl ?_
  refine zwX_fp (kd := 1) (bn := 4) (t := 4) (nx := 36) (by decide +kernel) F hr rfl (by rcases q_d with rfl | rfl <;> rfl) (Or.inl (by decide)) ?_
  intro g6 F o
  obtain ⟨Cg, R⟩ := F.fin C
  have hc : cel g6 r = some (1, [v, w, a, b, d, -1]) := F.2.2.1
  refine zwW_retv (nx := 37) (a := 0) (b := 0) (by decide +kernel) ⟨Cg, R, ⟨by omega, sh_of hc, ?_, ?_⟩, hc⟩
  · rw [fld_of hc]; exact G.x R
  · rw [fld_of hc]; exact H.x R
theorem x203 {sc : List Int} (h0 h : Hp) (C : CI h0) (r a v w : Int) {c s n : Nat} (F : zFr h0 h r 10 (List.replicate 3 0) c s) (hr : h0.length < r) (q_a : -2147483648 ≤ a ∧ a ≤ 2147483647) (hv : 365 < v ∧ sh h v = some (20, n) ∧ v ≠ r) (hw : 365 < w ∧ sh h w = some (20, 5) ∧ w ≠ r) : zwC sc 1 203 [(2, r), (0, a), (2, v), (2, w)] h (zwRv (fun g => CI g ∧ zXR [] c s h0 g ∧ gS g r ∧ cel g r = some (10, [a, v, w]) ∧ ∀ q : Int, q ≠ r → cel g q = cel h q)) := by
  have hlen := C.len
  refine zwC_of (D := 0) 4 (by decide +kernel) rfl (ls := [(2, r), (0, a), (2, v), (2, w)]) rfl ?_
  refine zwW_p [(1, 0, 2)] (q := 1) (ls' := [(2, r), (0, a), (2, v), (2, w)]) (st' := [(2, r)]) (by decide +kernel) rfl ?_
  refine zwW_obj (nx := 4) (by decide +kernel) (by omega) rfl ?_
  refine zwW_p [(1, 0, 2), (1, 1, 0)] (q := 6) (ls' := [(2, r), (0, a), (2, v), (2, w)]) (st' := [(0, a), (2, r)]) (by decide +kernel) rfl ?_
  refine zwX_fp (kd := 10) (bn := 0) (t := 0) (nx := 9) (by decide +kernel) F hr rfl rfl (Or.inr q_a) ?_
  intro g1 F o1
  refine zwW_p [(1, 0, 2), (1, 2, 2)] (q := 11) (ls' := [(2, r), (0, a), (2, v), (2, w)]) (st' := [(2, v), (2, r)]) (by decide +kernel) rfl ?_
  refine zwX_fp (kd := 10) (bn := 1) (t := 2) (nx := 14) (by decide +kernel) F hr rfl rfl (Or.inl (by decide)) ?_
  intro g2 F o2
  refine zwW_p [(1, 0, 2), (1, 3, 2)] (q := 16) (ls' := [(2, r), (0, a), (2, v), (2, w)]) (st' := [(2, w), (2, r)]) (by decide +kernel) rfl ?_
  refine zwX_fp (kd := 10) (bn := 2) (t := 2) (nx := 19) (by decide +kernel) F hr rfl rfl (Or.inl (by decide)) ?_
  intro g3 F o3
  obtain ⟨Cg, R⟩ := F.fin C
  have hc : cel g3 r = some (10, [a, v, w]) := F.2.2.1
  have ho : ∀ q : Int, q ≠ r → cel g3 q = cel h q := fun q hq => by rw [o3 q hq, o2 q hq, o1 q hq]
  have hs : ∀ q : Int, q ≠ r → sh g3 q = sh h q := fun q hq => by unfold sh; rw [ho q hq]
  refine zwW_retv (nx := 20) (a := 0) (b := 0) (by decide +kernel) ⟨Cg, R, ⟨by omega, sh_of hc, ?_, ?_⟩, hc, ho⟩
  · rw [fld_of hc]; exact ⟨hv.1, n, by show sh g3 v = _; rw [hs v hv.2.2]; exact hv.2.1⟩
  · rw [fld_of hc]; exact ⟨hw.1, by show sh g3 w = _; rw [hs w hw.2.2]; exact hw.2.1⟩
theorem x99 {sc : List Int} (h0 : Hp) (C : CI h0) (a b c d : Int) (q_a : -2147483648 ≤ a ∧ a ≤ 2147483647) (q_b : -2147483648 ≤ b ∧ b ≤ 2147483647) (q_c : -2147483648 ≤ c ∧ c ≤ 2147483647) (q_d : -2147483648 ≤ d ∧ d ≤ 2147483647) : zwC sc 2 99 [(2, ((h0.length + 1 : Nat) : Int)), (0, a), (0, b), (0, c), (0, d)] (h0 ++ [(11, List.replicate 17 0)]) (zwRv (fun g => CI g ∧ zXR [] 2 174 h0 g ∧ gV g ((h0.length + 1 : Nat) : Int) ∧ cel g ((h0.length + 1 : Nat) : Int) = some (11, [a, b, c, d, 0, 0, 0, 0, 20, 10, 0, 0, 0, 0, 0, 0, ((h0.length + 2 : Nat) : Int)]) ∧ ∀ j : Nat, j < 157 → fld g ((h0.length + 2 : Nat) : Int) j = 10)) := by
  have F := zFr.start C (kd := 11) (n := 17)
  have hlen := C.len
  obtain ⟨r, er⟩ : ∃ r, r = ((h0.length + 1 : Nat) : Int) := ⟨_, rfl⟩
  rw [← er] at F ⊢
  have hr : (h0.length : Int) < r := by omega
  refine zwC_of (D := 1) 5 (by decide +kernel) rfl (ls := [(2, r), (0, a), (0, b), (0, c), (0, d)]) rfl ?_
  refine zwW_p [(1, 0, 2)] (q := 1) (ls' := [(2, r), (0, a), (0, b), (0, c), (0, d)]) (st' := [(2, r)]) (by decide +kernel) rfl ?_
  refine zwW_obj (nx := 4) (by decide +kernel) (by omega) rfl ?_
  refine zwW_p [(1, 0, 2), (0, 20, 0)] (q := 7) (ls' := [(2, r), (0, a), (0, b), (0, c), (0, d)]) (st' := [(0, 20), (2, r)]) (by decide +kernel) rfl ?_
  refine zwX_fp (kd := 11) (bn := 8) (t := 0) (nx := 10) (by decide +kernel) F hr rfl rfl (Or.inr (by decide)) ?_
  intro g1 F o
  refine zwW_p [(1, 0, 2), (0, 10, 0)] (q := 13) (ls' := [(2, r), (0, a), (0, b), (0, c), (0, d)]) (st' := [(0, 10), (2, r)]) (by decide +kernel) rfl ?_
  refine zwX_fp (kd := 11) (bn := 9) (t := 0) (nx := 16) (by decide +kernel) F hr rfl rfl (Or.inr (by decide)) ?_
  intro g2 F o
  refine zwW_p [(1, 0, 2), (0, 157, 0)] (q := 20) (ls' := [(2, r), (0, a), (0, b), (0, c), (0, d)]) (st' := [(0, 157), (2, r)]) (by decide +kernel) rfl ?_
  refine zwW_newa (op := 43) (kd := 20) (a := 20) (nx := 22) (by decide +kernel) (Or.inl rfl) rfl (by decide) (by decide) ?_
  rintro g3 w e3 ew
  have F3 : zFr h0 g3 r 11 (((List.replicate 17 0).set 8 20).set 9 10) 2 174 := by
    obtain ⟨F1, F2, F3, F4, F5⟩ := F
    refine ⟨F1.tr (by rw [e3]; exact zOld.app _), by rw [e3]; exact F2.app (fun x hx => by rw [List.eq_of_mem_replicate hx]; decide), ?_, ?_, ?_⟩
    · rw [e3, cel_app _ r (by omega)]; exact F3
    · rw [e3, List.length_append, List.length_singleton]; omega
    · rw [e3, sz_app, F5]; unfold sz; simp
  have sw : sh g3 w = some (20, 157) := by rw [e3, ew, sh_new]; rfl
  have hw : w = ((h0.length + 2 : Nat) : Int) := by rw [ew, F.2.2.2.1]
  have hwr : w ≠ r := by omega
  refine zwX_fp (kd := 11) (bn := 16) (t := 2) (nx := 25) (by decide +kernel) F3 hr rfl rfl (Or.inl (by decide)) ?_
  intro g4 F o4
  refine zwW_p [(1, 0, 2), (1, 1, 0)] (q := 27) (ls' := [(2, r), (0, a), (0, b), (0, c), (0, d)]) (st' := [(0, a), (2, r)]) (by decide +kernel) rfl ?_
  refine zwX_fp (kd := 11) (bn := 0) (t := 0) (nx := 30) (by decide +kernel) F hr rfl rfl (Or.inr q_a) ?_
  intro g5 F o5
  refine zwW_p [(1, 0, 2), (1, 2, 0)] (q := 32) (ls' := [(2, r), (0, a), (0, b), (0, c), (0, d)]) (st' := [(0, b), (2, r)]) (by decide +kernel) rfl ?_
  refine zwX_fp (kd := 11) (bn := 1) (t := 0) (nx := 35) (by decide +kernel) F hr rfl rfl (Or.inr q_b) ?_
  intro g6 F o6
  refine zwW_p [(1, 0, 2), (1, 3, 0)] (q := 37) (ls' := [(2, r), (0, a), (0, b), (0, c), (0, d)]) (st' := [(0, c), (2, r)]) (by decide +kernel) rfl ?_
  refine zwX_fp (kd := 11) (bn := 2) (t := 0) (nx := 40) (by decide +kernel) F hr rfl rfl (Or.inr q_c) ?_
  intro g7 F o7
  refine zwW_p [(1, 0, 2), (1, 4, 0)] (q := 43) (ls' := [(2, r), (0, a), (0, b), (0, c), (0, d)]) (st' := [(0, d), (2, r)]) (by decide +kernel) rfl ?_
  refine zwX_fp (kd := 11) (bn := 3) (t := 0) (nx := 46) (by decide +kernel) F hr rfl rfl (Or.inr q_d) ?_
  intro g8 F o8
  have hc : cel g8 r = some (11, [a, b, c, d, 0, 0, 0, 0, 20, 10, 0, 0, 0, 0, 0, 0, w]) := F.2.2.1
  have s8 : sh g8 w = some (20, 157) := by
    unfold sh at sw ⊢
    rw [o8 w hwr, o7 w hwr, o6 w hwr, o5 w hwr, o4 w hwr]
    exact sw
  refine zwW_p [(1, 0, 2)] (q := 47) (ls' := [(2, r), (0, a), (0, b), (0, c), (0, d)]) (st' := [(2, r)]) (by decide +kernel) rfl ?_
  refine zwW_get (kd := 11) (bn := 16) (t := 2) (n := 17) (nx := 50) (by decide +kernel) (sh_of hc) rfl ?_
  rw [fld_of hc]
  refine zwW_p [(0, 10, 0)] (q := 52) (ls' := [(2, r), (0, a), (0, b), (0, c), (0, d)]) (st' := [(0, 10), (2, w)]) (by decide +kernel) rfl ?_
  refine zwW_csv (k' := 180) (n := 2) (nx := 55) (as := [(2, w), (0, 10)]) (st' := []) (by decide +kernel) rfl (x180 (P := fun g => zFr h0 g r 11 [a, b, c, d, 0, 0, 0, 0, 20, 10, 0, 0, 0, 0, 0, 0, w] 2 174) s8 (by decide) F (fun g j p s hj => ?_)) rfl ?_
  · obtain ⟨p1, p2, p3, p4, p5⟩ := p
    refine ⟨p1.w rfl (by omega), p2.w rfl (by decide), ?_, by rw [len_wr]; exact p4, by rw [sz_wr]; exact p5⟩
    obtain ⟨l, hcl, -⟩ := sh_cel s
    rw [wr_of hcl, cel_set r (by rw [hcl]; rfl), if_neg (Ne.symm hwr)]
    exact p3
  · rintro g ⟨F, sg, hall⟩
    obtain ⟨Cg, R⟩ := F.fin C
    have hc := F.2.2.1
    refine zwW_retv (nx := 56) (a := 0) (b := 0) (by decide +kernel) ⟨Cg, R, ⟨by omega, sh_of hc, ?_, ?_⟩, by rw [← hw]; exact hc, by rw [← hw]; exact hall⟩
    · rw [fld_of hc]; show 365 < w; omega
    · rw [fld_of hc]; exact sg
end ZN
