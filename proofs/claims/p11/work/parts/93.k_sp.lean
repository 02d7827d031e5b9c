/-! what spinning needs: a lot made, the tables told -/
section YPX
variable {h g : Hp} {S : zT} {k n i : Nat} {x r : Int}
theorem zX_of {a : Nat} (C : CI h) (J : yR h) (Z : yC h = zs S a i x) (e : (a ≠ 37 ∧ a ≠ 79 ∧ a ≠ 80) ∧ (a ≠ 81 ∧ a ≠ 85) ∧ a ≠ 66 ∧ a ≠ 39) (B : zBs S) : zX h S := by
  have X := zX_yC C J
  rw [Z] at X
  have A : zAg (zs S a i x) S := zAg_zs e
  exact X.cg A (zBs.cg A.sy B)
theorem yC_lot2 {x0 x1 x2 x3 x4 x5 x6 : Int} (C : CI h) (J : yR h) (D : zAdded h 4 r g) (G : gL h r) (F : cel h r = some (6, [x0, x1, x2, x3, x4, x5, x6])) (hn : (n : Int) = fld h 4 2) (h0 : x0 = n) (h1 : x1 = zv h 3 k) (hk : (k : Int) < fld h 3 2) : yC g = zs (zs (zs (zs (zs (zs (zs (yC h) 170 n k) 171 n x2) 172 n x3) 173 n x4) 174 n x5) 175 n x6) 37 64 (n + 1) := yC_lot C J D G F hn h0 h1 hk
theorem yR_lot {x0 x1 x2 x3 x4 x5 x6 : Int} (C : CI h) (J : yR h) (D : zAdded h 4 r g) (G : gL h r) (F : cel h r = some (6, [x0, x1, x2, x3, x4, x5, x6])) (hn : (n : Int) = fld h 4 2) (h0 : x0 = n) (h1 : x1 = zv h 3 k) (hk : (k : Int) < fld h 3 2) : yR g := by
  refine yR_add C J (A := 4) (by decide) D G hn (fun _ => by rw [fld_of F]; exact h0) (fun j B hj => ?_) (fun z => by omega) (fun z => by omega)
  have e : j = 1 ∧ B = 3 := by omega
  obtain ⟨rfl, rfl⟩ := e
  exact ⟨k, hk, by rw [fld_of F]; exact h1⟩
theorem yStr_in : -2147483648 ≤ yStr S k ∧ yStr S k ≤ 2147483647 := by
  unfold yStr w32
  omega
theorem x231_z {sc : List Int} {st : Int} (h0 : Hp) (C : CI h0) (a v b d : Int) (q_a : -2147483648 ≤ a ∧ a ≤ 2147483647) (q_b : -2147483648 ≤ b ∧ b ≤ 2147483647) (q_d : -2147483648 ≤ d ∧ d ≤ 2147483647) (G : gH h0 v) (S : ∀ g, zOld h0 g → CI g → zwC sc 1 169 [(2, v)] g (zwRt 0 (fun x g' => g = g' ∧ x = st))) (q_st : -2147483648 ≤ st ∧ st ≤ 2147483647) : zwC sc 2 231 [(2, ((h0.length + 1 : Nat) : Int)), (0, a), (2, v), (0, b), (0, d)] (h0 ++ [(6, List.replicate 7 0)]) (zwRv (fun g => CI g ∧ zXR [] 1 7 h0 g ∧ gL g ((h0.length + 1 : Nat) : Int) ∧ cel g ((h0.length + 1 : Nat) : Int) = some (6, [a, v, b, fld h0 v 7, st, d, d]))) := by
  have F := zFr.start C (kd := 6) (n := 7)
  have hlen := C.len
  obtain ⟨r, er⟩ : ∃ r, r = ((h0.length + 1 : Nat) : Int) := ⟨_, rfl⟩
  rw [← er] at F ⊢
  have hr : (h0.length : Int) < r := by omega
  have hv := sh_pos G.2.1
  have hvr : v ≠ r := by omega
  have hb := C.2.1 v 4 19 7 G.1 G.2.1 rfl
  refine zwC_of (D := 1) 5 (by decide +kernel) rfl (ls := [(2, r), (0, a), (2, v), (0, b), (0, d)]) rfl ?_
  refine zwW_p [(1, 0, 2)] (q := 1) (ls' := [(2, r), (0, a), (2, v), (0, b), (0, d)]) (st' := [(2, r)]) (by decide +kernel) rfl ?_
  refine zwW_obj (nx := 4) (by decide +kernel) (by omega) rfl ?_
  refine zwW_p [(1, 0, 2), (1, 1, 0)] (q := 6) (ls' := [(2, r), (0, a), (2, v), (0, b), (0, d)]) (st' := [(0, a), (2, r)]) (by decide +kernel) rfl ?_
  refine zwX_fp (kd := 6) (bn := 0) (t := 0) (nx := 9) (by decide +kernel) F hr rfl rfl (Or.inr q_a) ?_
  intro g1 F o
  refine zwW_p [(1, 0, 2), (1, 2, 2)] (q := 11) (ls' := [(2, r), (0, a), (2, v), (0, b), (0, d)]) (st' := [(2, v), (2, r)]) (by decide +kernel) rfl ?_
  refine zwX_fp (kd := 6) (bn := 1) (t := 2) (nx := 14) (by decide +kernel) F hr rfl rfl (Or.inl (by decide)) ?_
  intro g2 F o
  refine zwW_p [(1, 0, 2), (1, 3, 0)] (q := 16) (ls' := [(2, r), (0, a), (2, v), (0, b), (0, d)]) (st' := [(0, b), (2, r)]) (by decide +kernel) rfl ?_
  refine zwX_fp (kd := 6) (bn := 2) (t := 0) (nx := 19) (by decide +kernel) F hr rfl rfl (Or.inr q_b) ?_
  intro g3 F o
  refine zwW_p [(1, 0, 2), (1, 4, 0)] (q := 22) (ls' := [(2, r), (0, a), (2, v), (0, b), (0, d)]) (st' := [(0, d), (2, r)]) (by decide +kernel) rfl ?_
  refine zwX_fp (kd := 6) (bn := 5) (t := 0) (nx := 25) (by decide +kernel) F hr rfl rfl (Or.inr q_d) ?_
  intro g4 F o
  refine zwW_p [(1, 0, 2), (1, 2, 2)] (q := 27) (ls' := [(2, r), (0, a), (2, v), (0, b), (0, d)]) (st' := [(2, v), (2, r)]) (by decide +kernel) rfl ?_
  refine zwW_get (kd := 4) (bn := 7) (t := 0) (n := 19) (nx := 30) (by decide +kernel) (F.1.sp G.2.1) rfl ?_
  rw [F.1.fl hv.2]
  refine zwX_fp (kd := 6) (bn := 3) (t := 0) (nx := 33) (by decide +kernel) F hr rfl rfl (Or.inr hb) ?_
  intro g5 F o
  refine zwW_p [(1, 0, 2), (1, 2, 2)] (q := 35) (ls' := [(2, r), (0, a), (2, v), (0, b), (0, d)]) (st' := [(2, v), (2, r)]) (by decide +kernel) rfl ?_
  refine zwW_cv (op := 60) (k' := 169) (n := 0) (kd := 4) (m := 19) (nx := 38) (r := v) (tl := []) (st' := [(2, r)]) (by decide +kernel) rfl (by decide +kernel) (F.1.sp G.2.1) (S g5 F.1 (C.old F.1 F.2.1)) rfl ?_
  rintro z _ ⟨rfl, hz⟩
  subst hz
  refine zwX_fp (kd := 6) (bn := 4) (t := 0) (nx := 41) (by decide +kernel) F hr rfl rfl (Or.inr q_st) ?_
  intro g6 F o
  refine zwW_p [(1, 0, 2), (1, 4, 0)] (q := 44) (ls' := [(2, r), (0, a), (2, v), (0, b), (0, d)]) (st' := [(0, d), (2, r)]) (by decide +kernel) rfl ?_
  refine zwX_fp (kd := 6) (bn := 6) (t := 0) (nx := 47) (by decide +kernel) F hr rfl rfl (Or.inr q_d) ?_
  intro g7 F o
  obtain ⟨Cg, R⟩ := F.fin C
  have hc : cel g7 r = some (6, [a, v, b, fld h0 v 7, _, d, d]) := F.2.2.1
  refine zwW_retv (nx := 48) (a := 0) (b := 0) (by decide +kernel) ⟨Cg, R, ⟨by omega, sh_of hc, ?_⟩, hc⟩
  rw [fld_of hc]
  exact G.x R
end YPX
