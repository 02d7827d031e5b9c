/-! what was read, as a sheet -/
section ZT
variable {sc : List Int} {h : Hp}
theorem x122 {sc : List Int} (h : Hp) (C : CI h) (a : Int) (q_a : -2147483648 ≤ a ∧ a ≤ 2147483647) : zwC sc 3 122 [(2, 9), (0, a)] h (zwRt 2 (fun x g => CI g ∧ zXR [] 3 408 h g ∧ gS g x)) := by
  refine zwC_of (D := 2) 2 (by decide +kernel) rfl (ls := [(2, 9), (0, a)]) rfl ?_
  have F0 := zFr.start C (kd := 10) (n := 3)
  have hlen := C.len
  refine zwW_new (kd := 10) (n := 3) (nx := 3) (by decide +kernel) rfl rfl ?_
  rintro h1 r e1 er
  rw [← e1, ← er] at F0
  have C1 : CI h1 := C.old F0.1 F0.2.1
  refine zwW_p [(12, 0, 0), (1, 1, 0), (1, 0, 2)] (q := 6) (ls' := [(2, 9), (0, a)]) (st' := [(2, 9), (0, a), (2, r), (2, r)]) (by decide +kernel) rfl ?_
  refine zwW_gc C1.1 (kd := 7) (bn := 7) (n := 9) (c := 11) (nx := 9) (by decide +kernel) ?_
  refine zwW_p [(1, 0, 2)] (q := 10) (ls' := [(2, 9), (0, a)]) (st' := [(2, 9), (2, 11), (0, a), (2, r), (2, r)]) (by decide +kernel) rfl ?_
  refine zwW_gs C1.1 (kd := 7) (bn := 6) (n := 9) (t := 0) (lo := 0) (hi := 400) (nx := 13) (by decide +kernel) ?_
  intro n en ln un
  have s11 := C1.1.s (a1 := 11) (a2 := 11) (k := 20) (n := 400) (by decide +kernel) (r := 11) (by decide) (by decide)
  refine zwW_cs (k' := 202) (n := 2) (nx := 16) (as := [(2, 11), (0, n)]) (st' := [(0, a), (2, r), (2, r)]) (by decide +kernel) rfl (x202 s11 ⟨by omega, by omega⟩ (by decide)) rfl ?_
  rintro v h2 ⟨ev, l, e2, hl, hall⟩
  have O2 : zOld h1 h2 := by rw [e2]; exact zOld.app _
  have Y2 : zDy h2 := by
    rw [e2]
    refine F0.2.1.app (fun x hx => ?_)
    obtain ⟨i, hi, rfl⟩ := List.getElem_of_mem hx
    have w := hall i (by omega)
    rw [List.getD_eq_getElem?_getD, List.getElem?_eq_getElem hi] at w
    have w : l[i] = fld h1 11 i := w
    rw [w]
    exact C1.1.b (a1 := 11) (a2 := 11) (j1 := 0) (j2 := 400) (by decide +kernel) (by decide) (by decide) (by omega) (by omega)
  have C2 : CI h2 := C.old (F0.1.tr O2) Y2
  have sv : sh h2 v = some (20, l.length) := by rw [e2, ev]; exact sh_new 20 l
  refine zwW_p [(1, 0, 2)] (q := 17) (ls' := [(2, 9), (0, a)]) (st' := [(2, 9), (2, v), (0, a), (2, r), (2, r)]) (by decide +kernel) rfl ?_
  refine zwW_gc C2.1 (kd := 7) (bn := 8) (n := 9) (c := 12) (nx := 20) (by decide +kernel) ?_
  have s12 := C2.1.s (a1 := 12) (a2 := 12) (k := 20) (n := 5) (by decide +kernel) (r := 12) (by decide) (by decide)
  obtain ⟨lb, cb, nb⟩ := sh_cel s12
  refine zwW_clone (nx := 23) (by decide +kernel) cb rfl ?_
  obtain ⟨h3, e3⟩ : ∃ z, z = h2 ++ [(20, lb)] := ⟨_, rfl⟩
  obtain ⟨w, ew⟩ : ∃ z, z = ((h2.length + 1 : Nat) : Int) := ⟨_, rfl⟩
  rw [← e3, ← ew]
  have O3 : zOld h2 h3 := by rw [e3]; exact zOld.app _
  have Y3 : zDy h3 := by
    rw [e3]
    refine Y2.app (fun x hx => ?_)
    obtain ⟨i, hi, rfl⟩ := List.getElem_of_mem hx
    have q := C2.1.b (a1 := 12) (a2 := 12) (j1 := 0) (j2 := 5) (lo := -2147483648) (hi := 2147483647) (by decide +kernel) (r := 12) (j := i) (by decide) (by decide) (by omega) (by omega)
    rw [fld_of cb, List.getD_eq_getElem?_getD, List.getElem?_eq_getElem hi] at q
    exact q
  have sw : sh h3 w = some (20, 5) := by rw [e3, ew, ← nb]; exact sh_new 20 lb
  have l1 : h1.length = h.length + 1 := F0.2.2.2.1
  have l2 : h2.length = h.length + 2 := by rw [e2, List.length_append, List.length_singleton, l1]
  have F : zFr h h3 r 10 (List.replicate 3 0) 3 (3 + l.length + 5) := by
    refine ⟨(F0.1.tr O2).tr O3, Y3, ?_, by rw [e3, List.length_append, List.length_singleton, l2], ?_⟩
    · rw [O3.2 r (by omega), O2.2 r (by omega)]
      exact F0.2.2.1
    · rw [e3, sz_app, e2, sz_app, F0.2.2.2.2]
      unfold sz
      simp [nb]
      omega
  refine zwW_cast (a := 20) (kd := 20) (n := 5) (nx := 26) (by decide +kernel) rfl (Or.inr sw) ?_
  refine zwW_cvv (op := 62) (k' := 203) (n := 3) (kd := 10) (m := 3) (nx := 29) (r := r) (tl := [(0, a), (2, v), (2, w)]) (st' := [(2, r)]) (by decide +kernel) rfl (by decide +kernel) (sh_of F.2.2.1) (x203 h h3 C r a v w F (by omega) q_a ⟨by omega, O3.sp sv, by omega⟩ ⟨by omega, sw, by omega⟩) rfl ?_
  rintro g ⟨Cg, R, G, -, -⟩
  exact zwW_ret (nx := 30) (a := 0) (b := 2) (by decide +kernel) rfl (Or.inl rfl) ⟨Cg, R.le (by decide) (by omega), G⟩
end ZT
