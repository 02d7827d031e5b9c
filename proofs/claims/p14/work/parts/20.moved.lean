/-! what a method leans on, carried into its callees -/
def lw_g : List Cond := lw_tbl.filter goodWord
def lw_odd : List Cond := lw_use.filter (fun w => !goodWord w)
theorem usable_good {w : Cond} (h : goodWord w = true) : usable w = true := by
  cases w <;> first | rfl | exact h
theorem g_use {w : Cond} (h : w ∈ lw_g) : w ∈ lw_use := by
  have h1 := List.mem_filter.mp h
  exact List.mem_filter.mpr ⟨h1.1, usable_good h1.2⟩
theorem use_split {w : Cond} (h : w ∈ lw_use) : w ∈ lw_g ∨ w ∈ lw_odd := by
  by_cases hg : goodWord w = true
  · exact Or.inl (List.mem_filter.mpr ⟨(List.mem_filter.mp h).1, hg⟩)
  · exact Or.inr (List.mem_filter.mpr ⟨h, by simpa using hg⟩)
theorem over_args {A A' : Array Value} {U : State} {ty : FieldType} (h : (Cond.arrayOver ty).before A U = true) : (Cond.arrayOver ty).before A' U = true := h
theorem usable_cases {w : Cond} (h : usable w = true) : (∃ a b, w = .castable a b) ∨ (∃ a b c d, w = .methodLinkNest a b c d) ∨ (∃ ty, w = .arrayOver ty) ∨ goodWord w = true := by
  cases w <;> first
    | exact Or.inl ⟨_, _, rfl⟩
    | exact Or.inr (Or.inl ⟨_, _, _, _, rfl⟩)
    | exact Or.inr (Or.inr (Or.inl ⟨_, rfl⟩))
    | exact Or.inr (Or.inr (Or.inr h))
theorem odd_cases {w : Cond} (hw : w ∈ lw_odd) : (∃ a b, w = .castable a b) ∨ (∃ a b c d, w = .methodLinkNest a b c d) ∨ (∃ ty, w = .arrayOver ty) := by
  obtain ⟨h1, h2⟩ := List.mem_filter.mp hw
  rcases usable_cases (List.mem_filter.mp h1).2 with h | h | h | h
  · exact Or.inl h
  · exact Or.inr (Or.inl h)
  · exact Or.inr (Or.inr h)
  · rw [h] at h2
    cases h2
theorem odd_warm {w : Cond} {A A' : Array Value} {s U : State} (hw : w ∈ lw_odd) (hW : s.WarmedH U.vm) (h : w.before A s = true) : w.before A' U = true := by
  rcases odd_cases hw with ⟨a, b, rfl⟩ | ⟨a, b, c, d, rfl⟩ | ⟨ty, rfl⟩
  · exact va_Nw.use rfl (va_Nw.warmC hW (va_Nw.of rfl h))
  · exact va_Nw.use rfl (va_Nw.warmM hW (va_Nw.of rfl h))
  · have h4 : (Cond.arrayOver ty).before A (s.setVm U.vm) = true := Cond.before_shiftedOver (State.Shifted.of_warmed hW) _ rfl h
    exact h4
theorem odd_args {w : Cond} {A A' : Array Value} {s : State} (hw : w ∈ lw_odd) (h : w.before A s = true) : w.before A' s = true := by
  rcases odd_cases hw with ⟨a, b, rfl⟩ | ⟨a, b, c, d, rfl⟩ | ⟨ty, rfl⟩
  · exact va_Nw.use rfl (va_Nw.of rfl h)
  · exact va_Nw.use rfl (va_Nw.of rfl h)
  · exact h
theorem odd_call {w : Cond} {A : Array Value} {U : State} {g : JFrame} {mk : MethodId} {a : Array Value} (hw : w ∈ lw_odd) (h : w.before A U = true) : w.before A (U.calling g mk a) = true := by
  rcases odd_cases hw with ⟨a, b, rfl⟩ | ⟨a, b, c, d, rfl⟩ | ⟨ty, rfl⟩
  · exact va_tabs rfl (rfl : U.vm = (U.calling g mk _).vm) h
  · exact va_tabs rfl (rfl : U.vm = (U.calling g mk _).vm) h
  · exact h
theorem Stt_ext {base n : Nat} {rf rf' : Int → Option Nat} {sc : List Int} {s : State} (h : ∀ x : Int, x ≤ n → rf' x = rf x) (hS : Stt base rf sc s) : Stt base rf' sc s := by
  obtain ⟨h1, h2, ⟨t, h3, h4⟩, ⟨b, h5, h6⟩, adK, adV, h7, h8, h9, g1, g2, ⟨mi, g3, g4⟩, g5⟩ := hS
  refine ⟨h1, by rw [h 0 (by omega)]; exact h2, ⟨t, by rw [h (-2) (by omega)]; exact h3, h4⟩, ⟨b, by rw [h (-1) (by omega)]; exact h5, h6⟩, adK, adV, h7, fun i hi => ?_, h9, g1, by rw [h (-3) (by omega)]; exact g2, ⟨mi, by rw [h (-4) (by omega)]; exact g3, g4⟩, g5⟩
  rw [h _ (show (-10 - (i : Int)) ≤ n by omega), h _ (show (-100 - (i : Int)) ≤ n by omega)]
  exact h8 i hi
theorem Stt_moved {base : Nat} {rf : Int → Option Nat} {sc : List Int} {s U : State} {locs : List Loc} (hW : s.WarmedH U.vm) (hSS : va_S (A0 base) s.heap U.heap locs) (hS : Stt base rf sc s) : Stt base rf sc U := by
  obtain ⟨h1, h2, ⟨t, h3, h4, h4'⟩, ⟨b, h5, h6, h6', h6''⟩, adK, adV, h7, h8, h9, g1, g2, ⟨mi, g3, g4⟩, g5⟩ := hS
  have hq : ∀ a : Nat, a < s.heap.size → ¬ A0 base a → U.heap[a]? = s.heap[a]? := hSS.2.1
  refine ⟨Nat.le_trans h1 hSS.1, h2, ⟨t, h3, (va_Z.moved hW.alike h4).kept hq, (va_T.moved hW.alike h4').kept hq⟩, ⟨b, h5, h6, (va_X.moved hW.alike h6').kept (hq b (by omega) (by show ¬ base ≤ b; omega)), h6''⟩, adK, adV, (vk_S.moved hW.alike h7).kept hq, h8, fun i q hi => vk_R.warm hW (h9 i q hi), (va_Z.moved hW.alike g1).kept hq, (va_Z.moved hW.alike g2).kept hq, ⟨mi, g3, va_Mi.moved hW.alike g4⟩, va_Dc.moved hW.alike g5⟩
theorem Stt_call {base : Nat} {rf : Int → Option Nat} {sc : List Int} {U : State} {g : JFrame} {mk : MethodId} {a : Array Value} (hS : Stt base rf sc U) : Stt base rf sc (U.calling g mk a) := by
  obtain ⟨h1, h2, ⟨t, h3, h4, h4'⟩, ⟨b, h5, h6, h6', h6''⟩, adK, adV, h7, h8, h9, g1, g2, ⟨mi, g3, g4⟩, g5⟩ := hS
  have hal : U.vm.Alike (U.calling g mk a).vm := Vm.Alike.refl U.vm
  exact ⟨h1, h2, ⟨t, h3, va_Z.moved hal h4, va_T.moved hal h4'⟩, ⟨b, h5, h6, va_X.moved hal h6', h6''⟩, adK, adV, vk_S.moved hal h7, h8, fun i q hi => vk_R.same (u := U) rfl (h9 i q hi), va_Z.moved hal g1, va_Z.moved hal g2, ⟨mi, g3, va_Mi.moved hal g4⟩, va_Dc.moved hal g5⟩
/-- what holds of a state where a method starts -/
def InvM (base : Nat) (D : va_G) (cA : Nat → ClassId) (rf : Int → Option Nat) (sc : List Int) (hp : Hp) (U : State) : Prop :=
  va_P D vwCl (wld rf cA hp) U.heap ∧ va_K D vwCl (ktys cA) U ∧ Stt base rf sc U ∧ ∀ w ∈ lw_odd, w.before #[] U = true
def PcM (base : Nat) (D : va_G) (cA : Nat → ClassId) (rf : Int → Option Nat) (sc : List Int) (as : List Vl) (hp : Hp) : Array Value → State → Prop := fun v U => v = (as.map (toV rf)).toArray ∧ InvM base D cA rf sc hp U
def QcM (base : Nat) (D : va_G) (cA : Nat → ClassId) (rf : Int → Option Nat) (hp : Hp) (r : Option Vl) (hp' : Hp) : Array Value → State → Outcome → State → Prop := fun _ st oc t =>
  ∃ rf' : Int → Option Nat, (∀ x : Int, x ≤ hp.length → rf' x = rf x) ∧ oc = .returned (r.map (toV rf')) ∧ va_P D vwCl (wld rf' cA hp') t.heap ∧ va_D (A0 base) (wld rf' cA hp') ∧ wfH hp' ∧ Rf base rf' hp'.length ∧ (∀ v, r = some v → okV hp'.length v) ∧ va_F (A0 base) st t
def rmM (d mc ms : Nat) : Room := { frames := d, cells := mc, slots := ms, locals := 64 * d }
theorem InvM_blind {base : Nat} {D : va_G} {cA : Nat → ClassId} {rf : Int → Option Nat} {sc : List Int} {as : List Vl} {hp : Hp} : FrameBlind (PcM base D cA rf sc as hp) := by
  intro a U g mk h
  obtain ⟨h1, h2, h3, h4, h5⟩ := h
  have hal : U.vm.Alike (U.calling g mk a).vm := Vm.Alike.refl U.vm
  exact ⟨h1, h2, va_K.moved hal h3, Stt_call h4, fun w hw => odd_call hw (h5 w hw)⟩
