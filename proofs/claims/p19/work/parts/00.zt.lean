/-! tables read by the recursors themselves: few steps for the kernel -/
section
variable {α : Type}
/-- the n-th of a list, or d -/
noncomputable def kzN (d : α) (n : Nat) (l : List α) : α := Nat.rec (motive := fun _ => List α → α) (fun l => List.rec (motive := fun _ => α) d (fun a _ _ => a) l) (fun _ ih l => List.rec (motive := fun _ => α) d (fun _ t _ => ih t) l) n l
theorem kzN_mem (d : α) : ∀ (n : Nat) (l : List α), kzN d n l ∈ l ∨ kzN d n l = d
  | 0, [] => Or.inr rfl
  | 0, _ :: _ => Or.inl List.mem_cons_self
  | _ + 1, [] => Or.inr rfl
  | n + 1, _ :: t => (kzN_mem d n t).elim (fun h => Or.inl (List.mem_cons_of_mem _ h)) Or.inr
theorem kzN_ge (d : α) : ∀ (n : Nat) (l : List α), l.length ≤ n → kzN d n l = d
  | 0, [], _ => rfl
  | 0, _ :: _, h => absurd h (Nat.not_succ_le_zero _)
  | _ + 1, [], _ => rfl
  | n + 1, _ :: t, h => kzN_ge d n t (Nat.le_of_succ_le_succ h)
/-- a list without its first n -/
noncomputable def kzD (n : Nat) (l : List α) : List α := Nat.rec (motive := fun _ => List α → List α) (fun l => l) (fun _ ih l => List.rec (motive := fun _ => List α) [] (fun _ t _ => ih t) l) n l
theorem kzD_eq : ∀ (n : Nat) (l : List α), kzD n l = l.drop n
  | 0, _ => List.drop_zero.symm
  | _ + 1, [] => List.drop_nil.symm
  | n + 1, _ :: t => kzD_eq n t
noncomputable def kzE (p : α → Bool) (l : List α) : Bool := List.rec (motive := fun _ => Bool) false (fun a _ ih => cond (p a) true ih) l
theorem kzE_of {p : α → Bool} : ∀ {l : List α}, kzE p l = true → ∃ a ∈ l, p a = true
  | [], h => absurd (show false = true from h) Bool.false_ne_true
  | a :: t, h => by
    have h : cond (p a) true (kzE p t) = true := h
    cases e : p a with
    | true => exact ⟨a, List.mem_cons_self, e⟩
    | false =>
      rw [e] at h
      obtain ⟨b, hb, hp⟩ := kzE_of (l := t) h
      exact ⟨b, List.mem_cons_of_mem _ hb, hp⟩
noncomputable def kzA (p : α → Bool) (l : List α) : Bool := List.rec (motive := fun _ => Bool) true (fun a _ ih => cond (p a) ih false) l
theorem kzA_of {p : α → Bool} : ∀ {l : List α}, kzA p l = true → ∀ a ∈ l, p a = true
  | [], _, _, hb => by cases hb
  | a :: t, h, b, hb => by
    have h : cond (p a) (kzA p t) false = true := h
    cases e : p a with
    | false => rw [e] at h; exact absurd (show false = true from h) Bool.false_ne_true
    | true =>
      rw [e] at h
      rcases List.mem_cons.mp hb with rfl | hb
      · exact e
      · exact kzA_of (l := t) h b hb
end
theorem kzD_mem {α : Type} {n : Nat} {l : List α} {a : α} (h : a ∈ kzD n l) : a ∈ l := by
  rw [kzD_eq] at h
  exact List.mem_of_mem_drop h
noncomputable def kzW (l : List Cond) (n : Nat) : Option Cond := List.rec (motive := fun _ => Option Cond) none (fun a _ _ => some a) (kzD n l)
theorem kzW_mem {l : List Cond} {n : Nat} {w : Cond} (h : kzW l n = some w) : w ∈ l := by
  unfold kzW at h
  cases e : kzD n l with
  | nil => rw [e] at h; cases h
  | cons a t =>
    rw [e] at h
    cases h
    exact kzD_mem (n := n) (by rw [e]; exact List.mem_cons_self)
theorem tm0 : ∀ w ∈ tables_1_1, w ∈ tables_1 := fun w h => List.mem_append_left _ h
theorem tm1 : ∀ w ∈ tables_1_2, w ∈ tables_1 := fun w h => List.mem_append_right _ (List.mem_append_left _ h)
theorem tm2 : ∀ w ∈ tables_1_3, w ∈ tables_1 := fun w h => List.mem_append_right _ (List.mem_append_right _ (List.mem_append_left _ h))
theorem tm3 : ∀ w ∈ tables_1_4, w ∈ tables_1 := fun w h => List.mem_append_right _ (List.mem_append_right _ (List.mem_append_right _ (List.mem_append_left _ h)))
theorem tm4 : ∀ w ∈ tables_1_5, w ∈ tables_1 := fun w h => List.mem_append_right _ (List.mem_append_right _ (List.mem_append_right _ (List.mem_append_right _ (List.mem_append_left _ h))))
theorem tm5 : ∀ w ∈ tables_1_6, w ∈ tables_1 := fun w h => List.mem_append_right _ (List.mem_append_right _ (List.mem_append_right _ (List.mem_append_right _ (List.mem_append_right _ (List.mem_append_left _ h)))))
theorem tm6 : ∀ w ∈ tables_1_7, w ∈ tables_1 := fun w h => List.mem_append_right _ (List.mem_append_right _ (List.mem_append_right _ (List.mem_append_right _ (List.mem_append_right _ (List.mem_append_right _ (List.mem_append_left _ h))))))
theorem tm7 : ∀ w ∈ tables_1_8, w ∈ tables_1 := fun w h => List.mem_append_right _ (List.mem_append_right _ (List.mem_append_right _ (List.mem_append_right _ (List.mem_append_right _ (List.mem_append_right _ (List.mem_append_right _ (List.mem_append_left _ h)))))))
theorem tm8 : ∀ w ∈ tables_1_9, w ∈ tables_1 := fun w h => List.mem_append_right _ (List.mem_append_right _ (List.mem_append_right _ (List.mem_append_right _ (List.mem_append_right _ (List.mem_append_right _ (List.mem_append_right _ (List.mem_append_right _ (h))))))))
noncomputable def tr0 : List Cond := kzD 0 tables_1_1
theorem tn0 : ∀ w ∈ tr0, w ∈ tables_1 := fun w h => tm0 w (kzD_mem h)
noncomputable def tr1 : List Cond := kzD 32 tables_1_1
theorem tn1 : ∀ w ∈ tr1, w ∈ tables_1 := fun w h => tm0 w (kzD_mem h)
noncomputable def tr2 : List Cond := kzD 64 tables_1_1
theorem tn2 : ∀ w ∈ tr2, w ∈ tables_1 := fun w h => tm0 w (kzD_mem h)
noncomputable def tr3 : List Cond := kzD 96 tables_1_1
theorem tn3 : ∀ w ∈ tr3, w ∈ tables_1 := fun w h => tm0 w (kzD_mem h)
noncomputable def tr4 : List Cond := kzD 128 tables_1_1
theorem tn4 : ∀ w ∈ tr4, w ∈ tables_1 := fun w h => tm0 w (kzD_mem h)
noncomputable def tr5 : List Cond := kzD 160 tables_1_1
theorem tn5 : ∀ w ∈ tr5, w ∈ tables_1 := fun w h => tm0 w (kzD_mem h)
noncomputable def tr6 : List Cond := kzD 192 tables_1_1
theorem tn6 : ∀ w ∈ tr6, w ∈ tables_1 := fun w h => tm0 w (kzD_mem h)
noncomputable def tr7 : List Cond := kzD 224 tables_1_1 ++ tables_1_2
theorem tn7 : ∀ w ∈ tr7, w ∈ tables_1 := fun w h => (List.mem_append.mp h).elim (fun h => tm0 w (kzD_mem h)) (tm1 w)
noncomputable def tr8 : List Cond := kzD 16 tables_1_2
theorem tn8 : ∀ w ∈ tr8, w ∈ tables_1 := fun w h => tm1 w (kzD_mem h)
noncomputable def tr9 : List Cond := kzD 48 tables_1_2
theorem tn9 : ∀ w ∈ tr9, w ∈ tables_1 := fun w h => tm1 w (kzD_mem h)
noncomputable def tr10 : List Cond := kzD 80 tables_1_2
theorem tn10 : ∀ w ∈ tr10, w ∈ tables_1 := fun w h => tm1 w (kzD_mem h)
noncomputable def tr11 : List Cond := kzD 112 tables_1_2
theorem tn11 : ∀ w ∈ tr11, w ∈ tables_1 := fun w h => tm1 w (kzD_mem h)
noncomputable def tr12 : List Cond := kzD 144 tables_1_2
theorem tn12 : ∀ w ∈ tr12, w ∈ tables_1 := fun w h => tm1 w (kzD_mem h)
noncomputable def tr13 : List Cond := kzD 176 tables_1_2
theorem tn13 : ∀ w ∈ tr13, w ∈ tables_1 := fun w h => tm1 w (kzD_mem h)
noncomputable def tr14 : List Cond := kzD 208 tables_1_2
theorem tn14 : ∀ w ∈ tr14, w ∈ tables_1 := fun w h => tm1 w (kzD_mem h)
noncomputable def tr15 : List Cond := kzD 0 tables_1_3
theorem tn15 : ∀ w ∈ tr15, w ∈ tables_1 := fun w h => tm2 w (kzD_mem h)
noncomputable def tr16 : List Cond := kzD 32 tables_1_3
theorem tn16 : ∀ w ∈ tr16, w ∈ tables_1 := fun w h => tm2 w (kzD_mem h)
noncomputable def tr17 : List Cond := kzD 64 tables_1_3
theorem tn17 : ∀ w ∈ tr17, w ∈ tables_1 := fun w h => tm2 w (kzD_mem h)
noncomputable def tr18 : List Cond := kzD 96 tables_1_3
theorem tn18 : ∀ w ∈ tr18, w ∈ tables_1 := fun w h => tm2 w (kzD_mem h)
noncomputable def tr19 : List Cond := kzD 128 tables_1_3
theorem tn19 : ∀ w ∈ tr19, w ∈ tables_1 := fun w h => tm2 w (kzD_mem h)
noncomputable def tr20 : List Cond := kzD 160 tables_1_3
theorem tn20 : ∀ w ∈ tr20, w ∈ tables_1 := fun w h => tm2 w (kzD_mem h)
noncomputable def tr21 : List Cond := kzD 192 tables_1_3
theorem tn21 : ∀ w ∈ tr21, w ∈ tables_1 := fun w h => tm2 w (kzD_mem h)
noncomputable def tr22 : List Cond := kzD 224 tables_1_3 ++ tables_1_4
theorem tn22 : ∀ w ∈ tr22, w ∈ tables_1 := fun w h => (List.mem_append.mp h).elim (fun h => tm2 w (kzD_mem h)) (tm3 w)
noncomputable def tr23 : List Cond := kzD 16 tables_1_4
theorem tn23 : ∀ w ∈ tr23, w ∈ tables_1 := fun w h => tm3 w (kzD_mem h)
noncomputable def tr24 : List Cond := kzD 48 tables_1_4
theorem tn24 : ∀ w ∈ tr24, w ∈ tables_1 := fun w h => tm3 w (kzD_mem h)
noncomputable def tr25 : List Cond := kzD 80 tables_1_4
theorem tn25 : ∀ w ∈ tr25, w ∈ tables_1 := fun w h => tm3 w (kzD_mem h)
noncomputable def tr26 : List Cond := kzD 112 tables_1_4
theorem tn26 : ∀ w ∈ tr26, w ∈ tables_1 := fun w h => tm3 w (kzD_mem h)
noncomputable def tr27 : List Cond := kzD 144 tables_1_4
theorem tn27 : ∀ w ∈ tr27, w ∈ tables_1 := fun w h => tm3 w (kzD_mem h)
noncomputable def tr28 : List Cond := kzD 176 tables_1_4
theorem tn28 : ∀ w ∈ tr28, w ∈ tables_1 := fun w h => tm3 w (kzD_mem h)
noncomputable def tr29 : List Cond := kzD 208 tables_1_4
theorem tn29 : ∀ w ∈ tr29, w ∈ tables_1 := fun w h => tm3 w (kzD_mem h)
noncomputable def tr30 : List Cond := kzD 0 tables_1_5
theorem tn30 : ∀ w ∈ tr30, w ∈ tables_1 := fun w h => tm4 w (kzD_mem h)
noncomputable def tr31 : List Cond := kzD 32 tables_1_5
theorem tn31 : ∀ w ∈ tr31, w ∈ tables_1 := fun w h => tm4 w (kzD_mem h)
noncomputable def tr32 : List Cond := kzD 64 tables_1_5
theorem tn32 : ∀ w ∈ tr32, w ∈ tables_1 := fun w h => tm4 w (kzD_mem h)
noncomputable def tr33 : List Cond := kzD 96 tables_1_5
theorem tn33 : ∀ w ∈ tr33, w ∈ tables_1 := fun w h => tm4 w (kzD_mem h)
noncomputable def tr34 : List Cond := kzD 128 tables_1_5
theorem tn34 : ∀ w ∈ tr34, w ∈ tables_1 := fun w h => tm4 w (kzD_mem h)
noncomputable def tr35 : List Cond := kzD 160 tables_1_5
theorem tn35 : ∀ w ∈ tr35, w ∈ tables_1 := fun w h => tm4 w (kzD_mem h)
noncomputable def tr36 : List Cond := kzD 192 tables_1_5
theorem tn36 : ∀ w ∈ tr36, w ∈ tables_1 := fun w h => tm4 w (kzD_mem h)
noncomputable def tr37 : List Cond := kzD 224 tables_1_5 ++ tables_1_6
theorem tn37 : ∀ w ∈ tr37, w ∈ tables_1 := fun w h => (List.mem_append.mp h).elim (fun h => tm4 w (kzD_mem h)) (tm5 w)
noncomputable def tr38 : List Cond := kzD 16 tables_1_6
theorem tn38 : ∀ w ∈ tr38, w ∈ tables_1 := fun w h => tm5 w (kzD_mem h)
noncomputable def tr39 : List Cond := kzD 48 tables_1_6
theorem tn39 : ∀ w ∈ tr39, w ∈ tables_1 := fun w h => tm5 w (kzD_mem h)
noncomputable def tr40 : List Cond := kzD 80 tables_1_6
theorem tn40 : ∀ w ∈ tr40, w ∈ tables_1 := fun w h => tm5 w (kzD_mem h)
noncomputable def tr41 : List Cond := kzD 112 tables_1_6
theorem tn41 : ∀ w ∈ tr41, w ∈ tables_1 := fun w h => tm5 w (kzD_mem h)
noncomputable def tr42 : List Cond := kzD 144 tables_1_6
theorem tn42 : ∀ w ∈ tr42, w ∈ tables_1 := fun w h => tm5 w (kzD_mem h)
noncomputable def tr43 : List Cond := kzD 176 tables_1_6
theorem tn43 : ∀ w ∈ tr43, w ∈ tables_1 := fun w h => tm5 w (kzD_mem h)
noncomputable def tr44 : List Cond := kzD 208 tables_1_6
theorem tn44 : ∀ w ∈ tr44, w ∈ tables_1 := fun w h => tm5 w (kzD_mem h)
noncomputable def tr45 : List Cond := kzD 0 tables_1_7
theorem tn45 : ∀ w ∈ tr45, w ∈ tables_1 := fun w h => tm6 w (kzD_mem h)
noncomputable def tr46 : List Cond := kzD 32 tables_1_7
theorem tn46 : ∀ w ∈ tr46, w ∈ tables_1 := fun w h => tm6 w (kzD_mem h)
noncomputable def tr47 : List Cond := kzD 64 tables_1_7
theorem tn47 : ∀ w ∈ tr47, w ∈ tables_1 := fun w h => tm6 w (kzD_mem h)
noncomputable def tr48 : List Cond := kzD 96 tables_1_7
theorem tn48 : ∀ w ∈ tr48, w ∈ tables_1 := fun w h => tm6 w (kzD_mem h)
noncomputable def tr49 : List Cond := kzD 128 tables_1_7
theorem tn49 : ∀ w ∈ tr49, w ∈ tables_1 := fun w h => tm6 w (kzD_mem h)
noncomputable def tr50 : List Cond := kzD 160 tables_1_7
theorem tn50 : ∀ w ∈ tr50, w ∈ tables_1 := fun w h => tm6 w (kzD_mem h)
noncomputable def tr51 : List Cond := kzD 192 tables_1_7
theorem tn51 : ∀ w ∈ tr51, w ∈ tables_1 := fun w h => tm6 w (kzD_mem h)
noncomputable def tr52 : List Cond := kzD 224 tables_1_7 ++ tables_1_8
theorem tn52 : ∀ w ∈ tr52, w ∈ tables_1 := fun w h => (List.mem_append.mp h).elim (fun h => tm6 w (kzD_mem h)) (tm7 w)
noncomputable def tr53 : List Cond := kzD 16 tables_1_8
theorem tn53 : ∀ w ∈ tr53, w ∈ tables_1 := fun w h => tm7 w (kzD_mem h)
noncomputable def tr54 : List Cond := kzD 48 tables_1_8
theorem tn54 : ∀ w ∈ tr54, w ∈ tables_1 := fun w h => tm7 w (kzD_mem h)
noncomputable def tr55 : List Cond := kzD 80 tables_1_8
theorem tn55 : ∀ w ∈ tr55, w ∈ tables_1 := fun w h => tm7 w (kzD_mem h)
noncomputable def tr56 : List Cond := kzD 112 tables_1_8
theorem tn56 : ∀ w ∈ tr56, w ∈ tables_1 := fun w h => tm7 w (kzD_mem h)
noncomputable def tr57 : List Cond := kzD 144 tables_1_8
theorem tn57 : ∀ w ∈ tr57, w ∈ tables_1 := fun w h => tm7 w (kzD_mem h)
noncomputable def tr58 : List Cond := kzD 176 tables_1_8
theorem tn58 : ∀ w ∈ tr58, w ∈ tables_1 := fun w h => tm7 w (kzD_mem h)
noncomputable def tr59 : List Cond := kzD 208 tables_1_8
theorem tn59 : ∀ w ∈ tr59, w ∈ tables_1 := fun w h => tm7 w (kzD_mem h)
noncomputable def tr60 : List Cond := kzD 0 tables_1_9
theorem tn60 : ∀ w ∈ tr60, w ∈ tables_1 := fun w h => tm8 w (kzD_mem h)
noncomputable def tr61 : List Cond := kzD 32 tables_1_9
theorem tn61 : ∀ w ∈ tr61, w ∈ tables_1 := fun w h => tm8 w (kzD_mem h)
noncomputable def tr62 : List Cond := kzD 64 tables_1_9
theorem tn62 : ∀ w ∈ tr62, w ∈ tables_1 := fun w h => tm8 w (kzD_mem h)
noncomputable def tr63 : List Cond := kzD 96 tables_1_9
theorem tn63 : ∀ w ∈ tr63, w ∈ tables_1 := fun w h => tm8 w (kzD_mem h)
noncomputable def tr64 : List Cond := kzD 128 tables_1_9
theorem tn64 : ∀ w ∈ tr64, w ∈ tables_1 := fun w h => tm8 w (kzD_mem h)
noncomputable def tr65 : List Cond := kzD 160 tables_1_9
theorem tn65 : ∀ w ∈ tr65, w ∈ tables_1 := fun w h => tm8 w (kzD_mem h)
noncomputable def tr66 : List Cond := kzD 192 tables_1_9
theorem tn66 : ∀ w ∈ tr66, w ∈ tables_1 := fun w h => tm8 w (kzD_mem h)
noncomputable def trT : List (List Cond) := [tr0, tr1, tr2, tr3, tr4, tr5, tr6, tr7, tr8, tr9, tr10, tr11, tr12, tr13, tr14, tr15, tr16, tr17, tr18, tr19, tr20, tr21, tr22, tr23, tr24, tr25, tr26, tr27, tr28, tr29, tr30, tr31, tr32, tr33, tr34, tr35, tr36, tr37, tr38, tr39, tr40, tr41, tr42, tr43, tr44, tr45, tr46, tr47, tr48, tr49, tr50, tr51, tr52, tr53, tr54, tr55, tr56, tr57, tr58, tr59, tr60, tr61, tr62, tr63, tr64, tr65, tr66]
theorem trT_mem : ∀ l ∈ trT, ∀ w ∈ l, w ∈ tables_1 := List.forall_mem_cons.mpr ⟨tn0, List.forall_mem_cons.mpr ⟨tn1, List.forall_mem_cons.mpr ⟨tn2, List.forall_mem_cons.mpr ⟨tn3, List.forall_mem_cons.mpr ⟨tn4, List.forall_mem_cons.mpr ⟨tn5, List.forall_mem_cons.mpr ⟨tn6, List.forall_mem_cons.mpr ⟨tn7, List.forall_mem_cons.mpr ⟨tn8, List.forall_mem_cons.mpr ⟨tn9, List.forall_mem_cons.mpr ⟨tn10, List.forall_mem_cons.mpr ⟨tn11, List.forall_mem_cons.mpr ⟨tn12, List.forall_mem_cons.mpr ⟨tn13, List.forall_mem_cons.mpr ⟨tn14, List.forall_mem_cons.mpr ⟨tn15, List.forall_mem_cons.mpr ⟨tn16, List.forall_mem_cons.mpr ⟨tn17, List.forall_mem_cons.mpr ⟨tn18, List.forall_mem_cons.mpr ⟨tn19, List.forall_mem_cons.mpr ⟨tn20, List.forall_mem_cons.mpr ⟨tn21, List.forall_mem_cons.mpr ⟨tn22, List.forall_mem_cons.mpr ⟨tn23, List.forall_mem_cons.mpr ⟨tn24, List.forall_mem_cons.mpr ⟨tn25, List.forall_mem_cons.mpr ⟨tn26, List.forall_mem_cons.mpr ⟨tn27, List.forall_mem_cons.mpr ⟨tn28, List.forall_mem_cons.mpr ⟨tn29, List.forall_mem_cons.mpr ⟨tn30, List.forall_mem_cons.mpr ⟨tn31, List.forall_mem_cons.mpr ⟨tn32, List.forall_mem_cons.mpr ⟨tn33, List.forall_mem_cons.mpr ⟨tn34, List.forall_mem_cons.mpr ⟨tn35, List.forall_mem_cons.mpr ⟨tn36, List.forall_mem_cons.mpr ⟨tn37, List.forall_mem_cons.mpr ⟨tn38, List.forall_mem_cons.mpr ⟨tn39, List.forall_mem_cons.mpr ⟨tn40, List.forall_mem_cons.mpr ⟨tn41, List.forall_mem_cons.mpr ⟨tn42, List.forall_mem_cons.mpr ⟨tn43, List.forall_mem_cons.mpr ⟨tn44, List.forall_mem_cons.mpr ⟨tn45, List.forall_mem_cons.mpr ⟨tn46, List.forall_mem_cons.mpr ⟨tn47, List.forall_mem_cons.mpr ⟨tn48, List.forall_mem_cons.mpr ⟨tn49, List.forall_mem_cons.mpr ⟨tn50, List.forall_mem_cons.mpr ⟨tn51, List.forall_mem_cons.mpr ⟨tn52, List.forall_mem_cons.mpr ⟨tn53, List.forall_mem_cons.mpr ⟨tn54, List.forall_mem_cons.mpr ⟨tn55, List.forall_mem_cons.mpr ⟨tn56, List.forall_mem_cons.mpr ⟨tn57, List.forall_mem_cons.mpr ⟨tn58, List.forall_mem_cons.mpr ⟨tn59, List.forall_mem_cons.mpr ⟨tn60, List.forall_mem_cons.mpr ⟨tn61, List.forall_mem_cons.mpr ⟨tn62, List.forall_mem_cons.mpr ⟨tn63, List.forall_mem_cons.mpr ⟨tn64, List.forall_mem_cons.mpr ⟨tn65, List.forall_mem_cons.mpr ⟨tn66, fun _ h => absurd h List.not_mem_nil⟩⟩⟩⟩⟩⟩⟩⟩⟩⟩⟩⟩⟩⟩⟩⟩⟩⟩⟩⟩⟩⟩⟩⟩⟩⟩⟩⟩⟩⟩⟩⟩⟩⟩⟩⟩⟩⟩⟩⟩⟩⟩⟩⟩⟩⟩⟩⟩⟩⟩⟩⟩⟩⟩⟩⟩⟩⟩⟩⟩⟩⟩⟩⟩⟩⟩⟩
noncomputable def tAt (i : Nat) : Option Cond := kzW (kzN [] (i / 32) trT) (i % 32)
theorem tAt_mem {i : Nat} {w : Cond} (h : tAt i = some w) : w ∈ tables_1 := by
  unfold tAt at h
  have h := kzW_mem h
  rcases kzN_mem ([] : List Cond) (i / 32) trT with z | z
  · exact trT_mem _ z w h
  · rw [z] at h
    cases h
