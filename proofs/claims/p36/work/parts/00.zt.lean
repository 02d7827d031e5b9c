/-! tables read by the recursors themselves: few steps for the kernel -/
section
variable {α : Type}
/-- the n-th of a list, or d -/
noncomputable def kzN (d : α) (n : Nat) (l : List α) : α := Nat.rec (motive := fun _ => List α → α) (fun l => List.rec (motive := fun _ => α) d (fun a _ _ => a) l) (fun _ ih l => List.rec (motive := fun _ => α) d (fun _ t _ => ih t) l) n l
theorem kzN_mem (d : α) : ∀ (n : Nat) (l : List α), kzN d n l ∈ l ∨ kzN d n l = d
  | 0, [] => Or.inr rfl
  | 0, _ :: _ => Or.inl List.mem_cons_self
  | _ + 1, [] => Or.inr rfl
  | n + 1, _ :: t => (kzN_mem d n t).elim (fun h => Or.inl (List.mem_cons_of_mem _ h)) Or.inr
theorem kzN_ge (d : α) : ∀ (n : Nat) (l : List α), l.length ≤ n → kzN d n l = d
  | 0, [], _ => rfl
  | 0, _ :: _, h => absurd h (Nat.not_succ_le_zero _)
  | _ + 1, [], _ => rfl
  | n + 1, _ :: t, h => kzN_ge d n t (Nat.le_of_succ_le_succ h)
/-- a list without its first n -/
noncomputable def kzD (n : Nat) (l : List α) : List α := Nat.rec (motive := fun _ => List α → List α) (fun l => l) (fun _ ih l => List.rec (motive := fun _ => List α) [] (fun _ t _ => ih t) l) n l
theorem kzD_eq : ∀ (n : Nat) (l : List α), kzD n l = l.drop n
  | 0, _ => List.drop_zero.symm
  | _ + 1, [] => List.drop_nil.symm
  | n + 1, _ :: t => kzD_eq n t
noncomputable def kzE (p : α → Bool) (l : List α) : Bool := List.rec (motive := fun _ => Bool) false (fun a _ ih => cond (p a) true ih) l
theorem kzE_of {p : α → Bool} : ∀ {l : List α}, kzE p l = true → ∃ a ∈ l, p a = true
  | [], h => absurd (show false = true from h) Bool.false_ne_true
  | a :: t, h => by
    have h : cond (p a) true (kzE p t) = true := h
    cases e : p a with
    | true => exact ⟨a, List.mem_cons_self, e⟩
    | false =>
      rw [e] at h
      obtain ⟨b, hb, hp⟩ := kzE_of (l := t) h
      exact ⟨b, List.mem_cons_of_mem _ hb, hp⟩
noncomputable def kzA (p : α → Bool) (l : List α) : Bool := List.rec (motive := fun _ => Bool) true (fun a _ ih => cond (p a) ih false) l
theorem kzA_of {p : α → Bool} : ∀ {l : List α}, kzA p l = true → ∀ a ∈ l, p a = true
  | [], _, _, hb => by cases hb
  | a :: t, h, b, hb => by
    have h : cond (p a) (kzA p t) false = true := h
    cases e : p a with
    | false => rw [e] at h; exact absurd (show false = true from h) Bool.false_ne_true
    | true =>
      rw [e] at h
      rcases List.mem_cons.mp hb with rfl | hb
      · exact e
      · exact kzA_of (l := t) h b hb
end
theorem kzD_mem {α : Type} {n : Nat} {l : List α} {a : α} (h : a ∈ kzD n l) : a ∈ l := by
  rw [kzD_eq] at h
  exact List.mem_of_mem_drop h
noncomputable def kzW (l : List Cond) (n : Nat) : Option Cond := List.rec (motive := fun _ => Option Cond) none (fun a _ _ => some a) (kzD n l)
theorem kzW_mem {l : List Cond} {n : Nat} {w : Cond} (h : kzW l n = some w) : w ∈ l := by
  unfold kzW at h
  cases e : kzD n l with
  | nil => rw [e] at h; cases h
  | cons a t =>
    rw [e] at h
    cases h
    exact kzD_mem (n := n) (by rw [e]; exact List.mem_cons_self)
theorem kzm0 : ∀ w ∈ tables_1_1, w ∈ tables_1 := fun w h => List.mem_append_left _ h
theorem kzm1 : ∀ w ∈ tables_1_2, w ∈ tables_1 := fun w h => List.mem_append_right _ (List.mem_append_left _ h)
theorem kzm2 : ∀ w ∈ tables_1_3, w ∈ tables_1 := fun w h => List.mem_append_right _ (List.mem_append_right _ (List.mem_append_left _ h))
theorem kzm3 : ∀ w ∈ tables_1_4, w ∈ tables_1 := fun w h => List.mem_append_right _ (List.mem_append_right _ (List.mem_append_right _ (List.mem_append_left _ h)))
theorem kzm4 : ∀ w ∈ tables_1_5, w ∈ tables_1 := fun w h => List.mem_append_right _ (List.mem_append_right _ (List.mem_append_right _ (List.mem_append_right _ (List.mem_append_left _ h))))
theorem kzm5 : ∀ w ∈ tables_1_6, w ∈ tables_1 := fun w h => List.mem_append_right _ (List.mem_append_right _ (List.mem_append_right _ (List.mem_append_right _ (List.mem_append_right _ (List.mem_append_left _ h)))))
theorem kzm6 : ∀ w ∈ tables_1_7, w ∈ tables_1 := fun w h => List.mem_append_right _ (List.mem_append_right _ (List.mem_append_right _ (List.mem_append_right _ (List.mem_append_right _ (List.mem_append_right _ (List.mem_append_left _ h))))))
theorem kzm7 : ∀ w ∈ tables_1_8, w ∈ tables_1 := fun w h => List.mem_append_right _ (List.mem_append_right _ (List.mem_append_right _ (List.mem_append_right _ (List.mem_append_right _ (List.mem_append_right _ (List.mem_append_right _ (List.mem_append_left _ h)))))))
theorem kzm8 : ∀ w ∈ tables_1_9, w ∈ tables_1 := fun w h => List.mem_append_right _ (List.mem_append_right _ (List.mem_append_right _ (List.mem_append_right _ (List.mem_append_right _ (List.mem_append_right _ (List.mem_append_right _ (List.mem_append_right _ (h))))))))
noncomputable def kzr0 : List Cond := kzD 0 tables_1_1
theorem kzn0 : ∀ w ∈ kzr0, w ∈ tables_1 := fun w h => kzm0 w (kzD_mem h)
noncomputable def kzr1 : List Cond := kzD 32 tables_1_1
theorem kzn1 : ∀ w ∈ kzr1, w ∈ tables_1 := fun w h => kzm0 w (kzD_mem h)
noncomputable def kzr2 : List Cond := kzD 64 tables_1_1
theorem kzn2 : ∀ w ∈ kzr2, w ∈ tables_1 := fun w h => kzm0 w (kzD_mem h)
noncomputable def kzr3 : List Cond := kzD 96 tables_1_1
theorem kzn3 : ∀ w ∈ kzr3, w ∈ tables_1 := fun w h => kzm0 w (kzD_mem h)
noncomputable def kzr4 : List Cond := kzD 128 tables_1_1
theorem kzn4 : ∀ w ∈ kzr4, w ∈ tables_1 := fun w h => kzm0 w (kzD_mem h)
noncomputable def kzr5 : List Cond := kzD 160 tables_1_1
theorem kzn5 : ∀ w ∈ kzr5, w ∈ tables_1 := fun w h => kzm0 w (kzD_mem h)
noncomputable def kzr6 : List Cond := kzD 192 tables_1_1
theorem kzn6 : ∀ w ∈ kzr6, w ∈ tables_1 := fun w h => kzm0 w (kzD_mem h)
noncomputable def kzr7 : List Cond := kzD 224 tables_1_1 ++ tables_1_2
theorem kzn7 : ∀ w ∈ kzr7, w ∈ tables_1 := fun w h => (List.mem_append.mp h).elim (fun h => kzm0 w (kzD_mem h)) (kzm1 w)
noncomputable def kzr8 : List Cond := kzD 16 tables_1_2
theorem kzn8 : ∀ w ∈ kzr8, w ∈ tables_1 := fun w h => kzm1 w (kzD_mem h)
noncomputable def kzr9 : List Cond := kzD 48 tables_1_2
theorem kzn9 : ∀ w ∈ kzr9, w ∈ tables_1 := fun w h => kzm1 w (kzD_mem h)
noncomputable def kzr10 : List Cond := kzD 80 tables_1_2
theorem kzn10 : ∀ w ∈ kzr10, w ∈ tables_1 := fun w h => kzm1 w (kzD_mem h)
noncomputable def kzr11 : List Cond := kzD 112 tables_1_2
theorem kzn11 : ∀ w ∈ kzr11, w ∈ tables_1 := fun w h => kzm1 w (kzD_mem h)
noncomputable def kzr12 : List Cond := kzD 144 tables_1_2
theorem kzn12 : ∀ w ∈ kzr12, w ∈ tables_1 := fun w h => kzm1 w (kzD_mem h)
noncomputable def kzr13 : List Cond := kzD 176 tables_1_2
theorem kzn13 : ∀ w ∈ kzr13, w ∈ tables_1 := fun w h => kzm1 w (kzD_mem h)
noncomputable def kzr14 : List Cond := kzD 208 tables_1_2
theorem kzn14 : ∀ w ∈ kzr14, w ∈ tables_1 := fun w h => kzm1 w (kzD_mem h)
noncomputable def kzr15 : List Cond := kzD 0 tables_1_3
theorem kzn15 : ∀ w ∈ kzr15, w ∈ tables_1 := fun w h => kzm2 w (kzD_mem h)
noncomputable def kzr16 : List Cond := kzD 32 tables_1_3
theorem kzn16 : ∀ w ∈ kzr16, w ∈ tables_1 := fun w h => kzm2 w (kzD_mem h)
noncomputable def kzr17 : List Cond := kzD 64 tables_1_3
theorem kzn17 : ∀ w ∈ kzr17, w ∈ tables_1 := fun w h => kzm2 w (kzD_mem h)
noncomputable def kzr18 : List Cond := kzD 96 tables_1_3
theorem kzn18 : ∀ w ∈ kzr18, w ∈ tables_1 := fun w h => kzm2 w (kzD_mem h)
noncomputable def kzr19 : List Cond := kzD 128 tables_1_3
theorem kzn19 : ∀ w ∈ kzr19, w ∈ tables_1 := fun w h => kzm2 w (kzD_mem h)
noncomputable def kzr20 : List Cond := kzD 160 tables_1_3
theorem kzn20 : ∀ w ∈ kzr20, w ∈ tables_1 := fun w h => kzm2 w (kzD_mem h)
noncomputable def kzr21 : List Cond := kzD 192 tables_1_3
theorem kzn21 : ∀ w ∈ kzr21, w ∈ tables_1 := fun w h => kzm2 w (kzD_mem h)
noncomputable def kzr22 : List Cond := kzD 224 tables_1_3 ++ tables_1_4
theorem kzn22 : ∀ w ∈ kzr22, w ∈ tables_1 := fun w h => (List.mem_append.mp h).elim (fun h => kzm2 w (kzD_mem h)) (kzm3 w)
noncomputable def kzr23 : List Cond := kzD 16 tables_1_4
theorem kzn23 : ∀ w ∈ kzr23, w ∈ tables_1 := fun w h => kzm3 w (kzD_mem h)
noncomputable def kzr24 : List Cond := kzD 48 tables_1_4
theorem kzn24 : ∀ w ∈ kzr24, w ∈ tables_1 := fun w h => kzm3 w (kzD_mem h)
noncomputable def kzr25 : List Cond := kzD 80 tables_1_4
theorem kzn25 : ∀ w ∈ kzr25, w ∈ tables_1 := fun w h => kzm3 w (kzD_mem h)
noncomputable def kzr26 : List Cond := kzD 112 tables_1_4
theorem kzn26 : ∀ w ∈ kzr26, w ∈ tables_1 := fun w h => kzm3 w (kzD_mem h)
noncomputable def kzr27 : List Cond := kzD 144 tables_1_4
theorem kzn27 : ∀ w ∈ kzr27, w ∈ tables_1 := fun w h => kzm3 w (kzD_mem h)
noncomputable def kzr28 : List Cond := kzD 176 tables_1_4
theorem kzn28 : ∀ w ∈ kzr28, w ∈ tables_1 := fun w h => kzm3 w (kzD_mem h)
noncomputable def kzr29 : List Cond := kzD 208 tables_1_4
theorem kzn29 : ∀ w ∈ kzr29, w ∈ tables_1 := fun w h => kzm3 w (kzD_mem h)
noncomputable def kzr30 : List Cond := kzD 0 tables_1_5
theorem kzn30 : ∀ w ∈ kzr30, w ∈ tables_1 := fun w h => kzm4 w (kzD_mem h)
noncomputable def kzr31 : List Cond := kzD 32 tables_1_5
theorem kzn31 : ∀ w ∈ kzr31, w ∈ tables_1 := fun w h => kzm4 w (kzD_mem h)
noncomputable def kzr32 : List Cond := kzD 64 tables_1_5
theorem kzn32 : ∀ w ∈ kzr32, w ∈ tables_1 := fun w h => kzm4 w (kzD_mem h)
noncomputable def kzr33 : List Cond := kzD 96 tables_1_5
theorem kzn33 : ∀ w ∈ kzr33, w ∈ tables_1 := fun w h => kzm4 w (kzD_mem h)
noncomputable def kzr34 : List Cond := kzD 128 tables_1_5
theorem kzn34 : ∀ w ∈ kzr34, w ∈ tables_1 := fun w h => kzm4 w (kzD_mem h)
noncomputable def kzr35 : List Cond := kzD 160 tables_1_5
theorem kzn35 : ∀ w ∈ kzr35, w ∈ tables_1 := fun w h => kzm4 w (kzD_mem h)
noncomputable def kzr36 : List Cond := kzD 192 tables_1_5
theorem kzn36 : ∀ w ∈ kzr36, w ∈ tables_1 := fun w h => kzm4 w (kzD_mem h)
noncomputable def kzr37 : List Cond := kzD 224 tables_1_5 ++ tables_1_6
theorem kzn37 : ∀ w ∈ kzr37, w ∈ tables_1 := fun w h => (List.mem_append.mp h).elim (fun h => kzm4 w (kzD_mem h)) (kzm5 w)
noncomputable def kzr38 : List Cond := kzD 16 tables_1_6
theorem kzn38 : ∀ w ∈ kzr38, w ∈ tables_1 := fun w h => kzm5 w (kzD_mem h)
noncomputable def kzr39 : List Cond := kzD 48 tables_1_6
theorem kzn39 : ∀ w ∈ kzr39, w ∈ tables_1 := fun w h => kzm5 w (kzD_mem h)
noncomputable def kzr40 : List Cond := kzD 80 tables_1_6
theorem kzn40 : ∀ w ∈ kzr40, w ∈ tables_1 := fun w h => kzm5 w (kzD_mem h)
noncomputable def kzr41 : List Cond := kzD 112 tables_1_6
theorem kzn41 : ∀ w ∈ kzr41, w ∈ tables_1 := fun w h => kzm5 w (kzD_mem h)
noncomputable def kzr42 : List Cond := kzD 144 tables_1_6
theorem kzn42 : ∀ w ∈ kzr42, w ∈ tables_1 := fun w h => kzm5 w (kzD_mem h)
noncomputable def kzr43 : List Cond := kzD 176 tables_1_6
theorem kzn43 : ∀ w ∈ kzr43, w ∈ tables_1 := fun w h => kzm5 w (kzD_mem h)
noncomputable def kzr44 : List Cond := kzD 208 tables_1_6
theorem kzn44 : ∀ w ∈ kzr44, w ∈ tables_1 := fun w h => kzm5 w (kzD_mem h)
noncomputable def kzr45 : List Cond := kzD 0 tables_1_7
theorem kzn45 : ∀ w ∈ kzr45, w ∈ tables_1 := fun w h => kzm6 w (kzD_mem h)
noncomputable def kzr46 : List Cond := kzD 32 tables_1_7
theorem kzn46 : ∀ w ∈ kzr46, w ∈ tables_1 := fun w h => kzm6 w (kzD_mem h)
noncomputable def kzr47 : List Cond := kzD 64 tables_1_7
theorem kzn47 : ∀ w ∈ kzr47, w ∈ tables_1 := fun w h => kzm6 w (kzD_mem h)
noncomputable def kzr48 : List Cond := kzD 96 tables_1_7
theorem kzn48 : ∀ w ∈ kzr48, w ∈ tables_1 := fun w h => kzm6 w (kzD_mem h)
noncomputable def kzr49 : List Cond := kzD 128 tables_1_7
theorem kzn49 : ∀ w ∈ kzr49, w ∈ tables_1 := fun w h => kzm6 w (kzD_mem h)
noncomputable def kzr50 : List Cond := kzD 160 tables_1_7
theorem kzn50 : ∀ w ∈ kzr50, w ∈ tables_1 := fun w h => kzm6 w (kzD_mem h)
noncomputable def kzr51 : List Cond := kzD 192 tables_1_7
theorem kzn51 : ∀ w ∈ kzr51, w ∈ tables_1 := fun w h => kzm6 w (kzD_mem h)
noncomputable def kzr52 : List Cond := kzD 224 tables_1_7 ++ tables_1_8
theorem kzn52 : ∀ w ∈ kzr52, w ∈ tables_1 := fun w h => (List.mem_append.mp h).elim (fun h => kzm6 w (kzD_mem h)) (kzm7 w)
noncomputable def kzr53 : List Cond := kzD 16 tables_1_8
theorem kzn53 : ∀ w ∈ kzr53, w ∈ tables_1 := fun w h => kzm7 w (kzD_mem h)
noncomputable def kzr54 : List Cond := kzD 48 tables_1_8
theorem kzn54 : ∀ w ∈ kzr54, w ∈ tables_1 := fun w h => kzm7 w (kzD_mem h)
noncomputable def kzr55 : List Cond := kzD 80 tables_1_8
theorem kzn55 : ∀ w ∈ kzr55, w ∈ tables_1 := fun w h => kzm7 w (kzD_mem h)
noncomputable def kzr56 : List Cond := kzD 112 tables_1_8
theorem kzn56 : ∀ w ∈ kzr56, w ∈ tables_1 := fun w h => kzm7 w (kzD_mem h)
noncomputable def kzr57 : List Cond := kzD 144 tables_1_8
theorem kzn57 : ∀ w ∈ kzr57, w ∈ tables_1 := fun w h => kzm7 w (kzD_mem h)
noncomputable def kzr58 : List Cond := kzD 176 tables_1_8
theorem kzn58 : ∀ w ∈ kzr58, w ∈ tables_1 := fun w h => kzm7 w (kzD_mem h)
noncomputable def kzr59 : List Cond := kzD 208 tables_1_8
theorem kzn59 : ∀ w ∈ kzr59, w ∈ tables_1 := fun w h => kzm7 w (kzD_mem h)
noncomputable def kzr60 : List Cond := kzD 0 tables_1_9
theorem kzn60 : ∀ w ∈ kzr60, w ∈ tables_1 := fun w h => kzm8 w (kzD_mem h)
noncomputable def kzr61 : List Cond := kzD 32 tables_1_9
theorem kzn61 : ∀ w ∈ kzr61, w ∈ tables_1 := fun w h => kzm8 w (kzD_mem h)
noncomputable def kzr62 : List Cond := kzD 64 tables_1_9
theorem kzn62 : ∀ w ∈ kzr62, w ∈ tables_1 := fun w h => kzm8 w (kzD_mem h)
noncomputable def kzr63 : List Cond := kzD 96 tables_1_9
theorem kzn63 : ∀ w ∈ kzr63, w ∈ tables_1 := fun w h => kzm8 w (kzD_mem h)
noncomputable def kzr64 : List Cond := kzD 128 tables_1_9
theorem kzn64 : ∀ w ∈ kzr64, w ∈ tables_1 := fun w h => kzm8 w (kzD_mem h)
noncomputable def kzr65 : List Cond := kzD 160 tables_1_9
theorem kzn65 : ∀ w ∈ kzr65, w ∈ tables_1 := fun w h => kzm8 w (kzD_mem h)
noncomputable def kzr66 : List Cond := kzD 192 tables_1_9
theorem kzn66 : ∀ w ∈ kzr66, w ∈ tables_1 := fun w h => kzm8 w (kzD_mem h)
noncomputable def trT : List (List Cond) := [kzr0, kzr1, kzr2, kzr3, kzr4, kzr5, kzr6, kzr7, kzr8, kzr9, kzr10, kzr11, kzr12, kzr13, kzr14, kzr15, kzr16, kzr17, kzr18, kzr19, kzr20, kzr21, kzr22, kzr23, kzr24, kzr25, kzr26, kzr27, kzr28, kzr29, kzr30, kzr31, kzr32, kzr33, kzr34, kzr35, kzr36, kzr37, kzr38, kzr39, kzr40, kzr41, kzr42, kzr43, kzr44, kzr45, kzr46, kzr47, kzr48, kzr49, kzr50, kzr51, kzr52, kzr53, kzr54, kzr55, kzr56, kzr57, kzr58, kzr59, kzr60, kzr61, kzr62, kzr63, kzr64, kzr65, kzr66]
theorem trT_mem : ∀ l ∈ trT, ∀ w ∈ l, w ∈ tables_1 := List.forall_mem_cons.mpr ⟨kzn0, List.forall_mem_cons.mpr ⟨kzn1, List.forall_mem_cons.mpr ⟨kzn2, List.forall_mem_cons.mpr ⟨kzn3, List.forall_mem_cons.mpr ⟨kzn4, List.forall_mem_cons.mpr ⟨kzn5, List.forall_mem_cons.mpr ⟨kzn6, List.forall_mem_cons.mpr ⟨kzn7, List.forall_mem_cons.mpr ⟨kzn8, List.forall_mem_cons.mpr ⟨kzn9, List.forall_mem_cons.mpr ⟨kzn10, List.forall_mem_cons.mpr ⟨kzn11, List.forall_mem_cons.mpr ⟨kzn12, List.forall_mem_cons.mpr ⟨kzn13, List.forall_mem_cons.mpr ⟨kzn14, List.forall_mem_cons.mpr ⟨kzn15, List.forall_mem_cons.mpr ⟨kzn16, List.forall_mem_cons.mpr ⟨kzn17, List.forall_mem_cons.mpr ⟨kzn18, List.forall_mem_cons.mpr ⟨kzn19, List.forall_mem_cons.mpr ⟨kzn20, List.forall_mem_cons.mpr ⟨kzn21, List.forall_mem_cons.mpr ⟨kzn22, List.forall_mem_cons.mpr ⟨kzn23, List.forall_mem_cons.mpr ⟨kzn24, List.forall_mem_cons.mpr ⟨kzn25, List.forall_mem_cons.mpr ⟨kzn26, List.forall_mem_cons.mpr ⟨kzn27, List.forall_mem_cons.mpr ⟨kzn28, List.forall_mem_cons.mpr ⟨kzn29, List.forall_mem_cons.mpr ⟨kzn30, List.forall_mem_cons.mpr ⟨kzn31, List.forall_mem_cons.mpr ⟨kzn32, List.forall_mem_cons.mpr ⟨kzn33, List.forall_mem_cons.mpr ⟨kzn34, List.forall_mem_cons.mpr ⟨kzn35, List.forall_mem_cons.mpr ⟨kzn36, List.forall_mem_cons.mpr ⟨kzn37, List.forall_mem_cons.mpr ⟨kzn38, List.forall_mem_cons.mpr ⟨kzn39, List.forall_mem_cons.mpr ⟨kzn40, List.forall_mem_cons.mpr ⟨kzn41, List.forall_mem_cons.mpr ⟨kzn42, List.forall_mem_cons.mpr ⟨kzn43, List.forall_mem_cons.mpr ⟨kzn44, List.forall_mem_cons.mpr ⟨kzn45, List.forall_mem_cons.mpr ⟨kzn46, List.forall_mem_cons.mpr ⟨kzn47, List.forall_mem_cons.mpr ⟨kzn48, List.forall_mem_cons.mpr ⟨kzn49, List.forall_mem_cons.mpr ⟨kzn50, List.forall_mem_cons.mpr ⟨kzn51, List.forall_mem_cons.mpr ⟨kzn52, List.forall_mem_cons.mpr ⟨kzn53, List.forall_mem_cons.mpr ⟨kzn54, List.forall_mem_cons.mpr ⟨kzn55, List.forall_mem_cons.mpr ⟨kzn56, List.forall_mem_cons.mpr ⟨kzn57, List.forall_mem_cons.mpr ⟨kzn58, List.forall_mem_cons.mpr ⟨kzn59, List.forall_mem_cons.mpr ⟨kzn60, List.forall_mem_cons.mpr ⟨kzn61, List.forall_mem_cons.mpr ⟨kzn62, List.forall_mem_cons.mpr ⟨kzn63, List.forall_mem_cons.mpr ⟨kzn64, List.forall_mem_cons.mpr ⟨kzn65, List.forall_mem_cons.mpr ⟨kzn66, fun _ h => absurd h List.not_mem_nil⟩⟩⟩⟩⟩⟩⟩⟩⟩⟩⟩⟩⟩⟩⟩⟩⟩⟩⟩⟩⟩⟩⟩⟩⟩⟩⟩⟩⟩⟩⟩⟩⟩⟩⟩⟩⟩⟩⟩⟩⟩⟩⟩⟩⟩⟩⟩⟩⟩⟩⟩⟩⟩⟩⟩⟩⟩⟩⟩⟩⟩⟩⟩⟩⟩⟩⟩
noncomputable def tAt (i : Nat) : Option Cond := kzW (kzN [] (i / 32) trT) (i % 32)
theorem tAt_mem {i : Nat} {w : Cond} (h : tAt i = some w) : w ∈ tables_1 := by
  unfold tAt at h
  have h := kzW_mem h
  rcases kzN_mem ([] : List Cond) (i / 32) trT with z | z
  · exact trT_mem _ z w h
  · rw [z] at h
    cases h
