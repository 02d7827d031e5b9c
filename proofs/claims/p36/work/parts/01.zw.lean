/-! a word of the tables by its place -/
noncomputable def wAt (i : Nat) : Option Cond := cond (Nat.blt i 100) (kzW (k2_sels lw_privs) i) (tAt (i - 100))
theorem wAt_mem {i : Nat} {w : Cond} (h : wAt i = some w) : w ∈ lw_tbl := by
  unfold wAt at h
  cases e : Nat.blt i 100 with
  | true =>
    rw [e] at h
    have h : kzW (k2_sels lw_privs) i = some w := h
    exact List.mem_append_left _ (kzW_mem h)
  | false =>
    rw [e] at h
    have h : tAt (i - 100) = some w := h
    exact List.mem_append_right _ (tAt_mem h)
