/-! the law's loop: what is kept -/
section ZL2
variable {sc : List Int} {h h' h1 h2 g : Hp}
def msxL : Zms := [(1, 1100, 0, 100000)]
theorem zAM.sm (A : zAM h) (e : ∀ r : Int, 37 ≤ r ∧ r ≤ 365 → fld g r = fld h r) : zAM g := by
  intro j hj
  rw [e 37 (by decide)] at hj
  rw [e 85 (by decide), e 83 (by decide)]
  exact A j hj
theorem zCW.sm (W : zCW h) (I : zI h) (e : ∀ r : Int, 37 ≤ r ∧ r ≤ 365 → fld g r = fld h r) : zCW g := by
  have b1 := I.b (a1 := 37) (a2 := 37) (j1 := 52) (j2 := 53) (lo := 0) (hi := 8) (by decide +kernel) (r := 37) (j := 52) (by decide) (by decide) (by decide) (by decide)
  refine ⟨fun s c hs hc hp => ?_, fun k hk => ?_⟩
  · rw [e 37 (by decide)] at hs
    rw [e (155 + (s : Int)) (by omega)] at hp ⊢
    rw [e (101 + 6 * (s : Int) + (c : Int)) (by omega)]
    exact W.1 s c hs hc hp
  · rw [e 37 (by decide)] at hk
    rw [e 164 (by decide), e 37 (by decide)]
    exact W.2 k hk
theorem zgetD (hin : ∀ x ∈ sc, in32 x) (i : Nat) : -2147483648 ≤ sc.getD i 0 ∧ sc.getD i 0 ≤ 2147483647 := by
  rw [List.getD_eq_getElem?_getD]
  cases h : sc[i]? with
  | none => exact ⟨by decide, by decide⟩
  | some x => exact hin x (List.mem_of_getElem? h)
/-- what a round keeps -/
def zLJ (h g : Hp) : Prop := CI g ∧ zAM g ∧ zCW g ∧ zE g ∧ ∃ ms, zXR ms 7 7000 h g
end ZL2
