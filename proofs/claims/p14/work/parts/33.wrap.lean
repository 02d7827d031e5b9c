/-! arithmetic that may go round, as it is -/
section ZW2
variable {sc : List Int} {D y pc nx : Nat} {ls st ls' : List Vl} {h : Hp} {Q : Option Vl → Hp → Prop}
theorem zwW_adw {x u : Int} (e : zwat y pc 4 nx 0 0 = true) (k : ∀ z, z = w32 (x + u) → -2147483648 ≤ z → z ≤ 2147483647 → zwW sc D y nx ls ((0, z) :: st) h Q) : zwW sc D y pc ls ((0, u) :: (0, x) :: st) h Q :=
  zwW_ib e rfl (k _ rfl (w32_in _).1 (w32_in _).2)
theorem zwW_sbw {x u : Int} (e : zwat y pc 4 nx 1 0 = true) (k : ∀ z, z = w32 (x - u) → -2147483648 ≤ z → z ≤ 2147483647 → zwW sc D y nx ls ((0, z) :: st) h Q) : zwW sc D y pc ls ((0, u) :: (0, x) :: st) h Q :=
  zwW_ib e rfl (k _ rfl (w32_in _).1 (w32_in _).2)
theorem zwW_mlw {x u : Int} (e : zwat y pc 4 nx 2 0 = true) (k : ∀ z, z = w32 (x * u) → -2147483648 ≤ z → z ≤ 2147483647 → zwW sc D y nx ls ((0, z) :: st) h Q) : zwW sc D y pc ls ((0, u) :: (0, x) :: st) h Q :=
  zwW_ib e rfl (k _ rfl (w32_in _).1 (w32_in _).2)
theorem zwW_tdw {x u : Int} (e : zwat y pc 4 nx 3 0 = true) (hu : u ≠ 0) (k : ∀ z, z = w32 (x.tdiv u) → -2147483648 ≤ z → z ≤ 2147483647 → zwW sc D y nx ls ((0, z) :: st) h Q) : zwW sc D y pc ls ((0, u) :: (0, x) :: st) h Q :=
  zwW_tdiv e hu (k _ rfl (w32_in _).1 (w32_in _).2)
theorem zwW_tmw {x u : Int} (e : zwat y pc 4 nx 4 0 = true) (hx : -2147483648 ≤ x ∧ x ≤ 2147483647) (hu : u ≠ 0) (k : ∀ z, z = x.tmod u → -2147483648 ≤ z → z ≤ 2147483647 → zwW sc D y nx ls ((0, z) :: st) h Q) : zwW sc D y pc ls ((0, u) :: (0, x) :: st) h Q :=
  zwW_tmod e hu (k _ rfl (tmod_in hx).1 (tmod_in hx).2)
theorem zwW_ngw {x : Int} (e : zwat y pc 6 nx 0 0 = true) (k : ∀ z, z = w32 (-x) → -2147483648 ≤ z → z ≤ 2147483647 → zwW sc D y nx ls ((0, z) :: st) h Q) : zwW sc D y pc ls ((0, x) :: st) h Q :=
  zwW_p1 e (by decide) (show some (ls, (0, w32 (-x)) :: st) = _ from rfl) (k _ rfl (w32_in _).1 (w32_in _).2)
theorem zwW_icw {i c x : Int} (F : Int → List Vl) (e : zwat y pc 3 nx i c = true) (hl : ls[i.toNat]? = some (0, x)) (he : ∀ z, storeL ls i.toNat (0, z) = F z) (k : ∀ z, z = w32 (x + c) → -2147483648 ≤ z → z ≤ 2147483647 → zwW sc D y nx (F z) st h Q) : zwW sc D y pc ls st h Q := by
  refine zwW_p1 (ls' := F (w32 (x + c))) (st' := st) e (by decide) ?_ (k _ rfl (w32_in _).1 (w32_in _).2)
  show (match ls[i.toNat]? with
    | some v => if v.1 = 0 then some (storeL ls i.toNat (0, w32 (v.2 + c)), st) else none
    | none => none) = some (F (w32 (x + c)), st)
  rw [hl]
  dsimp only
  rw [if_pos rfl, he]
theorem zwW_l2x {x : Int} (e : zwat y pc 8 nx 0 0 = true) (k : ∀ z, z = w32 x → -2147483648 ≤ z → z ≤ 2147483647 → zwW sc D y nx ls ((0, z) :: st) h Q) : zwW sc D y pc ls ((1, x) :: st) h Q :=
  zwW_p1 e (by decide) (show some (ls, (0, w32 x) :: st) = _ from rfl) (k _ rfl (w32_in _).1 (w32_in _).2)
theorem zwW_law {x u : Int} (e : zwat y pc 5 nx 0 0 = true) (k : ∀ z, z = w64 (x + u) → -9223372036854775808 ≤ z → z ≤ 9223372036854775807 → zwW sc D y nx ls ((1, z) :: st) h Q) : zwW sc D y pc ls ((1, u) :: (1, x) :: st) h Q :=
  zwW_lb e rfl (k _ rfl (w64_in _).1 (w64_in _).2)
theorem zwW_lsw {x u : Int} (e : zwat y pc 5 nx 1 0 = true) (k : ∀ z, z = w64 (x - u) → -9223372036854775808 ≤ z → z ≤ 9223372036854775807 → zwW sc D y nx ls ((1, z) :: st) h Q) : zwW sc D y pc ls ((1, u) :: (1, x) :: st) h Q :=
  zwW_lb e rfl (k _ rfl (w64_in _).1 (w64_in _).2)
theorem zwW_lmw {x u : Int} (e : zwat y pc 5 nx 2 0 = true) (k : ∀ z, z = w64 (x * u) → -9223372036854775808 ≤ z → z ≤ 9223372036854775807 → zwW sc D y nx ls ((1, z) :: st) h Q) : zwW sc D y pc ls ((1, u) :: (1, x) :: st) h Q :=
  zwW_lb e rfl (k _ rfl (w64_in _).1 (w64_in _).2)
/-- quotient and rest as Java has them -/
theorem ztdm {b c : Int} (hb : -2147483648 ≤ b ∧ b ≤ 2147483647) (hc : 2 ≤ c) : (0 ≤ b ∧ w32 (b.tdiv c) = b / c ∧ b.tmod c = b % c) ∨ (b < 0 ∧ w32 (b.tdiv c) ≤ 0 ∧ b.tmod c ≤ 0) := by
  by_cases h : 0 ≤ b
  · left
    rw [zw_tdiv h, zw_tmod h]
    have h1 := Int.ediv_nonneg h (show 0 ≤ c by omega)
    have h2 := Int.ediv_le_self c h
    exact ⟨h, w32_id ⟨by omega, by omega⟩, rfl⟩
  · right
    obtain ⟨n, rfl⟩ : ∃ n : Int, b = -n := ⟨-b, by omega⟩
    have hn : 0 ≤ n := by omega
    have e1 : (-n).tdiv c = -(n / c) := by rw [Int.neg_tdiv, zw_tdiv hn]
    have e2 : (-n).tmod c = -(n % c) := by rw [Int.neg_tmod, zw_tmod hn]
    have h1 := Int.ediv_nonneg hn (show 0 ≤ c by omega)
    have h2 := Int.ediv_le_self c hn
    have h3 := Int.emod_nonneg n (show c ≠ 0 by omega)
    rw [e1, e2]
    refine ⟨by omega, ?_, by omega⟩
    rw [w32_id ⟨by omega, by omega⟩]
    omega
end ZW2
