/-! what is wanted behind a run of the mini machine: zwC of a call, zwW from a place on; the heap by shapes (sh) and contents (fld) -/
section ZW
variable {sc : List Int}
theorem zw_mono {cal cal' : Nat → List Vl → Hp → Option Vl → Hp → Prop} (hc : ∀ y as hp r h, cal y as hp r h → cal' y as hp r h) {y : Nat} : ∀ (n pc : Nat) (ls st : List Vl) (hp : Hp) (r : Option Vl) (h : Hp), Ex cdT mK sc stxt cal y n pc ls st hp r h → Ex cdT mK sc stxt cal' y n pc ls st hp r h
  | 0, _, _, _, _, _, _, hx => hx.elim
  | n + 1, pc, ls, st, hp, r, h, hx => by
    obtain ⟨op, nx, a, b, os, h0, hx⟩ := hx
    refine ⟨op, nx, a, b, os, h0, ?_⟩
    rcases hx with ⟨h1, ls', st', h2, hx⟩ | ⟨h1, h1', p', st', h2, hx⟩ | ⟨h1, h1', st', h2, hx⟩ | ⟨h1, h1', hp', st', h2, hx⟩ | ⟨h1, h1', as, st', r1, hp1, h2, h3, h4, hx⟩ | hx
    · exact Or.inl ⟨h1, ls', st', h2, zw_mono hc n _ _ _ _ _ _ hx⟩
    · exact Or.inr (Or.inl ⟨h1, h1', p', st', h2, zw_mono hc n _ _ _ _ _ _ hx⟩)
    · exact Or.inr (Or.inr (Or.inl ⟨h1, h1', st', h2, zw_mono hc n _ _ _ _ _ _ hx⟩))
    · exact Or.inr (Or.inr (Or.inr (Or.inl ⟨h1, h1', hp', st', h2, zw_mono hc n _ _ _ _ _ _ hx⟩)))
    · exact Or.inr (Or.inr (Or.inr (Or.inr (Or.inl ⟨h1, h1', as, st', r1, hp1, h2, h3, hc _ _ _ _ _ h4, zw_mono hc n _ _ _ _ _ _ hx⟩))))
    · exact Or.inr (Or.inr (Or.inr (Or.inr (Or.inr hx))))
theorem zw_up1 : ∀ (d y : Nat) (as : List Vl) (hp : Hp) (r : Option Vl) (h : Hp), Runs cdT mK sc stxt mL d y as hp r h → Runs cdT mK sc stxt mL (d + 1) y as hp r h
  | 0, _, _, _, _, _, hx => hx.elim
  | d + 1, _, _, _, _, _, hx => by
    obtain ⟨hl, n, hx⟩ := hx
    exact ⟨hl, n, zw_mono (zw_up1 d) n _ _ _ _ _ _ hx⟩
theorem zw_up {d y : Nat} {as : List Vl} {hp : Hp} {r : Option Vl} {h : Hp} (hx : Runs cdT mK sc stxt mL d y as hp r h) : ∀ k : Nat, Runs cdT mK sc stxt mL (d + k) y as hp r h
  | 0 => hx
  | k + 1 => zw_up1 _ _ _ _ _ _ (zw_up hx k)
def zwC (sc : List Int) (D y : Nat) (as : List Vl) (h : Hp) (Q : Option Vl → Hp → Prop) : Prop := ∃ r h', Runs cdT mK sc stxt mL D y as h r h' ∧ Q r h'
def zwW (sc : List Int) (D y pc : Nat) (ls st : List Vl) (h : Hp) (Q : Option Vl → Hp → Prop) : Prop := ∃ n r h', Ex cdT mK sc stxt (Runs cdT mK sc stxt mL D) y n pc ls st h r h' ∧ Q r h'
/-- a value of type t comes back; nothing comes back -/
def zwRt (t : Nat) (R : Int → Hp → Prop) : Option Vl → Hp → Prop := fun r h => ∃ x, r = some (t, x) ∧ R x h
def zwRv (R : Hp → Prop) : Option Vl → Hp → Prop := fun r h => r = none ∧ R h
variable {D D' y pc nx : Nat} {ls st ls' st' : List Vl} {h h' : Hp} {Q Q' : Option Vl → Hp → Prop} {as : List Vl}
theorem zwC_up (hD : D' ≤ D) (C : zwC sc D' y as h Q) : zwC sc D y as h Q := by
  obtain ⟨r, h', hx, hq⟩ := C
  obtain ⟨k, rfl⟩ := Nat.exists_eq_add_of_le hD
  exact ⟨r, h', zw_up hx k, hq⟩
theorem zwC_to (C : zwC sc D y as h Q) (hQ : ∀ r h', Q r h' → Q' r h') : zwC sc D y as h Q' := by
  obtain ⟨r, h', hx, hq⟩ := C
  exact ⟨r, h', hx, hQ _ _ hq⟩
theorem zwW_to (C : zwW sc D y pc ls st h Q) (hQ : ∀ r h', Q r h' → Q' r h') : zwW sc D y pc ls st h Q' := by
  obtain ⟨n, r, h', hx, hq⟩ := C
  exact ⟨n, r, h', hx, hQ _ _ hq⟩
theorem zwC_of (n : Nat) (hn : mL y = n) (hl : Nat.ble (argL as).length n = true) (hls : initL as n = ls) (k : zwW sc D y 0 ls [] h Q) : zwC sc (D + 1) y as h Q := by
  obtain ⟨n', r, h', hx, hq⟩ := k
  subst hn hls
  exact ⟨r, h', ⟨Nat.le_of_ble_eq_true hl, n', hx⟩, hq⟩
/-! the code at a place -/
noncomputable def zwat (y pc op nx : Nat) (a b : Int) : Bool := match cdT y pc with
  | some (o, n, a', b', _) => o == op && (n == nx && (a' == a && b' == b))
  | none => false
theorem zwat_of {op : Nat} {a b : Int} (e : zwat y pc op nx a b = true) : ∃ os, cdT y pc = some (op, nx, a, b, os) := by
  unfold zwat at e
  split at e
  · rename_i o n a' b' os hc
    simp only [Bool.and_eq_true, beq_iff_eq] at e
    obtain ⟨rfl, rfl, rfl, rfl⟩ := e
    exact ⟨os, hc⟩
  · cases e
theorem zwW_p1 {op : Nat} {a b : Int} (e : zwat y pc op nx a b = true) (ho : op < 20) (hp : pst op a b ls st = some (ls', st')) (k : zwW sc D y nx ls' st' h Q) : zwW sc D y pc ls st h Q := by
  obtain ⟨os, e⟩ := zwat_of e
  obtain ⟨n, r, h', hx, hq⟩ := k
  exact ⟨n + 1, r, h', ⟨op, nx, a, b, os, e, Or.inl ⟨ho, ls', st', hp, hx⟩⟩, hq⟩
theorem zwW_b1 {op q : Nat} {a b : Int} (e : zwat y pc op nx a b = true) (ho : 20 ≤ op) (ho' : op < 30) (hp : ∀ os, bst op nx a b os st = some (q, st')) (k : zwW sc D y q ls st' h Q) : zwW sc D y pc ls st h Q := by
  obtain ⟨os, e⟩ := zwat_of e
  obtain ⟨n, r, h', hx, hq⟩ := k
  exact ⟨n + 1, r, h', ⟨op, nx, a, b, os, e, Or.inr (Or.inl ⟨ho, ho', q, st', hp os, hx⟩)⟩, hq⟩
theorem zwW_r1 {op : Nat} {a b : Int} (e : zwat y pc op nx a b = true) (ho : 30 ≤ op) (ho' : op < 40) (hp : rst sc stxt op a b h st = some st') (k : zwW sc D y nx ls st' h Q) : zwW sc D y pc ls st h Q := by
  obtain ⟨os, e⟩ := zwat_of e
  obtain ⟨n, r, h', hx, hq⟩ := k
  exact ⟨n + 1, r, h', ⟨op, nx, a, b, os, e, Or.inr (Or.inr (Or.inl ⟨ho, ho', st', hp, hx⟩))⟩, hq⟩
theorem zwW_w1 {op : Nat} {a b : Int} (e : zwat y pc op nx a b = true) (ho : 40 ≤ op) (ho' : op < 60) (hp : wst op a b h st = some (h', st')) (k : zwW sc D y nx ls st' h' Q) : zwW sc D y pc ls st h Q := by
  obtain ⟨os, e⟩ := zwat_of e
  obtain ⟨n, r, h2, hx, hq⟩ := k
  exact ⟨n + 1, r, h2, ⟨op, nx, a, b, os, e, Or.inr (Or.inr (Or.inr (Or.inl ⟨ho, ho', h', st', hp, hx⟩)))⟩, hq⟩
/-! runs of pure instructions at once -/
def zwp : List (Nat × Int × Int) → List Vl → List Vl → Option (List Vl × List Vl)
  | [], ls, st => some (ls, st)
  | (op, a, b) :: r, ls, st => if op = 24 then zwp r ls st else (match pst op a b ls st with
    | some (ls', st') => zwp r ls' st'
    | none => none)
noncomputable def zwk (y : Nat) : Nat → List (Nat × Int × Int) → Nat → Bool
  | pc, [], q => Nat.beq pc q
  | pc, (op, a, b) :: r, q => match cdT y pc with
    | some (o, n, a', b', _) => Nat.beq o op && (a' == a && (b' == b && ((Nat.blt op 20 && zwk y n r q) || (Nat.beq op 24 && zwk y a.toNat r q))))
    | none => false
theorem zwW_p {q : Nat} : ∀ (ops : List (Nat × Int × Int)) {pc : Nat} {ls st : List Vl}, zwk y pc ops q = true → zwp ops ls st = some (ls', st') → zwW sc D y q ls' st' h Q → zwW sc D y pc ls st h Q
  | [], pc, ls, st, hk, he, k => by
    unfold zwk at hk
    have := Nat.eq_of_beq_eq_true hk
    subst this
    unfold zwp at he
    cases he
    exact k
  | (op, a, b) :: r, pc, ls, st, hk, he, k => by
    unfold zwk at hk
    cases hc : cdT y pc with
    | none => rw [hc] at hk; cases hk
    | some o =>
      obtain ⟨o, n, a', b', os⟩ := o
      rw [hc] at hk
      simp only [Bool.and_eq_true, Bool.or_eq_true, beq_iff_eq] at hk
      obtain ⟨h1, rfl, rfl, h2⟩ := hk
      have h1 := Nat.eq_of_beq_eq_true h1
      subst h1
      unfold zwp at he
      rcases h2 with ⟨h2, h3⟩ | ⟨h2, h3⟩
      · have h2 : o < 20 := Nat.le_of_ble_eq_true h2
        rw [if_neg (by omega)] at he
        cases hp : pst o a' b' ls st with
        | none => rw [hp] at he; cases he
        | some q2 =>
          obtain ⟨ls2, st2⟩ := q2
          rw [hp] at he
          obtain ⟨n2, r2, h4, hx, hq⟩ := zwW_p r h3 he k
          exact ⟨n2 + 1, r2, h4, ⟨o, n, a', b', os, hc, Or.inl ⟨h2, ls2, st2, hp, hx⟩⟩, hq⟩
      · have h2 := Nat.eq_of_beq_eq_true h2
        subst h2
        rw [if_pos rfl] at he
        obtain ⟨n2, r2, h4, hx, hq⟩ := zwW_p r h3 he k
        exact ⟨n2 + 1, r2, h4, ⟨24, n, a', b', os, hc, Or.inr (Or.inl ⟨by decide, by decide, a'.toNat, st, rfl, hx⟩)⟩, hq⟩
/-! arithmetic -/
theorem zwW_ib {a x u z : Int} (e : zwat y pc 4 nx a 0 = true) (hz : ibin a.toNat x u = some z) (k : zwW sc D y nx ls ((0, z) :: st) h Q) : zwW sc D y pc ls ((0, u) :: (0, x) :: st) h Q := by
  refine zwW_p1 e (by decide) ?_ k
  show (match ibin a.toNat x u with
    | some z => some (ls, (0, z) :: st)
    | none => none) = _
  rw [hz]
theorem zwW_lb {a x u z : Int} (e : zwat y pc 5 nx a 0 = true) (hz : lbin a.toNat x u = some z) (k : zwW sc D y nx ls ((1, z) :: st) h Q) : zwW sc D y pc ls ((1, u) :: (1, x) :: st) h Q := by
  refine zwW_p1 e (by decide) ?_ k
  show (match lbin a.toNat x u with
    | some z => some (ls, (1, z) :: st)
    | none => none) = _
  rw [hz]
theorem zwW_add {x u : Int} (e : zwat y pc 4 nx 0 0 = true) (h1 : -2147483648 ≤ x + u ∧ x + u ≤ 2147483647) (k : zwW sc D y nx ls ((0, x + u) :: st) h Q) : zwW sc D y pc ls ((0, u) :: (0, x) :: st) h Q :=
  zwW_ib e (show some (w32 (x + u)) = _ by rw [w32_id h1]) k
theorem zwW_sub {x u : Int} (e : zwat y pc 4 nx 1 0 = true) (h1 : -2147483648 ≤ x - u ∧ x - u ≤ 2147483647) (k : zwW sc D y nx ls ((0, x - u) :: st) h Q) : zwW sc D y pc ls ((0, u) :: (0, x) :: st) h Q :=
  zwW_ib e (show some (w32 (x - u)) = _ by rw [w32_id h1]) k
theorem zwW_mul {x u : Int} (e : zwat y pc 4 nx 2 0 = true) (h1 : -2147483648 ≤ x * u ∧ x * u ≤ 2147483647) (k : zwW sc D y nx ls ((0, x * u) :: st) h Q) : zwW sc D y pc ls ((0, u) :: (0, x) :: st) h Q :=
  zwW_ib e (show some (w32 (x * u)) = _ by rw [w32_id h1]) k
theorem zw_tdiv {x u : Int} (hx : 0 ≤ x) : x.tdiv u = x / u := Int.tdiv_eq_ediv_of_nonneg hx
theorem zw_tmod {x u : Int} (hx : 0 ≤ x) : x.tmod u = x % u := Int.tmod_eq_emod_of_nonneg hx
theorem zwW_div {x u : Int} (e : zwat y pc 4 nx 3 0 = true) (hx : 0 ≤ x) (hx2 : x ≤ 2147483647) (hu : 0 < u) (k : zwW sc D y nx ls ((0, x / u) :: st) h Q) : zwW sc D y pc ls ((0, u) :: (0, x) :: st) h Q := by
  refine zwW_ib e (show (if u = 0 then none else some (w32 (x.tdiv u))) = some (x / u) from ?_) k
  rw [if_neg (by omega), zw_tdiv hx]
  have h1 := Int.ediv_nonneg hx (Int.le_of_lt hu)
  have h2 := Int.ediv_le_self u hx
  rw [w32_id ⟨by omega, by omega⟩]
theorem zwW_rem {x u : Int} (e : zwat y pc 4 nx 4 0 = true) (hx : 0 ≤ x) (hu : 0 < u) (k : zwW sc D y nx ls ((0, x % u) :: st) h Q) : zwW sc D y pc ls ((0, u) :: (0, x) :: st) h Q := by
  refine zwW_ib e (show (if u = 0 then none else some (x.tmod u)) = some (x % u) from ?_) k
  rw [if_neg (by omega), zw_tmod hx]
/-- division and rest of any int by what isn't 0, as they are -/
theorem zwW_tdiv {x u : Int} (e : zwat y pc 4 nx 3 0 = true) (hu : u ≠ 0) (k : zwW sc D y nx ls ((0, w32 (x.tdiv u)) :: st) h Q) : zwW sc D y pc ls ((0, u) :: (0, x) :: st) h Q :=
  zwW_ib e (show (if u = 0 then none else some (w32 (x.tdiv u))) = _ by rw [if_neg hu]) k
theorem zwW_tmod {x u : Int} (e : zwat y pc 4 nx 4 0 = true) (hu : u ≠ 0) (k : zwW sc D y nx ls ((0, x.tmod u) :: st) h Q) : zwW sc D y pc ls ((0, u) :: (0, x) :: st) h Q :=
  zwW_ib e (show (if u = 0 then none else some (x.tmod u)) = _ by rw [if_neg hu]) k
theorem zw_any {k : Nat} {x u : Int} (hk : k < 11) (hx : in32 x) (hu : u ≠ 0 ∨ (k ≠ 3 ∧ k ≠ 4)) : ∃ z, ibin k x u = some z ∧ in32 z := by
  unfold ibin
  have e : k = 0 ∨ k = 1 ∨ k = 2 ∨ k = 3 ∨ k = 4 ∨ k = 5 ∨ k = 6 ∨ k = 7 ∨ k = 8 ∨ k = 9 ∨ k = 10 := by omega
  rcases e with rfl | rfl | rfl | rfl | rfl | rfl | rfl | rfl | rfl | rfl | rfl
  · exact ⟨_, rfl, w32_in _⟩
  · exact ⟨_, rfl, w32_in _⟩
  · exact ⟨_, rfl, w32_in _⟩
  · refine ⟨w32 (x.tdiv u), ?_, w32_in _⟩
    show (if u = 0 then none else some (w32 (x.tdiv u))) = _
    rw [if_neg (by omega)]
  · refine ⟨x.tmod u, ?_, tmod_in hx⟩
    show (if u = 0 then none else some (x.tmod u)) = _
    rw [if_neg (by omega)]
  · exact ⟨_, rfl, w32_in _⟩
  · exact ⟨_, rfl, w32_in _⟩
  · exact ⟨_, rfl, w32_in _⟩
  · exact ⟨_, rfl, w32_in _⟩
  · refine ⟨_, rfl, ?_⟩
    have h2 : (0 : Int) < 2 ^ (u % 32).toNat := Int.pow_pos (by decide)
    unfold i_shr
    unfold in32 at hx ⊢
    by_cases h0 : 0 ≤ x
    · have h3 := Int.ediv_nonneg h0 (Int.le_of_lt h2)
      have h4 := Int.ediv_le_self (2 ^ (u % 32).toNat) h0
      omega
    · have h3 : x / 2 ^ (u % 32).toNat < 0 := Int.ediv_neg_of_neg_of_pos (by omega) h2
      have h4 : x ≤ x / 2 ^ (u % 32).toNat := by
        rw [Int.le_ediv_iff_mul_le h2]
        have : x * 2 ^ (u % 32).toNat ≤ x * 1 := Int.mul_le_mul_of_nonpos_left (by omega) (by omega)
        omega
      omega
  · exact ⟨_, rfl, w32_in _⟩
/-- whatever comes, it is an int -/
theorem zwW_any {a x u : Int} (e : zwat y pc 4 nx a 0 = true) (ha : a.toNat < 11) (hx : in32 x) (hu : u ≠ 0 ∨ (a.toNat ≠ 3 ∧ a.toNat ≠ 4)) (k : ∀ z, in32 z → zwW sc D y nx ls ((0, z) :: st) h Q) : zwW sc D y pc ls ((0, u) :: (0, x) :: st) h Q := by
  obtain ⟨z, h1, h2⟩ := zw_any ha hx hu
  exact zwW_ib e h1 (k z h2)
theorem zwW_neg {x : Int} (e : zwat y pc 6 nx 0 0 = true) (hx : -2147483647 ≤ x ∧ x ≤ 2147483647) (k : zwW sc D y nx ls ((0, -x) :: st) h Q) : zwW sc D y pc ls ((0, x) :: st) h Q := by
  refine zwW_p1 e (by decide) (show some (ls, (0, w32 (-x)) :: st) = _ from ?_) k
  rw [w32_id ⟨by omega, by omega⟩]
theorem zwW_inc {i c x : Int} (e : zwat y pc 3 nx i c = true) (hl : ls[i.toNat]? = some (0, x)) (h1 : -2147483648 ≤ x + c ∧ x + c ≤ 2147483647) (he : storeL ls i.toNat (0, x + c) = ls') (k : zwW sc D y nx ls' st h Q) : zwW sc D y pc ls st h Q := by
  refine zwW_p1 e (by decide) (show (match ls[i.toNat]? with
    | some v => if v.1 = 0 then some (storeL ls i.toNat (0, w32 (v.2 + c)), st) else none
    | none => none) = some (ls', st) from ?_) k
  rw [hl]
  dsimp only
  rw [if_pos rfl, w32_id h1, he]
theorem zwW_ladd {x u : Int} (e : zwat y pc 5 nx 0 0 = true) (h1 : -9223372036854775808 ≤ x + u ∧ x + u ≤ 9223372036854775807) (k : zwW sc D y nx ls ((1, x + u) :: st) h Q) : zwW sc D y pc ls ((1, u) :: (1, x) :: st) h Q :=
  zwW_lb e (show some (w64 (x + u)) = _ by rw [w64_id h1]) k
theorem zwW_lsub {x u : Int} (e : zwat y pc 5 nx 1 0 = true) (h1 : -9223372036854775808 ≤ x - u ∧ x - u ≤ 9223372036854775807) (k : zwW sc D y nx ls ((1, x - u) :: st) h Q) : zwW sc D y pc ls ((1, u) :: (1, x) :: st) h Q :=
  zwW_lb e (show some (w64 (x - u)) = _ by rw [w64_id h1]) k
theorem zwW_lmul {x u : Int} (e : zwat y pc 5 nx 2 0 = true) (h1 : -9223372036854775808 ≤ x * u ∧ x * u ≤ 9223372036854775807) (k : zwW sc D y nx ls ((1, x * u) :: st) h Q) : zwW sc D y pc ls ((1, u) :: (1, x) :: st) h Q :=
  zwW_lb e (show some (w64 (x * u)) = _ by rw [w64_id h1]) k
theorem zwW_ldiv {x u : Int} (e : zwat y pc 5 nx 3 0 = true) (hx : 0 ≤ x) (hx2 : x ≤ 9223372036854775807) (hu : 0 < u) (k : zwW sc D y nx ls ((1, x / u) :: st) h Q) : zwW sc D y pc ls ((1, u) :: (1, x) :: st) h Q := by
  refine zwW_lb e (show (if u = 0 then none else some (w64 (x.tdiv u))) = some (x / u) from ?_) k
  rw [if_neg (by omega), zw_tdiv hx]
  have h1 := Int.ediv_nonneg hx (Int.le_of_lt hu)
  have h2 := Int.ediv_le_self u hx
  rw [w64_id ⟨by omega, by omega⟩]
theorem zwW_lany {a x u : Int} (e : zwat y pc 5 nx a 0 = true) (ha : a = 0 ∨ a = 1 ∨ a = 2 ∨ a = 5 ∨ a = 6 ∨ (a = 3 ∧ u ≠ 0)) (k : ∀ z, in64 z → zwW sc D y nx ls ((1, z) :: st) h Q) : zwW sc D y pc ls ((1, u) :: (1, x) :: st) h Q := by
  rcases ha with rfl | rfl | rfl | rfl | rfl | ⟨rfl, hu⟩
  · exact zwW_lb e rfl (k _ (w64_in _))
  · exact zwW_lb e rfl (k _ (w64_in _))
  · exact zwW_lb e rfl (k _ (w64_in _))
  · exact zwW_lb e rfl (k _ (w64_in _))
  · exact zwW_lb e rfl (k _ (w64_in _))
  · exact zwW_lb e (show (if u = 0 then none else some (w64 (x.tdiv u))) = _ by rw [if_neg hu]) (k _ (w64_in _))
theorem zwW_l2i {x : Int} (e : zwat y pc 8 nx 0 0 = true) (h1 : -2147483648 ≤ x ∧ x ≤ 2147483647) (k : zwW sc D y nx ls ((0, x) :: st) h Q) : zwW sc D y pc ls ((1, x) :: st) h Q := by
  refine zwW_p1 e (by decide) (show some (ls, (0, w32 x) :: st) = _ from ?_) k
  rw [w32_id h1]
theorem zwW_l2w {x : Int} (e : zwat y pc 8 nx 0 0 = true) (k : ∀ z, in32 z → zwW sc D y nx ls ((0, z) :: st) h Q) : zwW sc D y pc ls ((1, x) :: st) h Q :=
  zwW_p1 e (by decide) (show some (ls, (0, w32 x) :: st) = _ from rfl) (k _ (w32_in _))
theorem zwW_i2b {x : Int} (e : zwat y pc 9 nx 0 0 = true) (k : zwW sc D y nx ls ((0, i_byt x) :: st) h Q) : zwW sc D y pc ls ((0, x) :: st) h Q :=
  zwW_p1 e (by decide) rfl k
theorem zwW_i2c {x : Int} (e : zwat y pc 10 nx 0 0 = true) (k : zwW sc D y nx ls ((0, x % 65536) :: st) h Q) : zwW sc D y pc ls ((0, x) :: st) h Q :=
  zwW_p1 e (by decide) rfl k
/-! branches: b of an instruction: 0 eq, 1 ne, 2 lt, 3 ge, 4 gt, 5 le -/
def zwR (b : Nat) (x u : Int) : Prop := match b with
  | 0 => x = u
  | 1 => x ≠ u
  | 2 => x < u
  | 3 => u ≤ x
  | 4 => u < x
  | _ => x ≤ u
theorem zwR_iff {b : Nat} {x u : Int} : cnd b x u = true ↔ zwR b x u := by
  unfold cnd zwR
  match b with
  | 0 => simp
  | 1 => simp
  | 2 => simp
  | 3 => simp
  | 4 => simp
  | b + 5 => simp
theorem zwW_if {a b : Int} {q : Nat} {x : Int} (e : zwat y pc 20 nx a b = true) (hq : a.toNat = q) (k1 : zwR b.toNat x 0 → zwW sc D y q ls st h Q) (k2 : ¬ zwR b.toNat x 0 → zwW sc D y nx ls st h Q) : zwW sc D y pc ls ((0, x) :: st) h Q := by
  by_cases hc : cnd b.toNat x 0 = true
  · refine zwW_b1 e (by decide) (by decide) (fun os => show some (if cnd b.toNat x 0 then a.toNat else nx, st) = _ from ?_) (k1 (zwR_iff.mp hc))
    rw [hc, hq]
    rfl
  · refine zwW_b1 e (by decide) (by decide) (fun os => show some (if cnd b.toNat x 0 then a.toNat else nx, st) = _ from ?_) (k2 (fun hz => hc (zwR_iff.mpr hz)))
    rw [Bool.not_eq_true] at hc
    rw [hc]
    rfl
theorem zwW_icmp {a b : Int} {q : Nat} {x u : Int} (e : zwat y pc 21 nx a b = true) (hq : a.toNat = q) (k1 : zwR b.toNat x u → zwW sc D y q ls st h Q) (k2 : ¬ zwR b.toNat x u → zwW sc D y nx ls st h Q) : zwW sc D y pc ls ((0, u) :: (0, x) :: st) h Q := by
  by_cases hc : cnd b.toNat x u = true
  · refine zwW_b1 e (by decide) (by decide) (fun os => show some (if cnd b.toNat x u then a.toNat else nx, st) = _ from ?_) (k1 (zwR_iff.mp hc))
    rw [hc, hq]
    rfl
  · refine zwW_b1 e (by decide) (by decide) (fun os => show some (if cnd b.toNat x u then a.toNat else nx, st) = _ from ?_) (k2 (fun hz => hc (zwR_iff.mpr hz)))
    rw [Bool.not_eq_true] at hc
    rw [hc]
    rfl
theorem zwl_cmp {b : Nat} {x u : Int} : zwR b (l_cmp x u) 0 ↔ zwR b x u := by
  have e : (x < u ∧ l_cmp x u = -1) ∨ (x = u ∧ l_cmp x u = 0) ∨ (u < x ∧ l_cmp x u = 1) := by
    unfold l_cmp
    by_cases h1 : x < u
    · rw [if_pos h1]; omega
    · rw [if_neg h1]
      by_cases h2 : x = u
      · rw [if_pos h2]; omega
      · rw [if_neg h2]; omega
  match b with
  | 0 => show l_cmp x u = 0 ↔ x = u; omega
  | 1 => show l_cmp x u ≠ 0 ↔ x ≠ u; omega
  | 2 => show l_cmp x u < 0 ↔ x < u; omega
  | 3 => show 0 ≤ l_cmp x u ↔ u ≤ x; omega
  | 4 => show 0 < l_cmp x u ↔ u < x; omega
  | b + 5 => show l_cmp x u ≤ 0 ↔ x ≤ u; omega
/-- lcmp and the branch behind it -/
theorem zwW_lcmp {a b : Int} {m q : Nat} {x u : Int} (e1 : zwat y pc 11 m 0 0 = true) (e : zwat y m 20 nx a b = true) (hq : a.toNat = q) (k1 : zwR b.toNat x u → zwW sc D y q ls st h Q) (k2 : ¬ zwR b.toNat x u → zwW sc D y nx ls st h Q) : zwW sc D y pc ls ((1, u) :: (1, x) :: st) h Q :=
  zwW_p1 e1 (by decide) (show some (ls, (0, l_cmp x u) :: st) = _ from rfl) (zwW_if e hq (fun hz => k1 (zwl_cmp.mp hz)) (fun hz => k2 (fun hw => hz (zwl_cmp.mpr hw))))
/-- a reference against null -/
theorem zwW_null {a b : Int} {q : Nat} {x : Int} (e : zwat y pc 22 nx a b = true) (hq : a.toNat = q) (h0 : 0 ≤ x) (k1 : zwR b.toNat x 0 → zwW sc D y q ls st h Q) (k2 : ¬ zwR b.toNat x 0 → zwW sc D y nx ls st h Q) : zwW sc D y pc ls ((2, x) :: st) h Q := by
  have hh : x = 0 ∨ 0 < x := by omega
  by_cases hc : cnd b.toNat x 0 = true
  · refine zwW_b1 e (by decide) (by decide) (fun os => show (if x = 0 ∨ 0 < x then some (if cnd b.toNat x 0 then a.toNat else nx, st) else none) = _ from ?_) (k1 (zwR_iff.mp hc))
    rw [if_pos hh, hc, hq]
    rfl
  · refine zwW_b1 e (by decide) (by decide) (fun os => show (if x = 0 ∨ 0 < x then some (if cnd b.toNat x 0 then a.toNat else nx, st) else none) = _ from ?_) (k2 (fun hz => hc (zwR_iff.mpr hz)))
    rw [Bool.not_eq_true] at hc
    rw [if_pos hh, hc]
    rfl
theorem zwW_acmp {a b : Int} {q : Nat} {x u : Int} (e : zwat y pc 23 nx a b = true) (hq : a.toNat = q) (h0 : (-2 ≤ x ∧ -2 ≤ u ∧ x ≠ -1 ∧ u ≠ -1) ∨ (x = -4 ∧ u = -4)) (k1 : zwR b.toNat x u → zwW sc D y q ls st h Q) (k2 : ¬ zwR b.toNat x u → zwW sc D y nx ls st h Q) : zwW sc D y pc ls ((2, u) :: (2, x) :: st) h Q := by
  by_cases hc : cnd b.toNat x u = true
  · refine zwW_b1 e (by decide) (by decide) (fun os => show (if (-2 ≤ x ∧ -2 ≤ u ∧ x ≠ -1 ∧ u ≠ -1) ∨ (x = -4 ∧ u = -4) then some (if cnd b.toNat x u then a.toNat else nx, st) else none) = _ from ?_) (k1 (zwR_iff.mp hc))
    rw [if_pos h0, hc, hq]
    rfl
  · refine zwW_b1 e (by decide) (by decide) (fun os => show (if (-2 ≤ x ∧ -2 ≤ u ∧ x ≠ -1 ∧ u ≠ -1) ∨ (x = -4 ∧ u = -4) then some (if cnd b.toNat x u then a.toNat else nx, st) else none) = _ from ?_) (k2 (fun hz => hc (zwR_iff.mpr hz)))
    rw [Bool.not_eq_true] at hc
    rw [if_pos h0, hc]
    rfl
/-! switches -/
noncomputable def zwsw (y pc : Nat) (d : Int) (os : List Int) : Bool := match cdT y pc with
  | some (o, _, a, _, os') => Nat.beq o 25 && (a == d && os' == os)
  | none => false
/-- one of the cases: k ↦ t -/
def zwS (D y : Nat) (sc : List Int) (ls st : List Vl) (h : Hp) (Q : Option Vl → Hp → Prop) (d x : Int) : List Int → Prop
  | k :: t :: r => (x = k → zwW sc D y t.toNat ls st h Q) ∧ (x ≠ k → zwS D y sc ls st h Q d x r)
  | _ => zwW sc D y d.toNat ls st h Q
theorem zwS_of {d x : Int} : ∀ (os : List Int), zwS D y sc ls st h Q d x os → zwW sc D y (swt d x os).toNat ls st h Q
  | [], k => k
  | [_], k => k
  | a :: t :: r, k => by
    unfold zwS at k
    unfold swt
    by_cases hx : x = a
    · rw [if_pos hx]
      exact k.1 hx
    · rw [if_neg hx]
      exact zwS_of r (k.2 hx)
theorem zwW_sw {d x : Int} {os : List Int} (e : zwsw y pc d os = true) (k : zwS D y sc ls st h Q d x os) : zwW sc D y pc ls ((0, x) :: st) h Q := by
  unfold zwsw at e
  split at e
  · rename_i o n a b os' hc
    simp only [Bool.and_eq_true, beq_iff_eq] at e
    obtain ⟨h1, rfl, rfl⟩ := e
    have h1 := Nat.eq_of_beq_eq_true h1
    subst h1
    obtain ⟨n2, r, h', hx, hq⟩ := zwS_of os' k
    exact ⟨n2 + 1, r, h', ⟨25, n, a, b, os', hc, Or.inr (Or.inl ⟨by decide, by decide, _, st, rfl, hx⟩)⟩, hq⟩
  · cases e
/-! the end of a method -/
theorem zwW_ret {a b : Int} {t : Nat} {x : Int} {R : Int → Hp → Prop} (e : zwat y pc 70 nx a b = true) (hb : b.toNat = t) (ha : a = 0 ∨ (a = 1 ∧ (x = 0 ∨ x = 1)) ∨ (a = 2 ∧ 0 ≤ x ∧ x ≤ 65535) ∨ (a = 3 ∧ -128 ≤ x ∧ x ≤ 127)) (k : R x h) : zwW sc D y pc ls [(t, x)] h (zwRt t R) := by
  obtain ⟨os, e⟩ := zwat_of e
  refine ⟨1, some (t, x), h, ⟨70, nx, a, b, os, e, Or.inr (Or.inr (Or.inr (Or.inr (Or.inr ⟨by decide, ?_, rfl⟩))))⟩, x, rfl, k⟩
  show (if t = b.toNat ∧ (a = 1 → x = 0 ∨ x = 1) ∧ (a = 2 → 0 ≤ x ∧ x ≤ 65535) ∧ (a = 3 → -128 ≤ x ∧ x ≤ 127) then some (some (t, x)) else none) = _
  rw [if_pos ⟨hb.symm, by omega, by omega, by omega⟩]
theorem zwW_retv {R : Hp → Prop} {a b : Int} (e : zwat y pc 71 nx a b = true) (k : R h) : zwW sc D y pc ls [] h (zwRv R) := by
  obtain ⟨os, e⟩ := zwat_of e
  exact ⟨1, none, h, ⟨71, nx, a, b, os, e, Or.inr (Or.inr (Or.inr (Or.inr (Or.inr ⟨by decide, rfl, rfl⟩))))⟩, rfl, k⟩
/-! shapes and contents -/
def sh (h : Hp) (r : Int) : Option (Nat × Nat) := (cel h r).map (fun e => (e.1, e.2.length))
def fld (h : Hp) (r : Int) (i : Nat) : Int := match cel h r with
  | some e => e.2.getD i 0
  | none => 0
def wr (h : Hp) (r : Int) (i : Nat) (x : Int) : Hp := match cel h r with
  | some e => h.set (r.toNat - 1) (e.1, e.2.set i x)
  | none => h
theorem sh_cel {r : Int} {k n : Nat} (s : sh h r = some (k, n)) : ∃ l, cel h r = some (k, l) ∧ l.length = n := by
  unfold sh at s
  cases hc : cel h r with
  | none => rw [hc] at s; cases s
  | some e =>
    rw [hc] at s
    cases s
    exact ⟨e.2, rfl, rfl⟩
theorem sh_of {r : Int} {k : Nat} {l : List Int} (hc : cel h r = some (k, l)) : sh h r = some (k, l.length) := by unfold sh; rw [hc]; rfl
theorem sh_pos {r : Int} {k n : Nat} (s : sh h r = some (k, n)) : 0 < r ∧ r ≤ h.length := by
  obtain ⟨l, hc, -⟩ := sh_cel s
  have := cel_of hc
  exact ⟨this.1, this.2.2⟩
theorem fld_of {r : Int} {k : Nat} {l : List Int} {i : Nat} (hc : cel h r = some (k, l)) : fld h r i = l.getD i 0 := by unfold fld; rw [hc]
theorem fld_at {r : Int} {k : Nat} {l : List Int} {i : Nat} (hc : cel h r = some (k, l)) (hi : i < l.length) : l[i]? = some (fld h r i) := by
  rw [fld_of hc, List.getD_eq_getElem?_getD, List.getElem?_eq_getElem hi]
  rfl
theorem wr_of {r : Int} {k : Nat} {l : List Int} {i : Nat} {x : Int} (hc : cel h r = some (k, l)) : wr h r i x = h.set (r.toNat - 1) (k, l.set i x) := by unfold wr; rw [hc]
theorem cel_set {r : Int} {e : Nat × List Int} (q : Int) (hc : (cel h r).isSome) : cel (h.set (r.toNat - 1) e) q = if q = r then some e else cel h q := by
  obtain ⟨e0, he⟩ := Option.isSome_iff_exists.mp hc
  obtain ⟨h1, h2, h3⟩ := cel_of he
  unfold cel
  by_cases hq : 0 < q
  · rw [if_pos hq, if_pos hq, List.getElem?_set]
    by_cases hqr : q = r
    · subst hqr
      rw [if_pos rfl, if_pos rfl, if_pos (by omega)]
    · rw [if_neg (by omega), if_neg hqr]
  · rw [if_neg hq, if_neg hq, if_neg (by omega)]
theorem sh_wr {r q : Int} {i : Nat} {x : Int} : sh (wr h r i x) q = sh h q := by
  unfold wr
  cases hc : cel h r with
  | none => rfl
  | some e =>
    dsimp only
    unfold sh
    rw [cel_set q (by rw [hc]; rfl)]
    by_cases hq : q = r
    · rw [if_pos hq, hq, hc]
      simp
    · rw [if_neg hq]
theorem fld_wr {r q : Int} {i j : Nat} {x : Int} (hn : q ≠ r ∨ j ≠ i) : fld (wr h r i x) q j = fld h q j := by
  unfold wr
  cases hc : cel h r with
  | none => rfl
  | some e =>
    dsimp only
    unfold fld
    rw [cel_set q (by rw [hc]; rfl)]
    by_cases hq : q = r
    · rw [if_pos hq, hq, hc]
      dsimp only
      rw [List.getD_eq_getElem?_getD, List.getElem?_set, if_neg (by omega), List.getD_eq_getElem?_getD]
    · rw [if_neg hq]
theorem fld_wr_eq {r : Int} {i k n : Nat} {x : Int} (s : sh h r = some (k, n)) (hi : i < n) : fld (wr h r i x) r i = x := by
  obtain ⟨l, hc, rfl⟩ := sh_cel s
  rw [wr_of hc]
  unfold fld
  rw [cel_set r (by rw [hc]; rfl), if_pos rfl]
  dsimp only
  rw [List.getD_eq_getElem?_getD, List.getElem?_set, if_pos rfl, if_pos hi]
  rfl
theorem len_wr {r : Int} {i : Nat} {x : Int} : (wr h r i x).length = h.length := by
  unfold wr
  split
  · rw [List.length_set]
  · rfl
theorem sz_wr {r : Int} {i : Nat} {x : Int} : sz (wr h r i x) = sz h := by
  unfold wr
  cases hc : cel h r with
  | none => rfl
  | some e => exact sz_set (cel_of hc).2.1 (by simp)
/-! instructions that read -/
noncomputable def zkGet (y pc nx kd bn t : Nat) : Bool := match cdT y pc with
  | some (o, n, a, b, _) => Nat.beq o 30 && (Nat.beq n nx && (a == (kd : Int) && (b == (bn : Int) && Nat.beq (tg (kty kd bn)) t)))
  | none => false
theorem zkGet_of {kd bn t : Nat} (e : zkGet y pc nx kd bn t = true) : zwat y pc 30 nx (kd : Int) (bn : Int) = true ∧ tg (kty kd bn) = t := by
  unfold zkGet at e
  unfold zwat
  split at e
  · simp only [Bool.and_eq_true, beq_iff_eq] at e
    obtain ⟨h1, h2, rfl, rfl, h3⟩ := e
    have h1 := Nat.eq_of_beq_eq_true h1
    have h2 := Nat.eq_of_beq_eq_true h2
    subst h1 h2
    exact ⟨by simp, Nat.eq_of_beq_eq_true h3⟩
  · cases e
theorem zwW_get {kd bn t n : Nat} {r : Int} (e : zkGet y pc nx kd bn t = true) (s : sh h r = some (kd, n)) (hb : Nat.blt bn n = true) (k : zwW sc D y nx ls ((t, fld h r bn) :: st) h Q) : zwW sc D y pc ls ((2, r) :: st) h Q := by
  obtain ⟨e2, rfl⟩ := zkGet_of e
  obtain ⟨l, hc, rfl⟩ := sh_cel s
  have hb : bn < l.length := Nat.le_of_ble_eq_true hb
  refine zwW_r1 e2 (by decide) (by decide) (show (match cel h r with
      | some (kd', l) => if (kd' : Int) = (kd : Int) then (match l[(bn : Int).toNat]? with
        | some x => some ((tg (kty kd' (bn : Int).toNat), x) :: st)
        | none => none) else none
      | none => none) = _ from ?_) k
  rw [hc]
  dsimp only
  rw [if_pos rfl, Int.toNat_natCast, fld_at hc hb]
/-- kinds of arrays that an instruction takes, and the tag of what comes -/
def zkAk (a : Int) (kd t : Nat) : Bool := (a == (kd : Int) || ((a == 21 && Nat.beq kd 22) || (a == 24 && Nat.ble 24 kd))) && Nat.beq (tg (kty kd 0)) t
theorem zwW_ald {a i r : Int} {kd n t : Nat} (e : zwat y pc 32 nx a 0 = true) (s : sh h r = some (kd, n)) (hk : zkAk a kd t = true) (h0 : 0 ≤ i) (hn : i < n) (k : zwW sc D y nx ls ((t, fld h r i.toNat) :: st) h Q) : zwW sc D y pc ls ((0, i) :: (2, r) :: st) h Q := by
  obtain ⟨l, hc, rfl⟩ := sh_cel s
  have hr := (cel_of hc).1
  unfold zkAk at hk
  simp only [Bool.and_eq_true, Bool.or_eq_true, beq_iff_eq] at hk
  obtain ⟨hk, ht⟩ := hk
  have ht := Nat.eq_of_beq_eq_true ht
  subst ht
  have hk2 : (kd : Int) = a ∨ (a = 21 ∧ kd = 22) ∨ (a = 24 ∧ 24 ≤ kd) := by
    rcases hk with h1 | ⟨h1, h2⟩ | ⟨h1, h2⟩
    · exact Or.inl h1.symm
    · exact Or.inr (Or.inl ⟨h1, Nat.eq_of_beq_eq_true h2⟩)
    · exact Or.inr (Or.inr ⟨h1, Nat.le_of_ble_eq_true h2⟩)
  refine zwW_r1 e (by decide) (by decide) (show (if i < 0 then none else if r = -1 then (if a = 20 then (match sc[i.toNat]? with
        | some x => some ((0, x) :: st)
        | none => none) else none) else if r ≤ -100 then (if a = 21 then (match txt stxt r with
        | some l => (match l[i.toNat]? with
          | some x => some ((0, x) :: st)
          | none => none)
        | none => none) else none)
      else (match cel h r with
      | some (kd, l) => if (kd : Int) = a ∨ (a = 21 ∧ kd = 22) ∨ (a = 24 ∧ 24 ≤ kd) then (match l[i.toNat]? with
        | some x => some ((tg (kty kd 0), x) :: st)
        | none => none) else none
      | none => none)) = _ from ?_) k
  rw [if_neg (by omega), if_neg (by omega), if_neg (by omega), hc]
  dsimp only
  rw [if_pos hk2, fld_at hc (by omega)]
theorem zwW_sld {i : Int} (e : zwat y pc 32 nx 20 0 = true) (h0 : 0 ≤ i) (hn : i < sc.length) (k : zwW sc D y nx ls ((0, sc.getD i.toNat 0) :: st) h Q) : zwW sc D y pc ls ((0, i) :: (2, -1) :: st) h Q := by
  refine zwW_r1 e (by decide) (by decide) (show (if i < 0 then none else if (-1 : Int) = -1 then (if (20 : Int) = 20 then (match sc[i.toNat]? with
        | some x => some ((0, x) :: st)
        | none => none) else none) else _) = _ from ?_) k
  rw [if_neg (by omega), if_pos rfl, if_pos rfl, List.getD_eq_getElem?_getD, List.getElem?_eq_getElem (by omega)]
  rfl
theorem zwW_slen (e : zwat y pc 31 nx 0 0 = true) (k : zwW sc D y nx ls ((0, (sc.length : Int)) :: st) h Q) : zwW sc D y pc ls ((2, -1) :: st) h Q :=
  zwW_r1 e (by decide) (by decide) rfl k
theorem zwW_elen (e : zwat y pc 31 nx 0 0 = true) (k : zwW sc D y nx ls ((0, 0) :: st) h Q) : zwW sc D y pc ls ((2, -2) :: st) h Q :=
  zwW_r1 e (by decide) (by decide) rfl k
theorem zwW_len {r : Int} {kd n : Nat} (e : zwat y pc 31 nx 0 0 = true) (s : sh h r = some (kd, n)) (hk : Nat.ble 20 kd = true) (k : zwW sc D y nx ls ((0, (n : Int)) :: st) h Q) : zwW sc D y pc ls ((2, r) :: st) h Q := by
  obtain ⟨l, hc, rfl⟩ := sh_cel s
  have hr := (cel_of hc).1
  refine zwW_r1 e (by decide) (by decide) (show (if r = -1 then some ((0, (sc.length : Int)) :: st) else if r = -2 then some ((0, 0) :: st) else if r ≤ -100 then (match txt stxt r with
        | some l => some ((0, (l.length : Int)) :: st)
        | none => none)
      else (match cel h r with
      | some (kd, l) => if 20 ≤ kd then some ((0, (l.length : Int)) :: st) else none
      | none => none)) = _ from ?_) k
  rw [if_neg (by omega), if_neg (by omega), if_neg (by omega), hc]
  dsimp only
  rw [if_pos (Nat.le_of_ble_eq_true hk)]
theorem zwW_cast {a r : Int} {kd n : Nat} (e : zwat y pc 34 nx a 0 = true) (ha : a = (kd : Int)) (s : r = 0 ∨ sh h r = some (kd, n)) (k : zwW sc D y nx ls ((2, r) :: st) h Q) : zwW sc D y pc ls ((2, r) :: st) h Q := by
  refine zwW_r1 e (by decide) (by decide) (show (if r = 0 then some ((2, r) :: st) else (match cel h r with
      | some (kd, _) => if (kd : Int) = a then some ((2, r) :: st) else none
      | none => none)) = _ from ?_) k
  by_cases h0 : r = 0
  · rw [if_pos h0]
  · rw [if_neg h0]
    rcases s with s | s
    · exact absurd s h0
    · obtain ⟨l, hc, -⟩ := sh_cel s
      rw [hc]
      dsimp only
      rw [if_pos ha.symm]
theorem zwW_obj {r : Int} (e : zwat y pc 35 nx 0 0 = true) (hr : 0 < r) (hw : Nat.ble (wds st) 8 = true) (k : zwW sc D y nx ls st h Q) : zwW sc D y pc ls ((2, r) :: st) h Q := by
  refine zwW_r1 e (by decide) (by decide) (show (if 0 < r ∧ wds st ≤ 8 then some st else none) = _ from ?_) k
  rw [if_pos ⟨hr, Nat.le_of_ble_eq_true hw⟩]
theorem zwW_max {x u : Int} (e : zwat y pc 36 nx 0 0 = true) (hw : Nat.ble (wds st) 8 = true) (k : ∀ z, z = max x u → zwW sc D y nx ls ((0, z) :: st) h Q) : zwW sc D y pc ls ((0, u) :: (0, x) :: st) h Q := by
  refine zwW_r1 e (by decide) (by decide) (show (if wds st ≤ 8 then some ((0, mth 0 x u) :: st) else none) = _ from ?_) (k (mth 0 x u) ?_)
  · rw [if_pos (Nat.le_of_ble_eq_true hw)]
  · unfold mth
    rw [if_pos rfl]
    split <;> omega
theorem zwW_min {x u : Int} (e : zwat y pc 36 nx 1 0 = true) (hw : Nat.ble (wds st) 8 = true) (k : ∀ z, z = min x u → zwW sc D y nx ls ((0, z) :: st) h Q) : zwW sc D y pc ls ((0, u) :: (0, x) :: st) h Q := by
  refine zwW_r1 e (by decide) (by decide) (show (if wds st ≤ 8 then some ((0, mth 1 x u) :: st) else none) = _ from ?_) (k (mth 1 x u) ?_)
  · rw [if_pos (Nat.le_of_ble_eq_true hw)]
  · unfold mth
    rw [if_neg (by decide)]
    split <;> omega
theorem zwW_lmax {x u : Int} (e : zwat y pc 37 nx 0 0 = true) (hw : Nat.ble (wds st) 8 = true) (k : ∀ z, z = max x u → zwW sc D y nx ls ((1, z) :: st) h Q) : zwW sc D y pc ls ((1, u) :: (1, x) :: st) h Q := by
  refine zwW_r1 e (by decide) (by decide) (show (if wds st ≤ 8 then some ((1, mth 0 x u) :: st) else none) = _ from ?_) (k (mth 0 x u) ?_)
  · rw [if_pos (Nat.le_of_ble_eq_true hw)]
  · unfold mth
    rw [if_pos rfl]
    split <;> omega
theorem zwW_lmin {x u : Int} (e : zwat y pc 37 nx 1 0 = true) (hw : Nat.ble (wds st) 8 = true) (k : ∀ z, z = min x u → zwW sc D y nx ls ((1, z) :: st) h Q) : zwW sc D y pc ls ((1, u) :: (1, x) :: st) h Q := by
  refine zwW_r1 e (by decide) (by decide) (show (if wds st ≤ 8 then some ((1, mth 1 x u) :: st) else none) = _ from ?_) (k (mth 1 x u) ?_)
  · rw [if_pos (Nat.le_of_ble_eq_true hw)]
  · unfold mth
    rw [if_neg (by decide)]
    split <;> omega
/-! instructions that write -/
noncomputable def zkPut (y pc nx kd bn t : Nat) : Bool := match cdT y pc with
  | some (o, n, a, b, _) => Nat.beq o 40 && (Nat.beq n nx && (a == (kd : Int) && (b == (bn : Int) && Nat.beq (kty kd bn) t)))
  | none => false
theorem zkPut_of {kd bn t : Nat} (e : zkPut y pc nx kd bn t = true) : zwat y pc 40 nx (kd : Int) (bn : Int) = true ∧ kty kd bn = t := by
  unfold zkPut at e
  unfold zwat
  split at e
  · simp only [Bool.and_eq_true, beq_iff_eq] at e
    obtain ⟨h1, h2, rfl, rfl, h3⟩ := e
    have h1 := Nat.eq_of_beq_eq_true h1
    have h2 := Nat.eq_of_beq_eq_true h2
    subst h1 h2
    exact ⟨by simp, Nat.eq_of_beq_eq_true h3⟩
  · cases e
theorem zwW_put {kd bn t n : Nat} {r x : Int} {tv : Nat} (e : zkPut y pc nx kd bn t = true) (s : sh h r = some (kd, n)) (hb : Nat.blt bn n = true) (ht : keptF t (tv, x) = some x) (k : ∀ h', h' = wr h r bn x → zwW sc D y nx ls st h' Q) : zwW sc D y pc ls ((tv, x) :: (2, r) :: st) h Q := by
  obtain ⟨e2, rfl⟩ := zkPut_of e
  obtain ⟨l, hc, rfl⟩ := sh_cel s
  have hb : bn < l.length := Nat.le_of_ble_eq_true hb
  refine zwW_w1 e2 (by decide) (by decide) (show (match cel h r with
      | some (kd', l) => if (kd' : Int) = (kd : Int) ∧ (bn : Int).toNat < l.length then (match keptF (kty kd' (bn : Int).toNat) (tv, x) with
        | some x => some (h.set (r.toNat - 1) (kd', l.set (bn : Int).toNat x), st)
        | none => none) else none
      | none => none) = some (wr h r bn x, st) from ?_) (k _ rfl)
  rw [hc]
  dsimp only
  rw [if_pos ⟨rfl, by rw [Int.toNat_natCast]; exact hb⟩, Int.toNat_natCast, ht, wr_of hc]
theorem zwW_ast {a i r : Int} {kd n : Nat} {v : Vl} {x : Int} (e : zwat y pc 41 nx a 0 = true) (s : sh h r = some (kd, n)) (hk : zkAk a kd (tg (kty kd 0)) = true) (h0 : 0 ≤ i) (hn : i < n) (hv : kept h kd v = some x) (k : ∀ h', h' = wr h r i.toNat x → zwW sc D y nx ls st h' Q) : zwW sc D y pc ls (v :: (0, i) :: (2, r) :: st) h Q := by
  obtain ⟨l, hc, rfl⟩ := sh_cel s
  unfold zkAk at hk
  simp only [Bool.and_eq_true, Bool.or_eq_true, beq_iff_eq] at hk
  obtain ⟨hk, -⟩ := hk
  have hk2 : (kd : Int) = a ∨ (a = 21 ∧ kd = 22) ∨ (a = 24 ∧ 24 ≤ kd) := by
    rcases hk with h1 | ⟨h1, h2⟩ | ⟨h1, h2⟩
    · exact Or.inl h1.symm
    · exact Or.inr (Or.inl ⟨h1, Nat.eq_of_beq_eq_true h2⟩)
    · exact Or.inr (Or.inr ⟨h1, Nat.le_of_ble_eq_true h2⟩)
  refine zwW_w1 e (by decide) (by decide) (show (match cel h r with
      | some (kd, l) => if 0 ≤ i ∧ i.toNat < l.length ∧ ((kd : Int) = a ∨ (a = 21 ∧ kd = 22) ∨ (a = 24 ∧ 24 ≤ kd)) then (match kept h kd v with
        | some x => some (h.set (r.toNat - 1) (kd, l.set i.toNat x), st)
        | none => none) else none
      | none => none) = some (wr h r i.toNat x, st) from ?_) (k _ rfl)
  rw [hc]
  dsimp only
  rw [if_pos ⟨h0, by omega, hk2⟩, hv, wr_of hc]
theorem zwW_new {kd n : Nat} {a b : Int} (e : zwat y pc 42 nx a b = true) (ha : a = (kd : Int)) (hb : b = (n : Int)) (k : ∀ h' r, h' = h ++ [(kd, List.replicate n 0)] → r = ((h.length + 1 : Nat) : Int) → zwW sc D y nx ls ((2, r) :: st) h' Q) : zwW sc D y pc ls st h Q := by
  subst ha hb
  exact zwW_w1 e (by decide) (by decide) rfl (k _ _ rfl rfl)
theorem zwW_newa {op kd : Nat} {a m : Int} (e : zwat y pc op nx a 0 = true) (ho : op = 43 ∨ op = 44) (ha : a = (kd : Int)) (h0 : 0 ≤ m) (h1 : m ≤ 100000) (k : ∀ h' r, h' = h ++ [(kd, List.replicate m.toNat 0)] → r = ((h.length + 1 : Nat) : Int) → zwW sc D y nx ls ((2, r) :: st) h' Q) : zwW sc D y pc ls ((0, m) :: st) h Q := by
  subst ha
  rcases ho with rfl | rfl
  · refine zwW_w1 e (by decide) (by decide) (show (if 0 ≤ m ∧ m ≤ 100000 then some (h ++ [((kd : Int).toNat, List.replicate m.toNat 0)], (2, ((h.length + 1 : Nat) : Int)) :: st) else none) = _ from ?_) (k _ _ rfl rfl)
    rw [if_pos ⟨h0, h1⟩, Int.toNat_natCast]
  · refine zwW_w1 e (by decide) (by decide) (show (if 0 ≤ m ∧ m ≤ 100000 then some (h ++ [((kd : Int).toNat, List.replicate m.toNat 0)], (2, ((h.length + 1 : Nat) : Int)) :: st) else none) = _ from ?_) (k _ _ rfl rfl)
    rw [if_pos ⟨h0, h1⟩, Int.toNat_natCast]
/-! calls -/
theorem zwW_c1 {op k' : Nat} {b : Int} (e : zwat y pc op nx (k' : Int) b = true) (ho : 60 ≤ op) (ho' : op < 70) (hp : popA op b st = some (as, st')) (hr : rcv op (mK k') h as) (C : zwC sc D' k' as h Q') (hD : D' ≤ D) (k : ∀ r h', Q' r h' → zwW sc D y nx ls (pshR r st') h' Q) : zwW sc D y pc ls st h Q := by
  obtain ⟨os, e⟩ := zwat_of e
  obtain ⟨r1, h1, hx1, hq1⟩ := zwC_up hD C
  obtain ⟨n, r, h', hx, hq⟩ := k r1 h1 hq1
  exact ⟨n + 1, r, h', ⟨op, nx, k', b, os, e, Or.inr (Or.inr (Or.inr (Or.inr (Or.inl ⟨ho, ho', as, st', r1, h1, hp, hr, hx1, hx⟩))))⟩, hq⟩
noncomputable def zkCall (y pc nx op k n : Nat) : Bool := match cdT y pc with
  | some (o, m, a, b, _) => Nat.beq o op && (Nat.beq m nx && (a == (k : Int) && (b == (n : Int) && (Nat.ble 60 op && Nat.blt op 70))))
  | none => false
theorem zkCall_of {op k n : Nat} (e : zkCall y pc nx op k n = true) : zwat y pc op nx (k : Int) (n : Int) = true ∧ 60 ≤ op ∧ op < 70 := by
  unfold zkCall at e
  unfold zwat
  split at e
  · simp only [Bool.and_eq_true, beq_iff_eq] at e
    obtain ⟨h1, h2, rfl, rfl, h3, h4⟩ := e
    have h1 := Nat.eq_of_beq_eq_true h1
    have h2 := Nat.eq_of_beq_eq_true h2
    subst h1 h2
    exact ⟨by simp, Nat.le_of_ble_eq_true h3, Nat.le_of_ble_eq_true h4⟩
  · cases e
theorem rcv_sh {op k n : Nat} {r : Int} {t : List Vl} (s : sh h r = some (k, n)) : rcv op k h ((2, r) :: t) := by
  obtain ⟨l, hc, -⟩ := sh_cel s
  exact Or.inr (Or.inl ⟨r, l, t, rfl, hc⟩)
/-- a static method -/
theorem zwW_cs {k' n t : Nat} {R : Int → Hp → Prop} (e : zkCall y pc nx 61 k' n = true) (hp : popA 61 (n : Int) st = some (as, st')) (C : zwC sc D' k' as h (zwRt t R)) (hD : Nat.ble D' D = true) (k : ∀ x h', R x h' → zwW sc D y nx ls ((t, x) :: st') h' Q) : zwW sc D y pc ls st h Q := by
  obtain ⟨e, h1, h2⟩ := zkCall_of e
  exact zwW_c1 e h1 h2 hp (Or.inl rfl) C (Nat.le_of_ble_eq_true hD) (fun r h' hq => by
    obtain ⟨x, rfl, hq⟩ := hq
    exact k x h' hq)
theorem zwW_csv {k' n : Nat} {R : Hp → Prop} (e : zkCall y pc nx 61 k' n = true) (hp : popA 61 (n : Int) st = some (as, st')) (C : zwC sc D' k' as h (zwRv R)) (hD : Nat.ble D' D = true) (k : ∀ h', R h' → zwW sc D y nx ls st' h' Q) : zwW sc D y pc ls st h Q := by
  obtain ⟨e, h1, h2⟩ := zkCall_of e
  exact zwW_c1 e h1 h2 hp (Or.inl rfl) C (Nat.le_of_ble_eq_true hD) (fun r h' hq => by
    obtain ⟨rfl, hq⟩ := hq
    exact k h' hq)
/-- a method of an object -/
theorem zwW_cv {op k' n t kd m : Nat} {r : Int} {tl : List Vl} {R : Int → Hp → Prop} (e : zkCall y pc nx op k' n = true) (hp : popA op (n : Int) st = some ((2, r) :: tl, st')) (hk : mK k' = kd) (s : sh h r = some (kd, m)) (C : zwC sc D' k' ((2, r) :: tl) h (zwRt t R)) (hD : Nat.ble D' D = true) (k : ∀ x h', R x h' → zwW sc D y nx ls ((t, x) :: st') h' Q) : zwW sc D y pc ls st h Q := by
  obtain ⟨e, h1, h2⟩ := zkCall_of e
  subst hk
  exact zwW_c1 e h1 h2 hp (rcv_sh s) C (Nat.le_of_ble_eq_true hD) (fun r h' hq => by
    obtain ⟨x, rfl, hq⟩ := hq
    exact k x h' hq)
theorem zwW_cvv {op k' n kd m : Nat} {r : Int} {tl : List Vl} {R : Hp → Prop} (e : zkCall y pc nx op k' n = true) (hp : popA op (n : Int) st = some ((2, r) :: tl, st')) (hk : mK k' = kd) (s : sh h r = some (kd, m)) (C : zwC sc D' k' ((2, r) :: tl) h (zwRv R)) (hD : Nat.ble D' D = true) (k : ∀ h', R h' → zwW sc D y nx ls st' h' Q) : zwW sc D y pc ls st h Q := by
  obtain ⟨e, h1, h2⟩ := zkCall_of e
  subst hk
  exact zwW_c1 e h1 h2 hp (rcv_sh s) C (Nat.le_of_ble_eq_true hD) (fun r h' hq => by
    obtain ⟨rfl, hq⟩ := hq
    exact k h' hq)
/-- loops: the measure falls -/
theorem zw_loop {α : Type} (P : α → Prop) (G : α → Prop) (ms : α → Nat) (step : ∀ a, P a → (∀ b, P b → ms b < ms a → G b) → G a) : ∀ a, P a → G a := by
  have hh : ∀ n a, ms a ≤ n → P a → G a := by
    intro n
    induction n with
    | zero => exact fun a hn ha => step a ha (fun b hb hlt => by omega)
    | succ n ih => exact fun a hn ha => step a ha (fun b hb hlt => ih b (by omega) hb)
  exact fun a ha => hh (ms a) a (Nat.le_refl _) ha
end ZW
