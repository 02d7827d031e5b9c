/-! the start: both constructors run by the kernel -/
def bxr (op k : Nat) (h : Hp) (as : List Vl) : Bool := Nat.beq op 61 || (match as with
  | (2, r) :: _ => (match cel h r with
    | some (k', _) => Nat.beq k' k
    | none => false)
  | _ => false)
def bxo (st : List Vl) : Bool := st.all (fun v => !(Nat.beq v.1 2 && decide (v.2 = -1)))
noncomputable def bxS (ih : Nat → Nat → Nat → List Vl → List Vl → Hp → Option (Option Vl × Hp)) (d y pc : Nat) (ls st : List Vl) (h : Hp) : Option (Option Vl × Hp) :=
  match cdT y pc with
  | none => none
  | some (op, nx, a, b, os) =>
    if op < 20 then (match pst op a b ls st with
      | some (ls', st') => ih d y nx ls' st' h
      | none => none)
    else if op < 30 then (match bst op nx a b os st with
      | some (p, st') => ih d y p ls st' h
      | none => none)
    else if op < 40 then (if bxo st = true then (match rst [] stxt op a b h st with
      | some st' => ih d y nx ls st' h
      | none => none) else none)
    else if op < 60 then (match wst op a b h st with
      | some (h', st') => ih d y nx ls st' h'
      | none => none)
    else if op < 70 then (match popA op b st with
      | some (as, st') => if bxr op (mK a.toNat) h as = true ∧ (argL as).length ≤ mL a.toNat then (match d with
        | 0 => none
        | d + 1 => (match ih d a.toNat 0 (initL as (mL a.toNat)) [] h with
          | some (r1, h1) => ih (d + 1) y nx ls (pshR r1 st') h1
          | none => none)) else none
      | none => none)
    else (match retOf op a b st with
      | some r => some (r, h)
      | none => none)
noncomputable def bx (n : Nat) : Nat → Nat → Nat → List Vl → List Vl → Hp → Option (Option Vl × Hp) := Nat.rec (fun _ _ _ _ _ _ => none) (fun _ ih => bxS ih) n
theorem bxo_ne {r : Int} {rest : List Vl} (hb : bxo ((2, r) :: rest) = true) : r ≠ -1 := by
  unfold bxo at hb
  rw [List.all_cons, Bool.and_eq_true] at hb
  intro hz
  subst hz
  exact absurd hb.1 (by decide)
theorem bxo_tl {v : Vl} {rest : List Vl} (hb : bxo (v :: rest) = true) : bxo rest = true := by
  unfold bxo at hb ⊢
  rw [List.all_cons, Bool.and_eq_true] at hb
  exact hb.2
theorem rst_sc {sc : List Int} {op : Nat} {a b : Int} {h : Hp} {st st' : List Vl} (hb : bxo st = true) (e : rst [] stxt op a b h st = some st') : rst sc stxt op a b h st = some st' := by
  unfold rst at e ⊢
  by_cases q : op = 30
  · rw [if_pos q] at e ⊢; exact e
  · rw [if_neg q] at e ⊢
    by_cases q1 : op = 31
    · rw [if_pos q1] at e ⊢
      split at e
      · have hr := bxo_ne hb
        rw [if_neg hr] at e ⊢
        exact e
      · cases e
    · rw [if_neg q1] at e ⊢
      by_cases q2 : op = 32
      · rw [if_pos q2] at e ⊢
        split at e
        · rename_i i r rest
          have hr := bxo_ne (bxo_tl hb)
          by_cases hi : i < 0
          · rw [if_pos hi] at e; cases e
          · rw [if_neg hi, if_neg hr] at e ⊢
            exact e
        · cases e
      · rw [if_neg q2] at e ⊢
        exact e
theorem bxr_ok {op k : Nat} {h : Hp} {as : List Vl} (e : bxr op k h as = true) : rcv op k h as := by
  unfold bxr at e
  rw [Bool.or_eq_true] at e
  rcases e with e | e
  · exact Or.inl (Nat.eq_of_beq_eq_true e)
  · split at e
    · rename_i r t
      cases hc : cel h r with
      | none => rw [hc] at e; cases e
      | some w =>
        obtain ⟨k', l⟩ := w
        rw [hc] at e
        exact Or.inr (Or.inl ⟨r, l, t, rfl, by rw [hc, Nat.eq_of_beq_eq_true e]⟩)
    · cases e
theorem bx_ok {sc : List Int} : ∀ (n d y pc : Nat) (ls st : List Vl) (h : Hp) (r : Option Vl) (g : Hp), bx n d y pc ls st h = some (r, g) → ∀ D, d ≤ D → zwW sc D y pc ls st h (fun r' g' => r' = r ∧ g' = g)
  | 0, _, _, _, _, _, _, _, _, e, _, _ => by cases e
  | n + 1, d, y, pc, ls, st, h, r, g, e, D, hD => by
    have e : bxS (bx n) d y pc ls st h = some (r, g) := e
    unfold bxS at e
    cases ho : cdT y pc with
    | none => rw [ho] at e; cases e
    | some w =>
      obtain ⟨op, nx, a, b, os⟩ := w
      rw [ho] at e
      dsimp only at e
      by_cases q1 : op < 20
      · rw [if_pos q1] at e
        cases hp : pst op a b ls st with
        | none => rw [hp] at e; cases e
        | some w =>
          obtain ⟨ls', st'⟩ := w
          rw [hp] at e
          obtain ⟨m, r1, h1, hx, hq⟩ := bx_ok (sc := sc) n d y nx ls' st' h r g e D hD
          exact ⟨m + 1, r1, h1, ⟨op, nx, a, b, os, ho, Or.inl ⟨q1, ls', st', hp, hx⟩⟩, hq⟩
      · rw [if_neg q1] at e
        by_cases q2 : op < 30
        · rw [if_pos q2] at e
          cases hp : bst op nx a b os st with
          | none => rw [hp] at e; cases e
          | some w =>
            obtain ⟨p, st'⟩ := w
            rw [hp] at e
            obtain ⟨m, r1, h1, hx, hq⟩ := bx_ok (sc := sc) n d y p ls st' h r g e D hD
            exact ⟨m + 1, r1, h1, ⟨op, nx, a, b, os, ho, Or.inr (Or.inl ⟨by omega, q2, p, st', hp, hx⟩)⟩, hq⟩
        · rw [if_neg q2] at e
          by_cases q3 : op < 40
          · rw [if_pos q3] at e
            by_cases hb : bxo st = true
            · rw [if_pos hb] at e
              cases hp : rst [] stxt op a b h st with
              | none => rw [hp] at e; cases e
              | some st' =>
                rw [hp] at e
                obtain ⟨m, r1, h1, hx, hq⟩ := bx_ok (sc := sc) n d y nx ls st' h r g e D hD
                exact ⟨m + 1, r1, h1, ⟨op, nx, a, b, os, ho, Or.inr (Or.inr (Or.inl ⟨by omega, q3, st', rst_sc hb hp, hx⟩))⟩, hq⟩
            · rw [if_neg hb] at e; cases e
          · rw [if_neg q3] at e
            by_cases q4 : op < 60
            · rw [if_pos q4] at e
              cases hp : wst op a b h st with
              | none => rw [hp] at e; cases e
              | some w =>
                obtain ⟨h', st'⟩ := w
                rw [hp] at e
                obtain ⟨m, r1, h1, hx, hq⟩ := bx_ok (sc := sc) n d y nx ls st' h' r g e D hD
                exact ⟨m + 1, r1, h1, ⟨op, nx, a, b, os, ho, Or.inr (Or.inr (Or.inr (Or.inl ⟨by omega, q4, h', st', hp, hx⟩)))⟩, hq⟩
            · rw [if_neg q4] at e
              by_cases q5 : op < 70
              · rw [if_pos q5] at e
                cases hp : popA op b st with
                | none => rw [hp] at e; cases e
                | some w =>
                  obtain ⟨as, st'⟩ := w
                  rw [hp] at e
                  dsimp only at e
                  by_cases hc : bxr op (mK a.toNat) h as = true ∧ (argL as).length ≤ mL a.toNat
                  · rw [if_pos hc] at e
                    match d, hD, e with
                    | d + 1, hD, e =>
                      dsimp only at e
                      cases hr : bx n d a.toNat 0 (initL as (mL a.toNat)) [] h with
                      | none => rw [hr] at e; cases e
                      | some w =>
                        obtain ⟨r1, h1⟩ := w
                        rw [hr] at e
                        obtain ⟨D', rfl⟩ : ∃ D', D = D' + 1 := ⟨D - 1, by omega⟩
                        obtain ⟨m1, r2, h2, hx1, rfl, rfl⟩ := bx_ok (sc := sc) n d a.toNat 0 (initL as (mL a.toNat)) [] h r1 h1 hr D' (by omega)
                        obtain ⟨m, r3, h3, hx, hq⟩ := bx_ok (sc := sc) n (d + 1) y nx ls (pshR r2 st') h2 r g e (D' + 1) hD
                        exact ⟨m + 1, r3, h3, ⟨op, nx, a, b, os, ho, Or.inr (Or.inr (Or.inr (Or.inr (Or.inl ⟨by omega, q5, as, st', r2, h2, hp, bxr_ok hc.1, ⟨hc.2, m1, hx1⟩, hx⟩))))⟩, hq⟩
                  · rw [if_neg hc] at e; cases e
              · rw [if_neg q5] at e
                cases hp : retOf op a b st with
                | none => rw [hp] at e; cases e
                | some r1 =>
                  rw [hp] at e
                  cases e
                  exact ⟨1, r, h, ⟨op, nx, a, b, os, ho, Or.inr (Or.inr (Or.inr (Or.inr (Or.inr ⟨by omega, hp, rfl⟩))))⟩, rfl, rfl⟩
