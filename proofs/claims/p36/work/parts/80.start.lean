/-! joined: 80.start 81.heap 82.heapck 83.mlaw -/
section
/-! the start: both constructors run by the kernel -/
def bxr (op k : Nat) (h : Hp) (as : List Vl) : Bool := Nat.beq op 61 || (match as with
  | (2, r) :: _ => (match cel h r with
    | some (k', _) => Nat.beq k' k
    | none => false)
  | _ => false)
def bxo (st : List Vl) : Bool := st.all (fun v => !(Nat.beq v.1 2 && decide (v.2 = -1)))
noncomputable def bxS (ih : Nat → Nat → Nat → List Vl → List Vl → Hp → Option (Option Vl × Hp)) (d y pc : Nat) (ls st : List Vl) (h : Hp) : Option (Option Vl × Hp) :=
  match cdT y pc with
  | none => none
  | some (op, nx, a, b, os) =>
    if op < 20 then (match pst op a b ls st with
      | some (ls', st') => ih d y nx ls' st' h
      | none => none)
    else if op < 30 then (match bst op nx a b os st with
      | some (p, st') => ih d y p ls st' h
      | none => none)
    else if op < 40 then (if bxo st = true then (match rst [] stxt op a b h st with
      | some st' => ih d y nx ls st' h
      | none => none) else none)
    else if op < 60 then (match wst op a b h st with
      | some (h', st') => ih d y nx ls st' h'
      | none => none)
    else if op < 70 then (match popA op b st with
      | some (as, st') => if bxr op (mK a.toNat) h as = true ∧ (argL as).length ≤ mL a.toNat then (match d with
        | 0 => none
        | d + 1 => (match ih d a.toNat 0 (initL as (mL a.toNat)) [] h with
          | some (r1, h1) => ih (d + 1) y nx ls (pshR r1 st') h1
          | none => none)) else none
      | none => none)
    else (match retOf op a b st with
      | some r => some (r, h)
      | none => none)
noncomputable def bx (n : Nat) : Nat → Nat → Nat → List Vl → List Vl → Hp → Option (Option Vl × Hp) := Nat.rec (fun _ _ _ _ _ _ => none) (fun _ ih => bxS ih) n
theorem bxo_ne {r : Int} {rest : List Vl} (hb : bxo ((2, r) :: rest) = true) : r ≠ -1 := by
  unfold bxo at hb
  rw [List.all_cons, Bool.and_eq_true] at hb
  intro hz
  subst hz
  exact absurd hb.1 (by decide)
theorem bxo_tl {v : Vl} {rest : List Vl} (hb : bxo (v :: rest) = true) : bxo rest = true := by
  unfold bxo at hb ⊢
  rw [List.all_cons, Bool.and_eq_true] at hb
  exact hb.2
theorem rst_sc {sc : List Int} {op : Nat} {a b : Int} {h : Hp} {st st' : List Vl} (hb : bxo st = true) (e : rst [] stxt op a b h st = some st') : rst sc stxt op a b h st = some st' := by
  unfold rst at e ⊢
  by_cases q : op = 30
  · rw [if_pos q] at e ⊢; exact e
  · rw [if_neg q] at e ⊢
    by_cases q1 : op = 31
    · rw [if_pos q1] at e ⊢
      split at e
      · have hr := bxo_ne hb
        rw [if_neg hr] at e ⊢
        exact e
      · cases e
    · rw [if_neg q1] at e ⊢
      by_cases q2 : op = 32
      · rw [if_pos q2] at e ⊢
        split at e
        · rename_i i r rest
          have hr := bxo_ne (bxo_tl hb)
          by_cases hi : i < 0
          · rw [if_pos hi] at e; cases e
          · rw [if_neg hi, if_neg hr] at e ⊢
            exact e
        · cases e
      · rw [if_neg q2] at e ⊢
        exact e
theorem bxr_ok {op k : Nat} {h : Hp} {as : List Vl} (e : bxr op k h as = true) : rcv op k h as := by
  unfold bxr at e
  rw [Bool.or_eq_true] at e
  rcases e with e | e
  · exact Or.inl (Nat.eq_of_beq_eq_true e)
  · split at e
    · rename_i r t
      cases hc : cel h r with
      | none => rw [hc] at e; cases e
      | some w =>
        obtain ⟨k', l⟩ := w
        rw [hc] at e
        exact Or.inr (Or.inl ⟨r, l, t, rfl, by rw [hc, Nat.eq_of_beq_eq_true e]⟩)
    · cases e
theorem bx_ok {sc : List Int} : ∀ (n d y pc : Nat) (ls st : List Vl) (h : Hp) (r : Option Vl) (g : Hp), bx n d y pc ls st h = some (r, g) → ∀ D, d ≤ D → zwW sc D y pc ls st h (fun r' g' => r' = r ∧ g' = g)
  | 0, _, _, _, _, _, _, _, _, e, _, _ => by cases e
  | n + 1, d, y, pc, ls, st, h, r, g, e, D, hD => by
    have e : bxS (bx n) d y pc ls st h = some (r, g) := e
    unfold bxS at e
    cases ho : cdT y pc with
    | none => rw [ho] at e; cases e
    | some w =>
      obtain ⟨op, nx, a, b, os⟩ := w
      rw [ho] at e
      dsimp only at e
      by_cases q1 : op < 20
      · rw [if_pos q1] at e
        cases hp : pst op a b ls st with
        | none => rw [hp] at e; cases e
        | some w =>
          obtain ⟨ls', st'⟩ := w
          rw [hp] at e
          obtain ⟨m, r1, h1, hx, hq⟩ := bx_ok (sc := sc) n d y nx ls' st' h r g e D hD
          exact ⟨m + 1, r1, h1, ⟨op, nx, a, b, os, ho, Or.inl ⟨q1, ls', st', hp, hx⟩⟩, hq⟩
      · rw [if_neg q1] at e
        by_cases q2 : op < 30
        · rw [if_pos q2] at e
          cases hp : bst op nx a b os st with
          | none => rw [hp] at e; cases e
          | some w =>
            obtain ⟨p, st'⟩ := w
            rw [hp] at e
            obtain ⟨m, r1, h1, hx, hq⟩ := bx_ok (sc := sc) n d y p ls st' h r g e D hD
            exact ⟨m + 1, r1, h1, ⟨op, nx, a, b, os, ho, Or.inr (Or.inl ⟨by omega, q2, p, st', hp, hx⟩)⟩, hq⟩
        · rw [if_neg q2] at e
          by_cases q3 : op < 40
          · rw [if_pos q3] at e
            by_cases hb : bxo st = true
            · rw [if_pos hb] at e
              cases hp : rst [] stxt op a b h st with
              | none => rw [hp] at e; cases e
              | some st' =>
                rw [hp] at e
                obtain ⟨m, r1, h1, hx, hq⟩ := bx_ok (sc := sc) n d y nx ls st' h r g e D hD
                exact ⟨m + 1, r1, h1, ⟨op, nx, a, b, os, ho, Or.inr (Or.inr (Or.inl ⟨by omega, q3, st', rst_sc hb hp, hx⟩))⟩, hq⟩
            · rw [if_neg hb] at e; cases e
          · rw [if_neg q3] at e
            by_cases q4 : op < 60
            · rw [if_pos q4] at e
              cases hp : wst op a b h st with
              | none => rw [hp] at e; cases e
              | some w =>
                obtain ⟨h', st'⟩ := w
                rw [hp] at e
                obtain ⟨m, r1, h1, hx, hq⟩ := bx_ok (sc := sc) n d y nx ls st' h' r g e D hD
                exact ⟨m + 1, r1, h1, ⟨op, nx, a, b, os, ho, Or.inr (Or.inr (Or.inr (Or.inl ⟨by omega, q4, h', st', hp, hx⟩)))⟩, hq⟩
            · rw [if_neg q4] at e
              by_cases q5 : op < 70
              · rw [if_pos q5] at e
                cases hp : popA op b st with
                | none => rw [hp] at e; cases e
                | some w =>
                  obtain ⟨as, st'⟩ := w
                  rw [hp] at e
                  dsimp only at e
                  by_cases hc : bxr op (mK a.toNat) h as = true ∧ (argL as).length ≤ mL a.toNat
                  · rw [if_pos hc] at e
                    match d, hD, e with
                    | d + 1, hD, e =>
                      dsimp only at e
                      cases hr : bx n d a.toNat 0 (initL as (mL a.toNat)) [] h with
                      | none => rw [hr] at e; cases e
                      | some w =>
                        obtain ⟨r1, h1⟩ := w
                        rw [hr] at e
                        obtain ⟨D', rfl⟩ : ∃ D', D = D' + 1 := ⟨D - 1, by omega⟩
                        obtain ⟨m1, r2, h2, hx1, rfl, rfl⟩ := bx_ok (sc := sc) n d a.toNat 0 (initL as (mL a.toNat)) [] h r1 h1 hr D' (by omega)
                        obtain ⟨m, r3, h3, hx, hq⟩ := bx_ok (sc := sc) n (d + 1) y nx ls (pshR r2 st') h2 r g e (D' + 1) hD
                        exact ⟨m + 1, r3, h3, ⟨op, nx, a, b, os, ho, Or.inr (Or.inr (Or.inr (Or.inr (Or.inl ⟨by omega, q5, as, st', r2, h2, hp, bxr_ok hc.1, ⟨hc.2, m1, hx1⟩, hx⟩))))⟩, hq⟩
                  · rw [if_neg hc] at e; cases e
              · rw [if_neg q5] at e
                cases hp : retOf op a b st with
                | none => rw [hp] at e; cases e
                | some r1 =>
                  rw [hp] at e
                  cases e
                  exact ⟨1, r, h, ⟨op, nx, a, b, os, ho, Or.inr (Or.inr (Or.inr (Or.inr (Or.inr ⟨by omega, hp, rfl⟩))))⟩, rfl, rfl⟩
end
section
/-! the heap behind both constructors -/
noncomputable def zbK (chk : Hp → Bool) : Bool := match bx 1500 9 1 0 [(2, 1)] [] [(12, List.replicate 13 0)] with
  | some (none, h1) => (match bx 1500 9 2 0 [(2, ((h1.length + 1 : Nat) : Int))] [] (h1 ++ [(13, List.replicate 97 0)]) with
    | some (none, h2) => chk h2
    | _ => false)
  | _ => false
end
section
/-! what holds behind both constructors -/
def zkS (h : Hp) : Bool := zShL.all (fun e => (List.range (e.2.1 + 1 - e.1)).all (fun i => match cel h ((e.1 + i : Nat) : Int) with
  | some (k, l) => Nat.beq k e.2.2.1 && Nat.beq l.length e.2.2.2
  | none => false))
def zkB (h : Hp) : Bool := zBdL.all (fun e => (List.range (e.2.1 + 1 - e.1)).all (fun i => match cel h ((e.1 + i : Nat) : Int) with
  | some (_, l) => Nat.ble e.2.2.2.1 l.length && ((l.drop e.2.2.1).take (e.2.2.2.1 - e.2.2.1)).all (fun x => decide (e.2.2.2.2.1 ≤ x) && decide (x ≤ e.2.2.2.2.2))
  | none => false))
def zkR (h : Hp) : Bool := zRwL.all (fun e => (List.range e.2.1).all (fun j => decide (fld h (e.1 : Int) j = (e.2.2.1 : Int) + (e.2.2.2 : Int) * (j : Int))))
def zkO (h : Hp) : Bool := (Nat.beq h.length 365 && Nat.ble (sz h) 3000000) && ((zLis.all (fun A => decide (fld h (A : Int) 2 = 0) && decide (fld h (A : Int) 1 = -2)) && (List.range 12).all (fun i => decide (fld h 15 i = 0))) && ((decide (fld h 37 1 = 0) && decide (fld h 37 2 = 0)) && ((decide (fld h 37 52 = 0) && decide (fld h 37 53 = 0)) && zkE h)))
def zkA (h : Hp) : Bool := zkS h && (zkB h && (zkR h && zkO h))
theorem zkS_ok {h : Hp} (e : zkS h = true) : zSh h := by
  intro q hq r k1 k2
  have w := List.all_eq_true.mp (List.all_eq_true.mp e q hq) (r - q.1).toNat (List.mem_range.mpr (by omega))
  rw [show ((q.1 + (r - q.1).toNat : Nat) : Int) = r by omega] at w
  cases hc : cel h r with
  | none => rw [hc] at w; cases w
  | some z =>
    obtain ⟨k, l⟩ := z
    rw [hc] at w
    dsimp only at w
    rw [Bool.and_eq_true] at w
    rw [sh_of hc, Nat.eq_of_beq_eq_true w.1, Nat.eq_of_beq_eq_true w.2]
theorem zkB_ok {h : Hp} (e : zkB h = true) : zBd h := by
  intro q hq r j k1 k2 k3 k4
  have w := List.all_eq_true.mp (List.all_eq_true.mp e q hq) (r - q.1).toNat (List.mem_range.mpr (by omega))
  rw [show ((q.1 + (r - q.1).toNat : Nat) : Int) = r by omega] at w
  cases hc : cel h r with
  | none => rw [hc] at w; cases w
  | some z =>
    obtain ⟨k, l⟩ := z
    rw [hc] at w
    dsimp only at w
    rw [Bool.and_eq_true] at w
    have hl := Nat.le_of_ble_eq_true w.1
    have hj : j < l.length := by omega
    have m : l[j] ∈ (l.drop q.2.2.1).take (q.2.2.2.1 - q.2.2.1) := by
      rw [List.mem_iff_getElem]
      refine ⟨j - q.2.2.1, by rw [List.length_take, List.length_drop]; omega, ?_⟩
      rw [List.getElem_take, List.getElem_drop]
      congr 1
      omega
    have b := List.all_eq_true.mp w.2 _ m
    rw [Bool.and_eq_true, decide_eq_true_eq, decide_eq_true_eq] at b
    rw [fld_of hc, List.getD_eq_getElem?_getD, List.getElem?_eq_getElem hj]
    exact b
theorem zkR_ok {h : Hp} (e : zkR h = true) : zRw h := by
  intro q hq j k1
  exact of_decide_eq_true (List.all_eq_true.mp (List.all_eq_true.mp e q hq) j (List.mem_range.mpr k1))
theorem zkA_ok {h : Hp} (e : zkA h = true) : CI h ∧ zAM h ∧ zCW h ∧ zE h ∧ (h.length : Int) - (2 * fld h 4 2 + fld h 21 2) ≤ 400 ∧ (sz h : Int) - (1007 * fld h 4 2 + 1000 * fld h 21 2) ≤ 3000000 := by
  unfold zkA at e
  simp only [Bool.and_eq_true] at e
  obtain ⟨e1, e2, e3, e4⟩ := e
  unfold zkO at e4
  simp only [Bool.and_eq_true, decide_eq_true_eq, List.all_eq_true] at e4
  obtain ⟨⟨l1, l2⟩, ⟨q1, q2⟩, ⟨m1, m2⟩, ⟨m3, m4⟩, m5⟩ := e4
  have l1 := Nat.eq_of_beq_eq_true l1
  have l2 := Nat.le_of_ble_eq_true l2
  have f2 : fld h 2 2 = 0 := (q1 2 (by decide)).1
  have f4 : fld h 4 2 = 0 := (q1 4 (by decide)).1
  have f21 : fld h 21 2 = 0 := (q1 21 (by decide)).1
  refine ⟨⟨⟨zkS_ok e1, zkB_ok e2, zkR_ok e3⟩, fun r k n j k1 k2 k3 => ?_, fun A hA => Or.inl (q1 A hA), fun A hA B hB hne ha => ?_, fun i hi => Or.inl (q2 i (List.mem_range.mpr hi))⟩, fun j hj => by omega, ⟨fun s c hs => by omega, fun k hk => by omega⟩, zkE_ok m5, by omega, by omega⟩
  · have := (sh_pos k2).2
    omega
  · have := (q1 A hA).2
    omega
set_option maxRecDepth 100000 in
theorem zbK_A : zbK zkA = true := by decide +kernel
end
section
/-! the law answers 1 for every script -/
noncomputable def zbG : Bool := match bx 1500 9 1 0 [(2, 1)] [] [(12, List.replicate 13 0)] with
  | some (_, h1) => Nat.beq h1.length 36
  | none => false
set_option maxRecDepth 100000 in
theorem zbK_g : zbG = true := by decide +kernel
theorem zwW_upD {sc : List Int} {D D' y pc : Nat} {ls st : List Vl} {h : Hp} {Q : Option Vl → Hp → Prop} (hD : D' ≤ D) (W : zwW sc D' y pc ls st h Q) : zwW sc D y pc ls st h Q := by
  obtain ⟨n, r, h', hx, hq⟩ := W
  refine ⟨n, r, h', zw_mono (fun y as hp r h hx => ?_) _ _ _ _ _ _ _ hx, hq⟩
  have := zw_up hx (D - D')
  rwa [show D' + (D - D') = D by omega] at this
theorem zlaw0 {sc : List Int} (hl : sc.length ≤ 3072) (hin : ∀ x ∈ sc, in32 x) : zwW sc 400 0 0 [(2, -1), (9, 0), (9, 0), (9, 0)] [] [] (zwRt 0 (fun x g => x = 1 ∧ g.length ≤ 600000 ∧ sz g ≤ 7302250)) := by
  have e := zbK_A
  unfold zbK at e
  split at e
  · rename_i h1 k1
    split at e
    · rename_i h2 k2
      obtain ⟨C, A, W, E, g1, g2⟩ := zkA_ok e
      refine zwW_new (kd := 12) (n := 13) (nx := 3) (by decide +kernel) rfl rfl ?_
      rintro _ _ rfl rfl
      refine zwW_p [(12, 0, 0)] (q := 4) (ls' := [(2, -1), (9, 0), (9, 0), (9, 0)]) (st' := [(2, 1), (2, 1)]) (by decide +kernel) rfl ?_
      obtain ⟨a1, a2, a3⟩ := zkCall_of (y := 0) (pc := 4) (nx := 7) (op := 62) (k := 1) (n := 0) (by decide +kernel)
      refine zwW_c1 (as := [(2, 1)]) (st' := [(2, 1)]) a1 a2 a3 rfl ?_ (zwC_of (D := 9) 1 (by decide +kernel) rfl (ls := [(2, 1)]) rfl (bx_ok 1500 9 1 0 [(2, 1)] [] _ _ _ k1 9 (Nat.le_refl _))) (by decide) ?_
      · rw [show mK 1 = 12 by decide +kernel]
        exact rcv_sh (n := 13) rfl
      rintro r g ⟨rfl, rfl⟩
      refine zwW_p [(2, 1, 2)] (q := 8) (ls' := [(2, -1), (2, 1), (9, 0), (9, 0)]) (st' := []) (by decide +kernel) rfl ?_
      refine zwW_new (kd := 13) (n := 97) (nx := 11) (by decide +kernel) rfl rfl ?_
      rintro _ _ rfl rfl
      refine zwW_p [(12, 0, 0)] (q := 12) (ls' := [(2, -1), (2, 1), (9, 0), (9, 0)]) (st' := [(2, ((g.length + 1 : Nat) : Int)), (2, ((g.length + 1 : Nat) : Int))]) (by decide +kernel) rfl ?_
      obtain ⟨b1, b2, b3⟩ := zkCall_of (y := 0) (pc := 12) (nx := 15) (op := 62) (k := 2) (n := 0) (by decide +kernel)
      refine zwW_c1 (as := [(2, ((g.length + 1 : Nat) : Int))]) (st' := [(2, ((g.length + 1 : Nat) : Int))]) b1 b2 b3 rfl ?_ (zwC_of (D := 9) 1 (by decide +kernel) rfl (ls := [(2, ((g.length + 1 : Nat) : Int))]) rfl (bx_ok 1500 9 2 0 _ [] _ _ _ k2 9 (Nat.le_refl _))) (by decide) ?_
      · rw [show mK 2 = 13 by decide +kernel]
        exact rcv_sh (sh_new _ _)
      rintro r h ⟨rfl, rfl⟩
      have hg : ((g.length + 1 : Nat) : Int) = 37 := by
        have := zbK_g
        unfold zbG at this
        rw [k1] at this
        have := Nat.eq_of_beq_eq_true this
        omega
      rw [hg]
      refine zwW_p [(2, 2, 2), (0, 0, 0), (2, 3, 0)] (q := 18) (ls' := [(2, -1), (2, 1), (2, 37), (0, 0)]) (st' := []) (by decide +kernel) rfl ?_
      exact zl_loop hl hin _ 0 h rfl (by decide) (by omega) C A W E (by omega) (by omega)
    · cases e
  · cases e
theorem MLaw_ok : MLaw := by
  intro sc hl hin
  obtain ⟨n, r, h, hx, x, rfl, rfl, h1, h2⟩ := zwW_upD (D := 1000) (by decide) (zlaw0 hl hin)
  exact ⟨n, h, hx, h1, h2⟩
end
