/-! the symbolic run is sound -/
/-- behind a return: the frames below go on to the law's end -/
def zyQ (L : Nat) (σ : Int → Int) : List ZFr → Nat → Option Vl → Hp → Prop
  | [], _, r, h => r = some (0, 1) ∧ h.length ≤ 600000 ∧ sz h ≤ 7302250
  | f :: fs, d, r, h => ∃ (n : Nat) (r' : Option Vl) (h' : Hp), Ex cdT mK (zySc σ L) stxt (Runs cdT mK (zySc σ L) stxt mL (d + 1)) f.1 n f.2.2.1 (f.2.2.2.1.map (zyV σ)) (pshR r (f.2.2.2.2.map (zyV σ))) h r' h' ∧ zyQ L σ fs (d + 1) r' h'
def zyG (T : List ZTm) (L : Nat) (H : List ZCe) (I : ZIv) (d y pc : Nat) (ls st : List Vl) (fs : List ZFr) : Prop :=
  ∀ σ : Int → Int, zyH T σ → zyO σ I → ∃ (n : Nat) (r : Option Vl) (h : Hp), Ex cdT mK (zySc σ L) stxt (Runs cdT mK (zySc σ L) stxt mL d) y n pc (ls.map (zyV σ)) (st.map (zyV σ)) (H.map (zyD σ)) r h ∧ zyQ L σ fs d r h
def zyW (y : Nat) (c : ZCo) (fs : List ZFr) : Prop := c = kcs.getD y [] ∧ ∀ f ∈ fs, f.2.1 = kcs.getD f.1 []
def zyOK (T : List ZTm) (L : Nat) (k : ZKt) : Prop := ∀ H I d y c pc ls st fs, zyW y c fs → k H I d y c pc ls st fs = true → zyG T L H I d y pc ls st fs
theorem zyaL (σ : Int → Int) (h0 : σ 0 = 0) : ∀ as : List Vl, argL (as.map (zyV σ)) = (argL as).map (zyV σ)
  | [] => rfl
  | v :: t => by
    have e9 : ((9, 0) : Vl) = zyV σ (9, 0) := by rw [zyV_mk, h0]
    show (if v.1 = 1 then zyV σ v :: (9, 0) :: argL (t.map (zyV σ)) else zyV σ v :: argL (t.map (zyV σ))) = (if v.1 = 1 then v :: (9, 0) :: argL t else v :: argL t).map (zyV σ)
    rw [zyaL σ h0 t]
    split
    · rw [List.map_cons, List.map_cons, ← e9]
    · rw [List.map_cons]
theorem zyiL (σ : Int → Int) (h0 : σ 0 = 0) (as : List Vl) (n : Nat) : initL (as.map (zyV σ)) n = (initL as n).map (zyV σ) := by
  unfold initL
  rw [zyaL σ h0, List.map_append, List.map_replicate, List.length_map, zyV_mk, h0]
theorem zypop {σ : Int → Int} {op : Nat} {b : Int} {st : List Vl} {x : List Vl × List Vl} (h : popA op b st = some x) : popA op b (st.map (zyV σ)) = some (x.1.map (zyV σ), x.2.map (zyV σ)) := by
  unfold popA at h ⊢
  dsimp only at h ⊢
  generalize b.toNat + (if op = 61 then 0 else 1) = n at h ⊢
  rw [List.length_map, ← List.map_drop, zywd, ← List.map_take, ← List.map_reverse]
  by_cases hc : n ≤ st.length ∧ wds (st.drop n) ≤ 8
  · rw [if_pos hc] at h ⊢
    have := Option.some.inj h
    subst this
    rfl
  · rw [if_neg hc] at h
    cases h
theorem zyps (σ : Int → Int) (r : Option Vl) (st : List Vl) : (pshR r st).map (zyV σ) = pshR (r.map (zyV σ)) (st.map (zyV σ)) := by cases r <;> rfl
theorem zyRo_ok {T : List ZTm} {σ : Int → Int} (hH : zyH T σ) {op : Nat} {a b : Int} {st : List Vl} {r : Option Vl} (h : zyRo op a b st = some r) : 70 ≤ op ∧ retOf op a b (st.map (zyV σ)) = some (r.map (zyV σ)) := by
  unfold zyRo at h
  replace h := zybc h
  rcases h with ⟨q, h⟩ | ⟨q, h⟩
  · have q := Nat.beq_eq.mp q
    subst q
    refine ⟨by decide, ?_⟩
    match st, h with
    | [v], h =>
      replace h := zybs h
      obtain ⟨hb, h⟩ := h
      have := Option.some.inj h
      subst this
      simp only [Bool.and_eq_true, Bool.or_eq_true, Nat.beq_eq, zyeq_iff] at hb
      obtain ⟨v1, v2⟩ := v
      obtain ⟨hb1, hb2⟩ := hb
      dsimp only at hb1 hb2
      show (if v1 = b.toNat ∧ (a = 1 → σ v2 = 0 ∨ σ v2 = 1) ∧ (a = 2 → 0 ≤ σ v2 ∧ σ v2 ≤ 65535) ∧ (a = 3 → -128 ≤ σ v2 ∧ σ v2 ≤ 127) then some (some (zyV σ (v1, v2))) else none) = some (some (zyV σ (v1, v2)))
      rw [if_pos]
      refine ⟨hb1, fun ha => ?_, fun ha => by omega, fun ha => by omega⟩
      rcases hb2 with hb2 | ⟨-, hb2⟩
      · omega
      · rw [hH.1 v2 (zyC_lt (by omega))]
        exact hb2
    | [], h => cases h
    | _ :: _ :: _, h => cases h
  · replace h := zybs h
    obtain ⟨q, h⟩ := h
    have q := Nat.beq_eq.mp q
    subst q
    refine ⟨by decide, ?_⟩
    match st, h with
    | [], h =>
      have := Option.some.inj h
      subst this
      rfl
    | _ :: _, h => cases h
theorem zySz_ok (σ : Int → Int) (H : List ZCe) : sz (H.map (zyD σ)) = zySz H := by
  unfold sz zySz
  rw [List.map_map]
  congr 1
  apply List.map_congr_left
  intro e _
  exact zyD_len σ e
theorem zySt_ok {T : List ZTm} {L : Nat} {stp k : ZKt} (hs : zyOK T L stp) (hk : zyOK T L k) : zyOK T L (zySt T L stp k) := by
  intro H I d y c pc ls st fs hW h
  obtain ⟨hc, hfs⟩ := hW
  unfold zySt at h
  cases ho : zyL pc c with
  | none => rw [ho] at h; cases h
  | some o =>
  rw [ho] at h
  dsimp only at h
  obtain ⟨op, nx, a, b, os⟩ := o
  dsimp only at h
  have hcd : cdT y pc = some (op, nx, a, b, os) := by
    unfold cdT
    rw [← hc, ← zyL_lookup, ho]
  replace h := zybc h
  rcases h with ⟨q, h⟩ | ⟨q, h⟩
  · rw [Nat.ble_eq] at q
    replace h := zybc h
    rcases h with ⟨q2, h⟩ | ⟨q2, h⟩
    · rw [Nat.ble_eq] at q2
      unfold zyCl at h
      cases d with
      | zero => cases h
      | succ d =>
      dsimp only at h
      cases hp : popA op b st with
      | none => rw [hp] at h; cases h
      | some x =>
      rw [hp] at h
      dsimp only at h
      replace h := zybc h
      rcases h with ⟨q3, h⟩ | ⟨q3, h⟩
      · rw [Bool.and_eq_true, Bool.or_eq_true, Nat.ble_eq, Nat.beq_eq] at q3
        obtain ⟨q3, q4⟩ := q3
        have hW2 : zyW a.toNat (kcs.getD a.toNat []) ((y, c, nx, ls, x.2) :: fs) := ⟨rfl, fun f hf => by
          rcases List.mem_cons.mp hf with rfl | hf
          · exact hc
          · exact hfs f hf⟩
        have hG := hk _ _ _ _ _ _ _ _ _ hW2 h
        intro σ hH hO
        obtain ⟨n, r1, h1, hE, n2, r2, h2, hE2, hQ⟩ := hG σ hH hO
        refine ⟨n2 + 1, r2, h2, ⟨op, nx, a, b, os, hcd, Or.inr (Or.inr (Or.inr (Or.inr (Or.inl ⟨q, by omega, x.1.map (zyV σ), x.2.map (zyV σ), r1, h1, zypop hp, ?_, ?_, hE2⟩))))⟩, hQ⟩
        · rcases q3 with q3 | q3
          · exact Or.inl q3
          · right
            match hx : x.1, q3 with
            | v :: t, q3 =>
              rw [Bool.and_eq_true, Nat.beq_eq] at q3
              obtain ⟨v1, v2⟩ := v
              obtain ⟨q5, q6⟩ := q3
              dsimp only at q5 q6
              subst q5
              cases he : zyce H v2 with
              | none => rw [he] at q6; cases q6
              | some e =>
              rw [he] at q6
              dsimp only at q6
              rw [Nat.beq_eq] at q6
              obtain ⟨e1, e2⟩ := zyce_cel hH he
              refine ⟨v2, (zyD σ e).2, t.map (zyV σ), ?_, ?_⟩
              · rw [List.map_cons, zyV_mk, e1]
              · rw [e2, q6]
            | [], q3 => cases q3
        · show (argL (x.1.map (zyV σ))).length ≤ mL a.toNat ∧ ∃ n, Ex cdT mK (zySc σ L) stxt (Runs cdT mK (zySc σ L) stxt mL d) a.toNat n 0 (initL (x.1.map (zyV σ)) (mL a.toNat)) [] (H.map (zyD σ)) r1 h1
          rw [zyaL σ (zy0 hH), List.length_map, zyiL σ (zy0 hH)]
          exact ⟨q4, n, hE⟩
      · cases h
    · unfold zyRt at h
      cases hr : zyRo op a b st with
      | none => rw [hr] at h; cases h
      | some r =>
      rw [hr] at h
      dsimp only at h
      intro σ hH hO
      obtain ⟨r1, r2⟩ := zyRo_ok hH hr
      refine ⟨1, r.map (zyV σ), H.map (zyD σ), ⟨op, nx, a, b, os, hcd, Or.inr (Or.inr (Or.inr (Or.inr (Or.inr ⟨r1, r2, rfl⟩))))⟩, ?_⟩
      cases fs with
      | nil =>
        dsimp only at h
        cases r with
        | none => cases h
        | some v =>
        dsimp only at h
        rw [Bool.and_eq_true, Bool.and_eq_true, Bool.and_eq_true, Nat.beq_eq, zyeq_iff, Nat.ble_eq, Nat.ble_eq] at h
        obtain ⟨⟨h1, h2⟩, h3, h4⟩ := h
        obtain ⟨v1, v2⟩ := v
        dsimp only at h1 h2
        subst h1 h2
        refine ⟨?_, by rw [List.length_map]; exact h3, by rw [zySz_ok]; exact h4⟩
        show some (zyV σ (0, 1)) = _
        rw [zyV_mk, hH.1 1 (by decide)]
      | cons f fs =>
        dsimp only at h
        have hW2 : zyW f.1 f.2.1 fs := ⟨hfs f (List.mem_cons_self ..), fun g hg => hfs g (List.mem_cons_of_mem _ hg)⟩
        have hG : zyG T L H I (d + 1) f.1 f.2.2.1 f.2.2.2.1 (pshR r f.2.2.2.2) fs := by
          rcases Bool.or_eq_true _ _ ▸ h with h | h
          · exact hs _ _ _ _ _ _ _ _ _ hW2 h
          · exact hk _ _ _ _ _ _ _ _ _ hW2 h
        obtain ⟨n2, rr, hh, hE, hQ⟩ := hG σ hH hO
        rw [zyps] at hE
        exact ⟨n2, rr, hh, hE, hQ⟩
  · replace h := zybc h
    rcases h with ⟨q2, h⟩ | ⟨q2, h⟩
    · cases hw : zyWr T op a b H st with
      | none => rw [hw] at h; cases h
      | some x =>
      rw [hw] at h
      dsimp only at h
      have hG := hk _ _ _ _ _ _ _ _ _ ⟨hc, hfs⟩ h
      intro σ hH hO
      obtain ⟨w1, w2, w3⟩ := zyWr_ok hH hw
      obtain ⟨n, rr, hh, hE, hQ⟩ := hG σ hH hO
      exact ⟨n + 1, rr, hh, ⟨op, nx, a, b, os, hcd, Or.inr (Or.inr (Or.inr (Or.inl ⟨w1, w2, _, _, w3, hE⟩)))⟩, hQ⟩
    replace h := zybc h
    rcases h with ⟨q3, h⟩ | ⟨q3, h⟩
    · cases hw : zyRd L op a b H st with
      | none => rw [hw] at h; cases h
      | some x =>
      rw [hw] at h
      dsimp only at h
      have hG := hk _ _ _ _ _ _ _ _ _ ⟨hc, hfs⟩ h
      intro σ hH hO
      obtain ⟨w1, w2, w3⟩ := zyRd_ok hH hw
      obtain ⟨n, rr, hh, hE, hQ⟩ := hG σ hH hO
      exact ⟨n + 1, rr, hh, ⟨op, nx, a, b, os, hcd, Or.inr (Or.inr (Or.inl ⟨w1, w2, _, w3, hE⟩))⟩, hQ⟩
    replace h := zybc h
    rcases h with ⟨q4, h⟩ | ⟨q4, h⟩
    · cases hw : zyBr op nx a b os I st with
      | none => rw [hw] at h; cases h
      | some l =>
      rw [hw] at h
      dsimp only at h
      rw [List.all_eq_true] at h
      intro σ hH hO
      obtain ⟨e, he, hO1, w⟩ := zyBr_ok hH hO hw
      have hG := hk _ _ _ _ _ _ _ _ _ ⟨hc, hfs⟩ (h e he)
      obtain ⟨n, rr, hh, hE, hQ⟩ := hG σ hH hO1
      rcases w with ⟨w1, w2, w3⟩ | ⟨w1, w2, w3⟩
      · exact ⟨n + 1, rr, hh, ⟨op, nx, a, b, os, hcd, Or.inr (Or.inl ⟨w1, w2, _, _, w3, hE⟩)⟩, hQ⟩
      · rw [w2] at hE
        exact ⟨n + 1, rr, hh, ⟨op, nx, a, b, os, hcd, Or.inl ⟨w1, _, _, w3 _, hE⟩⟩, hQ⟩
    · cases hw : zyP T op a b ls st with
      | none => rw [hw] at h; cases h
      | some x =>
      rw [hw] at h
      dsimp only at h
      have hG := hk _ _ _ _ _ _ _ _ _ ⟨hc, hfs⟩ h
      intro σ hH hO
      obtain ⟨w1, w2⟩ := zyP_ok hH hw
      obtain ⟨n, rr, hh, hE, hQ⟩ := hG σ hH hO
      exact ⟨n + 1, rr, hh, ⟨op, nx, a, b, os, hcd, Or.inl ⟨w1, _, _, w2, hE⟩⟩, hQ⟩
theorem zyX_ok {T : List ZTm} {L : Nat} {stp : ZKt} (hs : zyOK T L stp) : ∀ n, zyOK T L (zyX T L stp n)
  | 0 => fun _ _ _ _ _ _ _ _ _ _ h => by cases h
  | n + 1 => zySt_ok hs (zyX_ok hs n)
