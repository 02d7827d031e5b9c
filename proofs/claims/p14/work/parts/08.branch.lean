/-! where it goes on: the machine's step -/
def cq (k : Nat) : ClassFile.Cond := if k = 0 then .eq else if k = 1 then .ne else if k = 2 then .lt else if k = 3 then .ge else if k = 4 then .gt else .le
def tblO (pc : Int) : Int → List Int → List Int
  | _, [] => []
  | k, o :: r => k :: (pc + o) :: tblO pc (k + 1) r
def lkO (pc : Int) : List (Int × Int) → List Int
  | [] => []
  | (k, o) :: r => k :: (pc + o) :: lkO pc r
def dcW (cc : ByteArray) (pc : Nat) (a : Int) (os : List Int) : Bool := match decode cc pc with
  | .ok (.tableswitch d lo hi offs, _) => decide (a = pc + d) && decide (os = tblO pc lo offs.toList) && decide (hi = lo + offs.toList.length - 1) && (offs.toList.all (fun o => decide (0 ≤ pc + o)) && decide (0 ≤ a))
  | .ok (.lookupswitch d ps, _) => decide (a = pc + d) && decide (os = lkO pc ps.toList) && ((ps.toList.zip (ps.toList.drop 1)).all (fun (a, next) => a.1 < next.1)) && (ps.toList.all (fun q => decide (0 ≤ pc + q.2)) && decide (0 ≤ a))
  | _ => false
def dcB (cc : ByteArray) (pc op nx : Nat) (a b : Int) (os : List Int) : Bool :=
  if op = 20 then decide (0 ≤ a) && (nx == pc + 3 && dq cc pc (.ifCond (cq b.toNat) (a - pc)) 3)
  else if op = 21 then decide (0 ≤ a) && (nx == pc + 3 && dq cc pc (.if_icmp (cq b.toNat) (a - pc)) 3)
  else if op = 22 then decide (0 ≤ a) && (nx == pc + 3 && (if b = 0 then dq cc pc (.ifnull (a - pc)) 3 else b == 1 && dq cc pc (.ifnonnull (a - pc)) 3))
  else if op = 23 then decide (0 ≤ a) && (nx == pc + 3 && (if b = 0 then dq cc pc (.if_acmp .eq (a - pc)) 3 else b == 1 && dq cc pc (.if_acmp .ne (a - pc)) 3))
  else if op = 24 then decide (0 ≤ a) && dq cc pc (.goto (a - pc)) 3
  else if op = 25 then dcW cc pc a os
  else false
theorem swt_tbl (pc d x : Int) : ∀ (l : List Int) (k : Int), swt (pc + d) x (tblO pc k l) = (if x < k ∨ k + l.length - 1 < x then pc + d else pc + l.getD (x - k).toNat 0)
  | [], k => by
    have : x < k ∨ k + ([] : List Int).length - 1 < x := by simp; omega
    rw [if_pos this]
    rfl
  | o :: r, k => by
    show (if x = k then pc + o else swt (pc + d) x (tblO pc (k + 1) r)) = _
    by_cases h : x = k
    · subst h
      have : ¬ (x < x ∨ x + ((o :: r).length : Nat) - 1 < x) := by simp only [List.length_cons]; omega
      rw [if_pos rfl, if_neg this]
      simp
    · rw [if_neg h, swt_tbl pc d x r (k + 1)]
      by_cases h2 : x < k ∨ k + ((o :: r).length : Nat) - 1 < x
      · have h3 : x < k + 1 ∨ k + 1 + (r.length : Nat) - 1 < x := by simp only [List.length_cons] at h2; omega
        rw [if_pos h2, if_pos h3]
      · have h3 : ¬ (x < k + 1 ∨ k + 1 + (r.length : Nat) - 1 < x) := by simp only [List.length_cons] at h2; omega
        rw [if_neg h2, if_neg h3]
        have e : (x - k).toNat = (x - (k + 1)).toNat + 1 := by omega
        rw [e]
        rfl
theorem swt_lk (pc d x : Int) : ∀ (l : List (Int × Int)), swt (pc + d) x (lkO pc l) = pc + Op.lookupswitch.offset l d x
  | [] => rfl
  | (k, o) :: r => by
    show (if x = k then pc + o else swt (pc + d) x (lkO pc r)) = _
    rw [swt_lk pc d x r]
    show _ = pc + (if k = x then o else Op.lookupswitch.offset r d x)
    by_cases h : x = k
    · subst h
      rw [if_pos rfl, if_pos rfl]
    · rw [if_neg h, if_neg (fun z => h z.symm)]
section BR
variable {p : Program} {l : Launch} {e : Env} {R : Room} {s : State} {m : MethodId} {args : Array Value} {below : List Frame} {meth : Method} {c : Code} {H : Heap} {locs : List Loc} {cells slots : Nat} {Q : State → Prop}
variable {cc : ByteArray} {nL : Nat} {own : String} {base : Nat} {rf : Int → Option Nat} {st st' : List Vl} {arr : Array Slot} {n : Nat}
theorem if_row {k pc nx : Nat} {x : Int} {a : Int} {rest : List Value} (hx : p.tables.exec = Jvm.exec) (hb : c.code = cc) (hd : decode cc pc = .ok (.ifCond (cq k) (a - pc), 3)) (ha : 0 ≤ a) (hnx : nx = pc + 3) (hi : in32 x)
    (kk : W p l e R s m args below meth c H locs cells slots Q (F0 m (if cnd k x 0 then a.toNat else nx) arr rest)) : W p l e R s m args below meth c H locs cells slots Q (F0 m pc arr (.int (Int32.ofInt x) :: rest)) := by
  have ht : (pc : Int) + (a - pc) = (a.toNat : Int) := by omega
  have h0 : in32 0 := by unfold in32; omega
  have z0 : (0 : Int32) = Int32.ofInt 0 := rfl
  subst hnx
  unfold cnd at kk
  unfold cq at hd
  by_cases q0 : k = 0
  · rw [if_pos q0] at hd
    simp only [if_pos q0] at kk
    refine lv_if_eq hx hb hd ht (fun z => ?_) (fun z => ?_)
    · rw [z0, n_eq hi h0] at z
      simpa [z] using kk
    · rw [z0, n_eq hi h0] at z
      simpa [z] using kk
  rw [if_neg q0] at hd
  simp only [if_neg q0] at kk
  by_cases q1 : k = 1
  · rw [if_pos q1] at hd
    simp only [if_pos q1] at kk
    refine lv_if_ne hx hb hd ht (fun z => ?_) (fun z => ?_)
    · rw [z0, n_eq hi h0] at z
      simpa [z] using kk
    · rw [z0, n_eq hi h0] at z
      simpa [z] using kk
  rw [if_neg q1] at hd
  simp only [if_neg q1] at kk
  by_cases q2 : k = 2
  · rw [if_pos q2] at hd
    simp only [if_pos q2] at kk
    refine lv_if_lt hx hb hd ht (fun z => ?_) (fun z => ?_)
    · rw [z0, n_lt hi h0] at z
      simpa [z] using kk
    · rw [z0, n_lt hi h0] at z
      simpa [z] using kk
  rw [if_neg q2] at hd
  simp only [if_neg q2] at kk
  by_cases q3 : k = 3
  · rw [if_pos q3] at hd
    simp only [if_pos q3] at kk
    refine lv_if_ge hx hb hd ht (fun z => ?_) (fun z => ?_)
    · rw [z0, n_le h0 hi] at z
      simpa [z] using kk
    · rw [z0, n_le h0 hi] at z
      simpa [z] using kk
  rw [if_neg q3] at hd
  simp only [if_neg q3] at kk
  by_cases q4 : k = 4
  · rw [if_pos q4] at hd
    simp only [if_pos q4] at kk
    refine lv_if_gt hx hb hd ht (fun z => ?_) (fun z => ?_)
    · rw [z0, n_lt h0 hi] at z
      simpa [z] using kk
    · rw [z0, n_lt h0 hi] at z
      simpa [z] using kk
  rw [if_neg q4] at hd
  simp only [if_neg q4] at kk
  refine lv_if_le hx hb hd ht (fun z => ?_) (fun z => ?_)
  · rw [z0, n_le hi h0] at z
    simpa [z] using kk
  · rw [z0, n_le hi h0] at z
    simpa [z] using kk
theorem icmp_row {k pc nx : Nat} {x y : Int} {a : Int} {rest : List Value} (hx : p.tables.exec = Jvm.exec) (hb : c.code = cc) (hd : decode cc pc = .ok (.if_icmp (cq k) (a - pc), 3)) (ha : 0 ≤ a) (hnx : nx = pc + 3) (hi : in32 x) (h0 : in32 y)
    (kk : W p l e R s m args below meth c H locs cells slots Q (F0 m (if cnd k x y then a.toNat else nx) arr rest)) : W p l e R s m args below meth c H locs cells slots Q (F0 m pc arr (.int (Int32.ofInt y) :: .int (Int32.ofInt x) :: rest)) := by
  have ht : (pc : Int) + (a - pc) = (a.toNat : Int) := by omega
  subst hnx
  unfold cnd at kk
  unfold cq at hd
  by_cases q0 : k = 0
  · rw [if_pos q0] at hd
    simp only [if_pos q0] at kk
    refine lv_icmp_eq hx hb hd ht (fun z => ?_) (fun z => ?_)
    · rw [n_eq hi h0] at z
      simpa [z] using kk
    · rw [n_eq hi h0] at z
      simpa [z] using kk
  rw [if_neg q0] at hd
  simp only [if_neg q0] at kk
  by_cases q1 : k = 1
  · rw [if_pos q1] at hd
    simp only [if_pos q1] at kk
    refine lv_icmp_ne hx hb hd ht (fun z => ?_) (fun z => ?_)
    · rw [n_eq hi h0] at z
      simpa [z] using kk
    · rw [n_eq hi h0] at z
      simpa [z] using kk
  rw [if_neg q1] at hd
  simp only [if_neg q1] at kk
  by_cases q2 : k = 2
  · rw [if_pos q2] at hd
    simp only [if_pos q2] at kk
    refine lv_icmp_lt hx hb hd ht (fun z => ?_) (fun z => ?_)
    · rw [n_lt hi h0] at z
      simpa [z] using kk
    · rw [n_lt hi h0] at z
      simpa [z] using kk
  rw [if_neg q2] at hd
  simp only [if_neg q2] at kk
  by_cases q3 : k = 3
  · rw [if_pos q3] at hd
    simp only [if_pos q3] at kk
    refine lv_icmp_ge hx hb hd ht (fun z => ?_) (fun z => ?_)
    · rw [n_le h0 hi] at z
      simpa [z] using kk
    · rw [n_le h0 hi] at z
      simpa [z] using kk
  rw [if_neg q3] at hd
  simp only [if_neg q3] at kk
  by_cases q4 : k = 4
  · rw [if_pos q4] at hd
    simp only [if_pos q4] at kk
    refine lv_icmp_gt hx hb hd ht (fun z => ?_) (fun z => ?_)
    · rw [n_lt h0 hi] at z
      simpa [z] using kk
    · rw [n_lt h0 hi] at z
      simpa [z] using kk
  rw [if_neg q4] at hd
  simp only [if_neg q4] at kk
  refine lv_icmp_le hx hb hd ht (fun z => ?_) (fun z => ?_)
  · rw [n_le hi h0] at z
    simpa [z] using kk
  · rw [n_le hi h0] at z
    simpa [z] using kk
theorem swt_row {pc : Nat} {x a : Int} {os : List Int} {rest : List Value} (hx : p.tables.exec = Jvm.exec) (hb : c.code = cc) (hd : dcW cc pc a os = true) (hi : in32 x)
    (kk : W p l e R s m args below meth c H locs cells slots Q (F0 m (swt a x os).toNat arr rest)) : W p l e R s m args below meth c H locs cells slots Q (F0 m pc arr (.int (Int32.ofInt x) :: rest)) := by
  unfold dcW at hd
  split at hd
  · rename_i d lo hi2 offs len hdc
    simp only [Bool.and_eq_true, decide_eq_true_eq] at hd
    obtain ⟨⟨⟨rfl, rfl⟩, hhi⟩, hall, ha⟩ := hd
    rw [swt_tbl] at kk
    by_cases h : x < lo ∨ lo + (offs.toList.length : Nat) - 1 < x
    · rw [if_pos h] at kk
      exact lv_tableOut hx hb hdc (by rw [toI hi]; omega) (by omega) kk
    · rw [if_neg h] at kk
      have hlt : (x - lo).toNat < offs.toList.length := by omega
      have hget : offs.toList[(x - lo).toNat]? = some (offs.toList.getD (x - lo).toNat 0) := by
        rw [List.getD_eq_getElem?_getD, List.getElem?_eq_getElem hlt]
        rfl
      have hnn : 0 ≤ (pc : Int) + offs.toList.getD (x - lo).toNat 0 := of_decide_eq_true (List.all_eq_true.mp hall _ (List.mem_of_getElem? hget))
      exact lv_tableIn hx hb hdc (by rw [toI hi]; omega) (by rw [toI hi]; omega) (off := offs.toList.getD (x - lo).toNat 0) (by rw [toI hi, ← Array.getElem?_toList]; exact hget) (by omega) kk
  · rename_i d ps len hdc
    simp only [Bool.and_eq_true, decide_eq_true_eq] at hd
    obtain ⟨⟨⟨rfl, rfl⟩, hso⟩, hall, ha⟩ := hd
    rw [swt_lk] at kk
    have hnn : 0 ≤ (pc : Int) + Op.lookupswitch.offset ps.toList d x := by
      have key : ∀ l : List (Int × Int), l.all (fun q => decide (0 ≤ (pc : Int) + q.2)) = true → 0 ≤ (pc : Int) + Op.lookupswitch.offset l d x := by
        intro l
        induction l with
        | nil => intro _; exact ha
        | cons q r ih =>
          intro hq
          rw [List.all_cons, Bool.and_eq_true] at hq
          have h1 := ih hq.2
          have h2 := of_decide_eq_true hq.1
          obtain ⟨k, o⟩ := q
          show 0 ≤ (pc : Int) + (if k = x then o else Op.lookupswitch.offset r d x)
          by_cases h : k = x
          · rw [if_pos h]
            exact h2
          · rw [if_neg h]
            exact h1
      exact key _ hall
    exact lv_lookup hx hb hdc hso (by rw [toI hi]) (by omega) kk
  · cases hd
theorem snd_bst (X : Cx p s m args c cc nL own) (h0 : rf 0 = none) (hpos : ∀ x : Int, 0 < x → x ≤ n → ∃ q, rf x = some q)
    (hin : ∀ x y : Int, (-2 ≤ x ∧ x ≠ -1) → (-2 ≤ y ∧ y ≠ -1) → x ≤ n → y ≤ n → rf x = rf y → x = y) {pc op nx t : Nat} {a b : Int} {os : List Int} (hd : dcB cc pc op nx a b os = true) (hp : bst op nx a b os st = some (t, st')) (hst : okS n st)
    (k : W p l e R s m args below meth c H locs cells slots Q (F0 m t arr (st'.map (toV rf)))) : W p l e R s m args below meth c H locs cells slots Q (F0 m pc arr (st.map (toV rf))) := by
  have hx := X.1
  have hb := X.2.1
  unfold bst at hp
  unfold dcB at hd
  by_cases q0 : op = 20
  · rw [if_pos q0] at hp hd
    simp only [Bool.and_eq_true, decide_eq_true_eq, beq_iff_eq] at hd
    match st, hp, hst, k with
    | (0, x) :: r, hp, hst, k =>
      cases hp
      exact if_row hx hb (dq_of hd.2.2) hd.1 hd.2.1 (hst _ List.mem_cons_self).int k
  rw [if_neg q0] at hp hd
  by_cases q1 : op = 21
  · rw [if_pos q1] at hp hd
    simp only [Bool.and_eq_true, decide_eq_true_eq, beq_iff_eq] at hd
    match st, hp, hst, k with
    | (0, y) :: (0, x) :: r, hp, hst, k =>
      cases hp
      exact icmp_row hx hb (dq_of hd.2.2) hd.1 hd.2.1 (hst _ (List.mem_cons_of_mem _ List.mem_cons_self)).int (hst _ List.mem_cons_self).int k
  rw [if_neg q1] at hp hd
  by_cases q2 : op = 22
  · rw [if_pos q2] at hp hd
    simp only [Bool.and_eq_true, decide_eq_true_eq, beq_iff_eq] at hd
    obtain ⟨ha, rfl, hd⟩ := hd
    match st, hp, hst, k with
    | (2, x) :: r, hp, hst, k =>
      change (if x = 0 ∨ 0 < x then some (if cnd b.toNat x 0 then a.toNat else pc + 3, r) else none) = some (t, st') at hp
      by_cases hc : x = 0 ∨ 0 < x
      · rw [if_pos hc] at hp
        cases hp
        have ht : (pc : Int) + (a - pc) = (a.toNat : Int) := by omega
        rw [List.map_cons, toV_r]
        by_cases b0 : b = 0
        · rw [if_pos b0] at hd
          subst b0
          rcases hc with rfl | hc
          · rw [h0]
            exact lv_ifnullN hx hb (dq_of hd) ht (by simpa [cnd] using k)
          · obtain ⟨q, hq⟩ := hpos x hc (hst _ List.mem_cons_self).rfr
            rw [hq]
            exact lv_ifnull hx hb (dq_of hd) (by simpa [cnd, show ¬ x = 0 by omega] using k)
        · rw [if_neg b0, Bool.and_eq_true, beq_iff_eq] at hd
          obtain ⟨rfl, hd⟩ := hd
          rcases hc with rfl | hc
          · rw [h0]
            exact lv_ifnonnullN hx hb (dq_of hd) (by simpa [cnd] using k)
          · obtain ⟨q, hq⟩ := hpos x hc (hst _ List.mem_cons_self).rfr
            rw [hq]
            exact lv_ifnonnull hx hb (dq_of hd) ht (by simpa [cnd, show ¬ x = 0 by omega] using k)
      · rw [if_neg hc] at hp
        cases hp
  rw [if_neg q2] at hp hd
  by_cases q3 : op = 23
  · rw [if_pos q3] at hp hd
    simp only [Bool.and_eq_true, decide_eq_true_eq, beq_iff_eq] at hd
    obtain ⟨ha, rfl, hd⟩ := hd
    match st, hp, hst, k with
    | (2, y) :: (2, x) :: r, hp, hst, k =>
      change (if (-2 ≤ x ∧ -2 ≤ y ∧ x ≠ -1 ∧ y ≠ -1) ∨ (x = -4 ∧ y = -4) then some (if cnd b.toNat x y then a.toNat else pc + 3, r) else none) = some (t, st') at hp
      by_cases hc : (-2 ≤ x ∧ -2 ≤ y ∧ x ≠ -1 ∧ y ≠ -1) ∨ (x = -4 ∧ y = -4)
      · rw [if_pos hc] at hp
        cases hp
        have ht : (pc : Int) + (a - pc) = (a.toNat : Int) := by omega
        have hx2 := (hst _ (List.mem_cons_of_mem _ List.mem_cons_self)).rfr
        have hy2 := (hst _ List.mem_cons_self).rfr
        have hiff : rf x = rf y ↔ x = y := by
          rcases hc with hc | ⟨hc1, hc2⟩
          · exact ⟨hin x y ⟨hc.1, hc.2.2.1⟩ ⟨hc.2.1, hc.2.2.2⟩ hx2 hy2, fun e => by rw [e]⟩
          · exact ⟨fun _ => by rw [hc1, hc2], fun e => by rw [e]⟩
        rw [List.map_cons, List.map_cons, toV_r, toV_r]
        by_cases b0 : b = 0
        · rw [if_pos b0] at hd
          subst b0
          refine lv_acmp_eq hx hb (dq_of hd) ht (fun z => ?_) (fun z => ?_)
          · simpa [cnd, hiff.mp z] using k
          · have z2 : ¬ x = y := fun e => z (hiff.mpr e)
            simpa [cnd, z2] using k
        · rw [if_neg b0, Bool.and_eq_true, beq_iff_eq] at hd
          obtain ⟨rfl, hd⟩ := hd
          refine lv_acmp_ne hx hb (dq_of hd) ht (fun z => ?_) (fun z => ?_)
          · have z2 : ¬ x = y := fun e => z (hiff.mpr e)
            simpa [cnd, z2] using k
          · simpa [cnd, hiff.mp z] using k
      · rw [if_neg hc] at hp
        cases hp
  rw [if_neg q3] at hp hd
  by_cases q4 : op = 24
  · rw [if_pos q4] at hp hd
    simp only [Bool.and_eq_true, decide_eq_true_eq] at hd
    cases hp
    exact lv_goto hx hb (dq_of hd.2) (by omega) k
  rw [if_neg q4] at hp hd
  by_cases q5 : op = 25
  · rw [if_pos q5] at hp hd
    match st, hp, hst, k with
    | (0, x) :: r, hp, hst, k =>
      cases hp
      exact swt_row hx hb hd (hst _ List.mem_cons_self).int k
  rw [if_neg q5] at hp
  cases hp
end BR
