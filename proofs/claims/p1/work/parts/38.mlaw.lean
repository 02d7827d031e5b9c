/-! what the codes stand for; the runs of the mini machine's law -/
noncomputable def zyit (sc : List Int) : Nat → Int → Int
  | 0, x => if zyC x = true then sc.getD (zyi x) 0 else x
  | n + 1, x => if zyC x = true then (if zyi x < 6 then sc.getD (zyi x) 0 else match zyT[zyi x - 6]? with
    | some t => zyE (zyit sc n) t
    | none => 0) else x
def zydp : Nat → Int → Bool
  | 0, x => !zyC x || decide (zyi x < 6)
  | n + 1, x => !zyC x || (decide (zyi x < 6) || (match zyT[zyi x - 6]? with
    | some t => zydp n t.2.2.1 && zydp n t.2.2.2
    | none => true))
theorem zyit_no {sc : List Int} {x : Int} (h : zyC x = false) : ∀ n, zyit sc n x = x
  | 0 => by unfold zyit; rw [if_neg (by rw [h]; decide)]
  | n + 1 => by unfold zyit; rw [if_neg (by rw [h]; decide)]
theorem zyit_lo {sc : List Int} {x : Int} (h : zyC x = true) (h6 : zyi x < 6) : ∀ n, zyit sc n x = sc.getD (zyi x) 0
  | 0 => by unfold zyit; rw [if_pos h]
  | n + 1 => by unfold zyit; rw [if_pos h, if_pos h6]
theorem zyit_hi {sc : List Int} {x : Int} {n : Nat} (h : zyC x = true) (h6 : ¬ zyi x < 6) : zyit sc (n + 1) x = (match zyT[zyi x - 6]? with
    | some t => zyE (zyit sc n) t
    | none => 0) := by
  unfold zyit
  rw [if_pos h, if_neg h6]
theorem zyit_st (sc : List Int) : ∀ (n : Nat) (x : Int), zydp n x = true → zyit sc n x = zyit sc (n + 1) x
  | 0, x, h => by
    cases hc : zyC x with
    | false => rw [zyit_no hc, zyit_no hc]
    | true =>
      unfold zydp at h
      rw [hc] at h
      have h6 : zyi x < 6 := of_decide_eq_true h
      rw [zyit_lo hc h6, zyit_lo hc h6]
  | n + 1, x, h => by
    cases hc : zyC x with
    | false => rw [zyit_no hc, zyit_no hc]
    | true =>
      by_cases h6 : zyi x < 6
      · rw [zyit_lo hc h6, zyit_lo hc h6]
      · unfold zydp at h
        rw [hc, decide_eq_false h6] at h
        unfold zyit
        rw [if_pos hc, if_pos hc, if_neg h6, if_neg h6]
        cases ht : zyT[zyi x - 6]? with
        | none => rfl
        | some t =>
          rw [ht] at h
          have h : (zydp n t.2.2.1 && zydp n t.2.2.2) = true := h
          rw [Bool.and_eq_true] at h
          show zyE (zyit sc n) t = zyE (zyit sc (n + 1)) t
          unfold zyE
          rw [zyit_st sc n _ h.1, zyit_st sc n _ h.2]
set_option maxRecDepth 100000 in
theorem zyT_dp : zyT.all (fun t => (zydp 3 t.2.2.1 && zydp 3 t.2.2.2) && ((zyC t.2.2.1 || (zyle (-2147483648) t.2.2.1 && zyle t.2.2.1 2147483647)) && (zyC t.2.2.2 || (zyle (-2147483648) t.2.2.2 && zyle t.2.2.2 2147483647)))) = true := by decide +kernel
theorem zyT_at {j : Nat} {t : ZTm} (h : zyT[j]? = some t) : (zydp 3 t.2.2.1 = true ∧ zydp 3 t.2.2.2 = true) ∧ (zyC t.2.2.1 = true ∨ in32 t.2.2.1) ∧ (zyC t.2.2.2 = true ∨ in32 t.2.2.2) := by
  have h1 := List.all_eq_true.mp zyT_dp t (List.mem_of_getElem? h)
  simp only [Bool.and_eq_true, Bool.or_eq_true, zyle_iff] at h1
  exact h1
theorem getD_in {sc : List Int} (hin : ∀ x ∈ sc, in32 x) (i : Nat) : in32 (sc.getD i 0) := by
  rw [List.getD_eq_getElem?_getD]
  cases h : sc[i]? with
  | none => show in32 0; unfold in32; omega
  | some x => exact hin x (List.mem_of_getElem? h)
theorem i_byt_in (x : Int) : in32 (i_byt x) := by unfold i_byt in32; omega
theorem zyit_in {sc : List Int} (hin : ∀ x ∈ sc, in32 x) : ∀ (n : Nat) (x : Int), zyC x = true ∨ in32 x → in32 (zyit sc n x)
  | 0, x, h => by
    cases hc : zyC x with
    | false =>
      rw [zyit_no hc]
      rcases h with h | h
      · rw [hc] at h; cases h
      · exact h
    | true =>
      unfold zyit
      rw [if_pos hc]
      exact getD_in hin _
  | n + 1, x, h => by
    cases hc : zyC x with
    | false =>
      rw [zyit_no hc]
      rcases h with h | h
      · rw [hc] at h; cases h
      · exact h
    | true =>
      unfold zyit
      rw [if_pos hc]
      by_cases h6 : zyi x < 6
      · rw [if_pos h6]
        exact getD_in hin _
      · rw [if_neg h6]
        cases ht : zyT[zyi x - 6]? with
        | none => show in32 0; unfold in32; omega
        | some t =>
          show in32 (zyE (zyit sc n) t)
          obtain ⟨-, h1, h2⟩ := zyT_at ht
          have h1 := zyit_in hin n _ h1
          unfold zyE
          by_cases h4 : t.1 = 4
          · rw [if_pos h4]
            cases hb : ibin t.2.1.toNat (zyit sc n t.2.2.1) (zyit sc n t.2.2.2) with
            | none => show in32 0; unfold in32; omega
            | some z => exact ibin_in h1 hb
          · rw [if_neg h4]
            exact i_byt_in _
theorem zyEx {sc : List Int} (hl : sc.length ≤ 6) (hin : ∀ x ∈ sc, in32 x) : ∃ σ, zyH zyT σ ∧ zySc σ sc.length = sc := by
  refine ⟨zyit sc 4, ⟨fun x h => zyit_no h 4, fun j t h => ?_, fun x h => zyit_in hin 4 x (Or.inl h)⟩, ?_⟩
  · have h6 : ¬ zyi (zyc (6 + j)) < 6 := by rw [zyi_i]; omega
    have e : zyit sc 4 (zyc (6 + j)) = zyE (zyit sc 3) t := by
      rw [zyit_hi (zyC_c _) h6, zyi_i, show 6 + j - 6 = j from by omega, h]
    rw [e]
    obtain ⟨⟨h1, h2⟩, -⟩ := zyT_at h
    unfold zyE
    rw [zyit_st sc 3 _ h1, zyit_st sc 3 _ h2]
  · unfold zySc
    apply List.ext_getElem?
    intro i
    by_cases hi : i < sc.length
    · rw [List.getElem?_map, List.getElem?_range hi]
      show some (zyit sc 4 (zyc i)) = _
      rw [zyit_lo (zyC_c i) (by rw [zyi_i]; omega), zyi_i, List.getD_eq_getElem?_getD, List.getElem?_eq_getElem hi]
      rfl
    · rw [List.getElem?_eq_none_iff.mpr (by rw [List.length_map, List.length_range]; omega), List.getElem?_eq_none_iff.mpr (by omega)]
theorem zyO_nil {T : List ZTm} {σ : Int → Int} (hH : zyH T σ) : zyO σ [] := fun i => hH.2.2 _ (zyC_c i)
theorem zyno_ok (L : Nat) : zyOK zyT L zyno := fun _ _ _ _ _ _ _ _ _ _ h => by cases h
theorem zyxb_ok {L : Nat} {stp base : ZKt} (hs : zyOK zyT L stp) (hb : zyOK zyT L base) : ∀ n, zyOK zyT L (zyXb zyT L stp base n)
  | 0 => hb
  | n + 1 => zySt_ok hs (zyxb_ok hs hb n)
theorem kc0_eq : kc0 = kcs.getD 0 [] := rfl
theorem zyW0 : zyW 0 kc0 [] := ⟨kc0_eq, fun _ h => by cases h⟩
theorem zycase_ok {n pc : Nat} {I : ZIv} (h : zycase n pc I = true) : zyG zyT 6 zyH1 I 1000 0 pc zyls [] [] := zyX_ok (zyno_ok 6) n _ _ _ _ _ _ _ _ _ zyW0 h
theorem zyG_sub {T : List ZTm} {L : Nat} {H : List ZCe} {I J : ZIv} {d y pc : Nat} {ls st : List Vl} {fs : List ZFr} (hG : zyG T L H J d y pc ls st fs) (h : ∀ σ, zyH T σ → zyO σ I → zyO σ J) : zyG T L H I d y pc ls st fs := fun σ hH hO => hG σ hH (h σ hH hO)
theorem zygo_all : zyG zyT 6 zyH1 [] 1000 0 514 zyls [] [] := by
  intro σ hH hO
  obtain ⟨h1, h2⟩ := hO 1
  have h1 : (-2147483648 : Int) ≤ σ (zyc 1) := h1
  have h2 : σ (zyc 1) ≤ 2147483647 := h2
  by_cases hm : σ (zyc 1) ≤ -1
  · exact zycase_ok zygo_m σ hH (zyO_cons hO h1 hm)
  by_cases hp : 27 ≤ σ (zyc 1)
  · exact zycase_ok zygo_27 σ hH (zyO_cons hO hp h2)
  have hk : ∀ k : Int, σ (zyc 1) = k → zyO σ [(1, k, k)] := fun k hk => zyO_cons hO (by omega) (by omega)
  obtain ⟨k, hk0⟩ : ∃ k : Nat, σ (zyc 1) = (k : Int) := ⟨(σ (zyc 1)).toNat, by omega⟩
  have hlt : k < 27 := by omega
  have hk := hk k hk0
  match k, hlt, hk with
  | 0, _, hk => exact zycase_ok zygo_0 σ hH hk
  | 1, _, hk => exact zycase_ok zygo_1 σ hH hk
  | 2, _, hk => exact zycase_ok zygo_2 σ hH hk
  | 3, _, hk => exact zycase_ok zygo_3 σ hH hk
  | 4, _, hk => exact zycase_ok zygo_4 σ hH hk
  | 5, _, hk => exact zycase_ok zygo_5 σ hH hk
  | 6, _, hk => exact zycase_ok zygo_6 σ hH hk
  | 7, _, hk => exact zycase_ok zygo_7 σ hH hk
  | 8, _, hk => exact zycase_ok zygo_8 σ hH hk
  | 9, _, hk => exact zycase_ok zygo_9 σ hH hk
  | 10, _, hk => exact zycase_ok zygo_10 σ hH hk
  | 11, _, hk => exact zycase_ok zygo_11 σ hH hk
  | 12, _, hk => exact zycase_ok zygo_12 σ hH hk
  | 13, _, hk => exact zycase_ok zygo_13 σ hH hk
  | 14, _, hk => exact zycase_ok zygo_14 σ hH hk
  | 15, _, hk => exact zycase_ok zygo_15 σ hH hk
  | 16, _, hk => exact zycase_ok zygo_16 σ hH hk
  | 17, _, hk => exact zycase_ok zygo_17 σ hH hk
  | 18, _, hk => exact zycase_ok zygo_18 σ hH hk
  | 19, _, hk => exact zycase_ok zygo_19 σ hH hk
  | 20, _, hk => exact zycase_ok zygo_20 σ hH hk
  | 21, _, hk => exact zycase_ok zygo_21 σ hH hk
  | 22, _, hk => exact zycase_ok zygo_22 σ hH hk
  | 23, _, hk => exact zycase_ok zygo_23 σ hH hk
  | 24, _, hk => exact zycase_ok zygo_24 σ hH hk
  | 25, _, hk => exact zycase_ok zygo_25 σ hH hk
  | 26, _, hk => exact zycase_ok zygo_26 σ hH hk
  | n + 27, hlt, _ => exact absurd hlt (by omega)
theorem zyall : ∀ pc ∈ zypcs, zyG zyT 6 zyH1 [] 1000 0 pc zyls [] [] := by
  unfold zypcs
  refine List.forall_mem_cons.mpr ⟨zycase_ok zyc_1605, ?_⟩
  refine List.forall_mem_cons.mpr ⟨zycase_ok zyc_220, ?_⟩
  refine List.forall_mem_cons.mpr ⟨zycase_ok zyc_263, ?_⟩
  refine List.forall_mem_cons.mpr ⟨zycase_ok zyc_306, ?_⟩
  refine List.forall_mem_cons.mpr ⟨zycase_ok zyc_339, ?_⟩
  refine List.forall_mem_cons.mpr ⟨zycase_ok zyc_372, ?_⟩
  refine List.forall_mem_cons.mpr ⟨zycase_ok zyc_415, ?_⟩
  refine List.forall_mem_cons.mpr ⟨zycase_ok zyc_448, ?_⟩
  refine List.forall_mem_cons.mpr ⟨zycase_ok zyc_481, ?_⟩
  refine List.forall_mem_cons.mpr ⟨zygo_all, ?_⟩
  refine List.forall_mem_cons.mpr ⟨zycase_ok zyc_537, ?_⟩
  refine List.forall_mem_cons.mpr ⟨zycase_ok zyc_570, ?_⟩
  refine List.forall_mem_cons.mpr ⟨zycase_ok zyc_633, ?_⟩
  refine List.forall_mem_cons.mpr ⟨zycase_ok zyc_656, ?_⟩
  refine List.forall_mem_cons.mpr ⟨zycase_ok zyc_669, ?_⟩
  refine List.forall_mem_cons.mpr ⟨zycase_ok zyc_682, ?_⟩
  refine List.forall_mem_cons.mpr ⟨zycase_ok zyc_715, ?_⟩
  refine List.forall_mem_cons.mpr ⟨zycase_ok zyc_748, ?_⟩
  refine List.forall_mem_cons.mpr ⟨zycase_ok zyc_791, ?_⟩
  refine List.forall_mem_cons.mpr ⟨zycase_ok zyc_824, ?_⟩
  refine List.forall_mem_cons.mpr ⟨zycase_ok zyc_867, ?_⟩
  refine List.forall_mem_cons.mpr ⟨zycase_ok zyc_910, ?_⟩
  refine List.forall_mem_cons.mpr ⟨zycase_ok zyc_943, ?_⟩
  refine List.forall_mem_cons.mpr ⟨zycase_ok zyc_966, ?_⟩
  refine List.forall_mem_cons.mpr ⟨zycase_ok zyc_979, ?_⟩
  refine List.forall_mem_cons.mpr ⟨zycase_ok zyc_1012, ?_⟩
  refine List.forall_mem_cons.mpr ⟨zycase_ok zyc_1045, ?_⟩
  refine List.forall_mem_cons.mpr ⟨zycase_ok zyc_1078, ?_⟩
  refine List.forall_mem_cons.mpr ⟨zycase_ok zyc_1111, ?_⟩
  refine List.forall_mem_cons.mpr ⟨zycase_ok zyc_1144, ?_⟩
  refine List.forall_mem_cons.mpr ⟨zycase_ok zyc_1177, ?_⟩
  refine List.forall_mem_cons.mpr ⟨zycase_ok zyc_1200, ?_⟩
  refine List.forall_mem_cons.mpr ⟨zycase_ok zyc_1233, ?_⟩
  refine List.forall_mem_cons.mpr ⟨zycase_ok zyc_1282, ?_⟩
  refine List.forall_mem_cons.mpr ⟨zycase_ok zyc_1295, ?_⟩
  refine List.forall_mem_cons.mpr ⟨zycase_ok zyc_1338, ?_⟩
  refine List.forall_mem_cons.mpr ⟨zycase_ok zyc_1351, ?_⟩
  refine List.forall_mem_cons.mpr ⟨zycase_ok zyc_1384, ?_⟩
  refine List.forall_mem_cons.mpr ⟨zycase_ok zyc_1407, ?_⟩
  refine List.forall_mem_cons.mpr ⟨zycase_ok zyc_1440, ?_⟩
  refine List.forall_mem_cons.mpr ⟨zycase_ok zyc_1473, ?_⟩
  refine List.forall_mem_cons.mpr ⟨zycase_ok zyc_1516, ?_⟩
  refine List.forall_mem_cons.mpr ⟨zycase_ok zyc_1549, ?_⟩
  refine List.forall_mem_cons.mpr ⟨zycase_ok zyc_1582, ?_⟩
  intro pc h
  cases h
theorem zyb2_ok : zyOK zyT 6 zyb2 := by
  intro H I d y c pc ls st fs hW h
  unfold zyb2 at h
  simp only [Bool.and_eq_true, Nat.beq_eq, decide_eq_true_eq, List.isEmpty_iff, List.any_eq_true] at h
  obtain ⟨rfl, rfl, ⟨p, hp, hpp⟩, rfl, rfl, rfl, rfl⟩ := h
  subst hpp
  exact zyG_sub (zyall _ hp) (fun σ hH _ => zyO_nil hH)
theorem zys1_ok : zyOK zyT 6 zys1 := by
  intro H I d y c pc ls st fs hW h
  unfold zys1 at h
  simp only [Bool.and_eq_true, Nat.beq_eq, decide_eq_true_eq, List.isEmpty_iff] at h
  obtain ⟨rfl, rfl, rfl, rfl, rfl, rfl, rfl, rfl⟩ := h
  exact zyxb_ok (zyno_ok 6) zyb2_ok _ _ _ _ _ _ _ _ _ _ zyW0 zyr_sw
theorem zystart {L : Nat} (hL : L ≤ 6) : zyG zyT L [] [] 1000 0 0 (initL [(2, -1)] 4) [] [] := by
  match L, hL with
  | 0, _ => exact zyX_ok (zyno_ok 0) _ _ _ _ _ _ _ _ _ _ zyW0 zyr_0
  | 1, _ => exact zyX_ok (zyno_ok 1) _ _ _ _ _ _ _ _ _ _ zyW0 zyr_1
  | 2, _ => exact zyX_ok (zyno_ok 2) _ _ _ _ _ _ _ _ _ _ zyW0 zyr_2
  | 3, _ => exact zyX_ok (zyno_ok 3) _ _ _ _ _ _ _ _ _ _ zyW0 zyr_3
  | 4, _ => exact zyX_ok (zyno_ok 4) _ _ _ _ _ _ _ _ _ _ zyW0 zyr_4
  | 5, _ => exact zyX_ok (zyno_ok 5) _ _ _ _ _ _ _ _ _ _ zyW0 zyr_5
  | 6, _ => exact zyX_ok zys1_ok _ _ _ _ _ _ _ _ _ _ zyW0 zyr_s1
theorem MLaw_ok : MLaw := by
  intro sc hl hin
  obtain ⟨σ, hH, hsc⟩ := zyEx hl hin
  obtain ⟨n, r, h, hE, hr, h1, h2⟩ := zystart hl σ hH (zyO_nil hH)
  rw [hsc, hr, ← zyiL σ (zy0 hH), List.map_cons, zyV_mk, hH.1 (-1) (by decide)] at hE
  exact ⟨n, h, hE, h1, h2⟩
