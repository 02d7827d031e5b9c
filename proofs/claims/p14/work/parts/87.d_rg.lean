/-! the class's reader goes to the next token -/
section RG
variable {sc : List Int}
theorem rQ.a {t : pT} {n : Nat} {h g : Hp} {s : pQ} {ms : Zms} {c z : Int} (Q : rQ t n h s) (R : zXR ms c z h g) (e : (zqN ms 9 9 6 7 && zun ms 11) = true) (K : rTok t n g (pSk t n (pEn t n s.1))) : rQ t n g (pA t n s) := by
  rw [Bool.and_eq_true] at e
  obtain ⟨q1, q2, q3⟩ := Q
  refine ⟨K, ?_, ?_⟩
  · exact (R.f (r := 9) (j := 6) e.1 ⟨by decide, by decide⟩ ⟨by decide, by decide⟩ ⟨by decide, by decide⟩).trans q2
  · exact (R.fa (a := 11) e.2 (by decide)).trans q3
theorem x198_q (h : Hp) (C : CI h) (t : pT) (n : Nat) (s : pQ) (B : rB t n h) (Q : rQ t n h s) (W : s.1 ≤ n) : zwC sc 8 198 [(2, 9)] h (zwRt 0 (fun x g => CI g ∧ zXR msxA9 (0) (0) h g ∧ x = 1 ∧ rQ t n g (pA t n s))) := by
  have b := pEn_b (t := t) W
  refine zwC_to (x198_p (sc := sc) h C t n (pEn t n s.1) B Q.1.2.2.1 b.2.1) ?_
  rintro r g ⟨x, e, Cg, R, hx, K⟩
  exact ⟨x, e, Cg, R, hx, Q.a R (by decide +kernel) K⟩
end RG
