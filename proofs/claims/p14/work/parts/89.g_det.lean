/-! runs are of one way: two contracts of a call hold together -/
section DT
variable {sc : List Int}
theorem zw_detE {cal : Nat → List Vl → Hp → Option Vl → Hp → Prop} (hc : ∀ y as hp r1 h1 r2 h2, cal y as hp r1 h1 → cal y as hp r2 h2 → r1 = r2 ∧ h1 = h2) {y : Nat} : ∀ (n m pc : Nat) (ls st : List Vl) (hp : Hp) (r1 : Option Vl) (h1 : Hp) (r2 : Option Vl) (h2 : Hp), Ex cdT mK sc stxt cal y n pc ls st hp r1 h1 → Ex cdT mK sc stxt cal y m pc ls st hp r2 h2 → r1 = r2 ∧ h1 = h2
  | 0, _, _, _, _, _, _, _, _, _, hx, _ => hx.elim
  | _ + 1, 0, _, _, _, _, _, _, _, _, _, hx => hx.elim
  | n + 1, m + 1, pc, ls, st, hp, r1, h1, r2, h2, hx, kx => by
    obtain ⟨op, nx, a, b, os, e, H⟩ := hx
    obtain ⟨op2, nx2, a2, b2, os2, e2, K⟩ := kx
    rw [e] at e2
    injection e2 with e2
    simp only [Prod.mk.injEq] at e2
    obtain ⟨rfl, rfl, rfl, rfl, rfl⟩ := e2
    rcases H with ⟨o1, x1, x2, s1, x3⟩ | ⟨o1, o2, x1, x2, s1, x3⟩ | ⟨o1, o2, x1, s1, x3⟩ | ⟨o1, o2, x1, x2, s1, x3⟩ | ⟨o1, o2, x1, x2, x4, x5, s1, s2, s3, x3⟩ | ⟨o1, s1, s2⟩ <;> rcases K with ⟨p1, y1, y2, t1, y3⟩ | ⟨p1, p2, y1, y2, t1, y3⟩ | ⟨p1, p2, y1, t1, y3⟩ | ⟨p1, p2, y1, y2, t1, y3⟩ | ⟨p1, p2, y1, y2, y4, y5, t1, t2, t3, y3⟩ | ⟨p1, t1, t2⟩ <;> first | (exfalso; omega) | skip
    · rw [s1] at t1
      injection t1 with t1
      simp only [Prod.mk.injEq] at t1
      obtain ⟨rfl, rfl⟩ := t1
      exact zw_detE hc n m _ _ _ _ _ _ _ _ x3 y3
    · rw [s1] at t1
      injection t1 with t1
      simp only [Prod.mk.injEq] at t1
      obtain ⟨rfl, rfl⟩ := t1
      exact zw_detE hc n m _ _ _ _ _ _ _ _ x3 y3
    · rw [s1] at t1
      injection t1 with t1
      subst t1
      exact zw_detE hc n m _ _ _ _ _ _ _ _ x3 y3
    · rw [s1] at t1
      injection t1 with t1
      simp only [Prod.mk.injEq] at t1
      obtain ⟨rfl, rfl⟩ := t1
      exact zw_detE hc n m _ _ _ _ _ _ _ _ x3 y3
    · rw [s1] at t1
      injection t1 with t1
      simp only [Prod.mk.injEq] at t1
      obtain ⟨rfl, rfl⟩ := t1
      obtain ⟨rfl, rfl⟩ := hc _ _ _ _ _ _ _ s3 t3
      exact zw_detE hc n m _ _ _ _ _ _ _ _ x3 y3
    · rw [s1] at t1
      injection t1 with t1
      exact ⟨t1, s2.trans t2.symm⟩
theorem zw_det : ∀ (d y : Nat) (as : List Vl) (hp : Hp) (r1 : Option Vl) (h1 : Hp) (r2 : Option Vl) (h2 : Hp), Runs cdT mK sc stxt mL d y as hp r1 h1 → Runs cdT mK sc stxt mL d y as hp r2 h2 → r1 = r2 ∧ h1 = h2
  | 0, _, _, _, _, _, _, _, hx, _ => hx.elim
  | d + 1, _, _, _, _, _, _, _, hx, kx => by
    obtain ⟨-, n, hx⟩ := hx
    obtain ⟨-, m, kx⟩ := kx
    exact zw_detE (zw_det d) n m _ _ _ _ _ _ _ _ hx kx
theorem zwC_and {D y : Nat} {as : List Vl} {h : Hp} {Q R : Option Vl → Hp → Prop} (A : zwC sc D y as h Q) (B : zwC sc D y as h R) : zwC sc D y as h (fun r g => Q r g ∧ R r g) := by
  obtain ⟨r1, h1, x1, q1⟩ := A
  obtain ⟨r2, h2, x2, q2⟩ := B
  obtain ⟨rfl, rfl⟩ := zw_det D y as h r1 h1 r2 h2 x1 x2
  exact ⟨r1, h1, x1, q1, q2⟩
theorem zwC_an2 {D D2 y t : Nat} {as : List Vl} {h : Hp} {Q R : Int → Hp → Prop} (A : zwC sc D y as h (zwRt t Q)) (B : zwC sc D2 y as h (zwRt t R)) : zwC sc (max D D2) y as h (zwRt t (fun x g => Q x g ∧ R x g)) := by
  refine zwC_to (zwC_and (zwC_up (Nat.le_max_left D D2) A) (zwC_up (Nat.le_max_right D D2) B)) ?_
  rintro r g ⟨⟨x, e, q⟩, ⟨x2, e2, q2⟩⟩
  rw [e] at e2
  injection e2 with e2
  injection e2 with _ e2
  subst e2
  exact ⟨x, e, q, q2⟩
end DT
