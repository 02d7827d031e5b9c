/-! A SYMBOLIC RUN of the mini machine: numbers from 2^70 on are codes: 2^70 + i stands for the script's number i (i < 6), 2^70 + 6 + j for the j-th term of zyT; a cell is (kind, length, what was written), the newest first -/
abbrev ZCe : Type := Nat × Nat × List (Nat × Int)
abbrev ZCo : Type := List (Nat × Op)
abbrev ZFr : Type := Nat × ZCo × Nat × List Vl × List Vl
abbrev ZIv : Type := List (Nat × Int × Int)
abbrev ZTm : Type := Nat × Int × Int × Int
abbrev ZKt : Type := List ZCe → ZIv → Nat → Nat → ZCo → Nat → List Vl → List Vl → List ZFr → Bool
def zyC (x : Int) : Bool := match x with
  | .ofNat n => Nat.ble 1180591620717411303424 n
  | .negSucc _ => false
/-- a code's number -/
def zyi (x : Int) : Nat := match x with
  | .ofNat n => n - 1180591620717411303424
  | .negSucc _ => 0
def zyc (i : Nat) : Int := Int.ofNat (1180591620717411303424 + i)
def zyle (x y : Int) : Bool := match x with
  | .ofNat m => (match y with
    | .ofNat n => Nat.ble m n
    | .negSucc _ => false)
  | .negSucc m => (match y with
    | .ofNat _ => true
    | .negSucc n => Nat.ble n m)
def zyeq (x y : Int) : Bool := match x with
  | .ofNat m => (match y with
    | .ofNat n => Nat.beq m n
    | .negSucc _ => false)
  | .negSucc m => (match y with
    | .ofNat _ => false
    | .negSucc n => Nat.beq n m)
noncomputable def zyL {α : Type} (i : Nat) (l : List (Nat × α)) : Option α := List.rec none (fun e _ ih => bif Nat.beq i e.1 then some e.2 else ih) l
noncomputable def zyN {α : Type} (l : List α) : Nat → Option α := List.rec (fun _ => none) (fun x _ ih n => bif Nat.beq n 0 then some x else ih (n - 1)) l
noncomputable def zyU {α : Type} (c : α) (l : List α) : Nat → List α := List.rec (fun _ => []) (fun x r ih n => bif Nat.beq n 0 then c :: r else x :: ih (n - 1)) l
theorem zyC_iff {x : Int} : zyC x = true ↔ 1180591620717411303424 ≤ x := by
  unfold zyC
  cases x with
  | ofNat n =>
    show Nat.ble 1180591620717411303424 n = true ↔ _
    rw [Nat.ble_eq, Int.ofNat_eq_natCast]
    omega
  | negSucc n =>
    constructor
    · intro h; cases h
    · intro h; omega
theorem zyC_no {x : Int} : zyC x = false ↔ x < 1180591620717411303424 := by
  rw [← Bool.not_eq_true, zyC_iff]
  omega
theorem zyi_c {x : Int} (h : zyC x = true) : zyc (zyi x) = x := by
  cases x with
  | ofNat n =>
    have h2 : 1180591620717411303424 ≤ n := Nat.le_of_ble_eq_true h
    have h3 : 1180591620717411303424 + (n - 1180591620717411303424) = n := by omega
    exact congrArg Int.ofNat h3
  | negSucc n => cases h
theorem zyC_c (i : Nat) : zyC (zyc i) = true := by
  rw [zyC_iff]
  unfold zyc
  rw [Int.ofNat_eq_natCast]
  omega
theorem zyi_i (i : Nat) : zyi (zyc i) = i := by
  unfold zyc zyi
  show 1180591620717411303424 + i - 1180591620717411303424 = i
  omega
theorem zyle_iff {x y : Int} : zyle x y = true ↔ x ≤ y := by
  unfold zyle
  cases x with
  | ofNat m =>
    cases y with
    | ofNat n =>
      show Nat.ble m n = true ↔ _
      rw [Nat.ble_eq, Int.ofNat_eq_natCast, Int.ofNat_eq_natCast]
      omega
    | negSucc n =>
      rw [Int.ofNat_eq_natCast]
      constructor
      · intro h; cases h
      · intro h; omega
  | negSucc m =>
    cases y with
    | ofNat n =>
      rw [Int.ofNat_eq_natCast]
      constructor
      · intro h; omega
      · intro h; rfl
    | negSucc n =>
      show Nat.ble n m = true ↔ _
      rw [Nat.ble_eq]
      omega
theorem zyle_no {x y : Int} : zyle x y = false ↔ y < x := by
  rw [← Bool.not_eq_true, zyle_iff]
  omega
theorem zyeq_iff {x y : Int} : zyeq x y = true ↔ x = y := by
  unfold zyeq
  cases x with
  | ofNat m =>
    cases y with
    | ofNat n =>
      show Nat.beq m n = true ↔ _
      rw [Nat.beq_eq, Int.ofNat_eq_natCast, Int.ofNat_eq_natCast]
      omega
    | negSucc n =>
      rw [Int.ofNat_eq_natCast]
      constructor
      · intro h; cases h
      · intro h; omega
  | negSucc m =>
    cases y with
    | ofNat n =>
      rw [Int.ofNat_eq_natCast]
      constructor
      · intro h; cases h
      · intro h; omega
    | negSucc n =>
      show Nat.beq n m = true ↔ _
      rw [Nat.beq_eq]
      omega
theorem zyeq_no {x y : Int} : zyeq x y = false ↔ x ≠ y := by
  rw [← Bool.not_eq_true, zyeq_iff]
theorem zyL_nil {α : Type} (i : Nat) : zyL i ([] : List (Nat × α)) = none := rfl
theorem zyL_cons {α : Type} (i : Nat) (e : Nat × α) (r : List (Nat × α)) : zyL i (e :: r) = bif Nat.beq i e.1 then some e.2 else zyL i r := rfl
theorem zyN_nil {α : Type} (n : Nat) : zyN ([] : List α) n = none := rfl
theorem zyN_cons {α : Type} (x : α) (r : List α) (n : Nat) : zyN (x :: r) n = bif Nat.beq n 0 then some x else zyN r (n - 1) := rfl
theorem zyU_cons {α : Type} (c x : α) (r : List α) (n : Nat) : zyU c (x :: r) n = bif Nat.beq n 0 then c :: r else x :: zyU c r (n - 1) := rfl
theorem zyL_lookup {α : Type} (i : Nat) : ∀ l : List (Nat × α), zyL i l = l.lookup i
  | [] => rfl
  | (j, x) :: r => by
    rw [zyL_cons, List.lookup_cons, zyL_lookup i r]
    dsimp only
    by_cases h : i = j
    · rw [Nat.beq_eq.mpr h, beq_iff_eq.mpr h]
      rfl
    · rw [show Nat.beq i j = false from by rw [← Bool.not_eq_true, Nat.beq_eq]; exact h, beq_eq_false_iff_ne.mpr h]
      rfl
theorem zyN_get {α : Type} : ∀ (l : List α) (n : Nat), zyN l n = l[n]?
  | [], n => by rw [zyN_nil]; simp
  | x :: r, 0 => rfl
  | x :: r, n + 1 => by
    rw [zyN_cons, List.getElem?_cons_succ, ← zyN_get r n]
    rfl
theorem zyU_set {α : Type} (c : α) : ∀ (l : List α) (n : Nat), zyU c l n = l.set n c
  | [], n => by cases n <;> rfl
  | x :: r, 0 => rfl
  | x :: r, n + 1 => by
    rw [zyU_cons, List.set_cons_succ, ← zyU_set c r n]
    rfl
def zyg (I : ZIv) (i : Nat) : Int × Int := (I.lookup i).getD (-2147483648, 2147483647)
noncomputable def zyg2 (I : ZIv) (i : Nat) : Int × Int := match zyL i I with
  | some p => p
  | none => (-2147483648, 2147483647)
theorem zyg2_eq (I : ZIv) (i : Nat) : zyg2 I i = zyg I i := by
  unfold zyg2 zyg
  rw [zyL_lookup]
  cases I.lookup i <;> rfl
def zymin (x y : Int) : Int := bif zyle x y then x else y
def zymax (x y : Int) : Int := bif zyle x y then y else x
/-- code i against k: below, or not -/
noncomputable def zyS2 (I : ZIv) (i : Nat) (k : Int) : List (ZIv × Bool) := match zyg2 I i with
  | (lo, hi) => (bif zyle lo (zymin hi (k - 1)) then [((i, lo, zymin hi (k - 1)) :: I, true)] else []) ++ (bif zyle (zymax lo k) hi then [((i, zymax lo k, hi) :: I, false)] else [])
/-- code i against k: -1, 0, 1 -/
noncomputable def zyS3 (I : ZIv) (i : Nat) (k : Int) : List (ZIv × Int) := (zyS2 I i k).flatMap (fun e => bif e.2 then [(e.1, -1)] else (zyS2 e.1 i (k + 1)).map (fun f => (f.1, bif f.2 then 0 else 1)))
/-- a comparison that may look at a code -/
noncomputable def zyCm (I : ZIv) (b : Nat) (x y : Int) : Option (List (ZIv × Bool)) :=
  bif zyC x then
    (bif zyC y then none
     else bif Nat.ble b 1 then some ((zyS3 I (zyi x) y).map (fun e => (e.1, cnd b e.2 0)))
     else bif Nat.beq b 2 then some (zyS2 I (zyi x) y)
     else bif Nat.beq b 3 then some ((zyS2 I (zyi x) y).map (fun e => (e.1, !e.2)))
     else bif Nat.beq b 4 then some ((zyS2 I (zyi x) (y + 1)).map (fun e => (e.1, !e.2)))
     else some (zyS2 I (zyi x) (y + 1)))
  else bif zyC y then
    (bif Nat.ble b 1 then some ((zyS3 I (zyi y) x).map (fun e => (e.1, cnd b e.2 0)))
     else bif Nat.beq b 2 then some ((zyS2 I (zyi y) (x + 1)).map (fun e => (e.1, !e.2)))
     else bif Nat.beq b 3 then some (zyS2 I (zyi y) (x + 1))
     else bif Nat.beq b 4 then some (zyS2 I (zyi y) x)
     else some ((zyS2 I (zyi y) x).map (fun e => (e.1, !e.2))))
  else some [(I, cnd b x y)]
/-- a switch over a code -/
noncomputable def zySw (d : Int) (i : Nat) : List Int → ZIv → List (ZIv × Int)
  | k :: t :: r, I => (zyS3 I i k).flatMap (fun e => bif zyeq e.2 0 then [(e.1, t)] else zySw d i r e.1)
  | _, I => [(I, d)]
noncomputable def zyLc (I : ZIv) (x y : Int) : Option (List (ZIv × Int)) :=
  bif zyC x then (bif zyC y then none else some (zyS3 I (zyi x) y))
  else bif zyC y then some ((zyS3 I (zyi y) x).map (fun e => (e.1, -e.2)))
  else some [(I, l_cmp x y)]
noncomputable def zyF (k : Nat) (o x y : Int) : List ZTm → Nat → Option Int
  | [], _ => none
  | e :: r, c => bif Nat.beq k e.1 && (zyeq o e.2.1 && (zyeq x e.2.2.1 && zyeq y e.2.2.2)) then some (zyc c) else zyF k o x y r (c + 1)
section ZY
variable (T : List ZTm) (L : Nat)
/-- two ints, codes too -/
noncomputable def zyI (a x y : Int) : Option Int :=
  bif zyC x || zyC y then
    (bif (Nat.ble 5 a.toNat && Nat.ble a.toNat 10) || (Nat.ble a.toNat 4 && (!zyC y && !zyeq y 0)) then zyF 4 a x y T 6 else none)
  else (match ibin a.toNat x y with
    | some z => bif zyC z then none else some z
    | none => none)
noncomputable def zyby (x : Int) : Option Int := bif zyC x then zyF 9 0 x 0 T 6 else some (i_byt x)
noncomputable def zyP (op : Nat) (a b : Int) (ls st : List Vl) : Option (List Vl × List Vl) :=
  bif Nat.beq op 1 then (match zyN ls a.toNat with
    | some v => bif Nat.beq v.1 b.toNat then some (ls, v :: st) else none
    | none => none)
  else bif Nat.beq op 0 then (bif zyC a then none else some (ls, (b.toNat, a) :: st))
  else bif Nat.beq op 2 then (match st with
    | v :: r => bif Nat.beq v.1 b.toNat && Nat.blt (bif Nat.beq v.1 1 then a.toNat + 1 else a.toNat) ls.length then some (storeL ls a.toNat v, r) else none
    | [] => none)
  else bif Nat.beq op 3 then (match zyN ls a.toNat with
    | some v => bif Nat.beq v.1 0 && !zyC v.2 then some (storeL ls a.toNat (0, w32 (v.2 + b)), st) else none
    | none => none)
  else bif Nat.beq op 4 then (match st with
    | v :: u :: r => bif Nat.beq v.1 0 && Nat.beq u.1 0 then (match zyI T a u.2 v.2 with
      | some z => some (ls, (0, z) :: r)
      | none => none) else none
    | _ => none)
  else bif Nat.beq op 7 then (match st with
    | v :: r => bif Nat.beq v.1 0 then some (ls, (1, v.2) :: r) else none
    | _ => none)
  else bif Nat.beq op 9 then (match st with
    | v :: r => bif Nat.beq v.1 0 then (match zyby T v.2 with
      | some z => some (ls, (0, z) :: r)
      | none => none) else none
    | _ => none)
  else bif Nat.ble 12 op && Nat.ble op 15 then pst op a b ls st
  else none
noncomputable def zyBr (op nx : Nat) (a b : Int) (os : List Int) (I : ZIv) (st : List Vl) : Option (List (ZIv × Nat × List Vl)) :=
  bif Nat.beq op 21 then (match st with
    | v :: u :: r => bif Nat.beq v.1 0 && Nat.beq u.1 0 then (match zyCm I b.toNat u.2 v.2 with
      | some l => some (l.map (fun e => (e.1, bif e.2 then a.toNat else nx, r)))
      | none => none) else none
    | _ => none)
  else bif Nat.beq op 20 then (match st with
    | v :: r => bif Nat.beq v.1 0 then (match zyCm I b.toNat v.2 0 with
      | some l => some (l.map (fun e => (e.1, bif e.2 then a.toNat else nx, r)))
      | none => none) else none
    | _ => none)
  else bif Nat.beq op 24 then some [(I, a.toNat, st)]
  else bif Nat.beq op 11 then (match st with
    | v :: u :: r => bif Nat.beq v.1 1 && Nat.beq u.1 1 then (match zyLc I u.2 v.2 with
      | some l => some (l.map (fun e => (e.1, nx, (0, e.2) :: r)))
      | none => none) else none
    | _ => none)
  else bif Nat.beq op 22 then (match st with
    | v :: r => bif Nat.beq v.1 2 && (zyle 0 v.2 && !zyC v.2) then some [(I, bif cnd b.toNat v.2 0 then a.toNat else nx, r)] else none
    | _ => none)
  else bif Nat.beq op 23 then (match st with
    | v :: u :: r => bif (Nat.beq v.1 2 && Nat.beq u.1 2) && ((zyle (-2) u.2 && !zyC u.2 && !zyeq u.2 (-1)) && (zyle (-2) v.2 && !zyC v.2 && !zyeq v.2 (-1))) then some [(I, bif cnd b.toNat u.2 v.2 then a.toNat else nx, r)] else none
    | _ => none)
  else bif Nat.beq op 25 then (match st with
    | v :: r => bif Nat.beq v.1 0 then (bif zyC v.2 then some ((zySw a (zyi v.2) os I).map (fun e => (e.1, e.2.toNat, r))) else some [(I, (swt a v.2 os).toNat, r)]) else none
    | _ => none)
  else none
noncomputable def zyce (H : List ZCe) (r : Int) : Option ZCe := match r with
  | .ofNat m => bif Nat.beq m 0 || Nat.ble 1180591620717411303424 m then none else zyN H (m - 1)
  | .negSucc _ => none
noncomputable def zyld (i : Nat) (d : List (Nat × Int)) : Int := match zyL i d with
  | some x => x
  | none => 0
/-- kty, packed: three bits a field -/
def zykk : List Nat := [16, 16402, 306782208, 306774034, 16, 1024, 16, 37748752, 18, 74882, 144, 562949953421312, 157073089664, 142088017077781226384936472789038019723194684471192393021317110033386389955168032072704]
noncomputable def zykt (k i : Nat) : Nat := bif Nat.ble k 13 then (match zyN zykk k with
    | some w => (w / 2 ^ (3 * i)) % 8
    | none => 0)
  else kty k i
noncomputable def zyRd (op : Nat) (a b : Int) (H : List ZCe) (st : List Vl) : Option (List Vl) :=
  bif Nat.beq op 30 then (match st with
    | v :: rest => bif Nat.beq v.1 2 then (match zyce H v.2 with
      | some e => bif zyeq (Int.ofNat e.1) a && Nat.blt b.toNat e.2.1 then some ((tg (zykt e.1 b.toNat), zyld b.toNat e.2.2) :: rest) else none
      | none => none) else none
    | [] => none)
  else bif Nat.beq op 32 then (match st with
    | v :: u :: rest => bif Nat.beq v.1 0 && (Nat.beq u.1 2 && (zyle 0 v.2 && !zyC v.2)) then
        (bif zyeq u.2 (-1) then (bif zyeq a 20 && Nat.blt v.2.toNat L then some ((0, zyc v.2.toNat) :: rest) else none)
         else (match zyce H u.2 with
          | some e => bif (zyeq (Int.ofNat e.1) a || (zyeq a 24 && Nat.ble 24 e.1)) && Nat.blt v.2.toNat e.2.1 then some ((tg (kty e.1 0), zyld v.2.toNat e.2.2) :: rest) else none
          | none => none)) else none
    | _ => none)
  else bif Nat.beq op 31 then (match st with
    | v :: rest => bif Nat.beq v.1 2 then (bif zyeq v.2 (-1) then (bif Nat.ble L 6 then some ((0, Int.ofNat L) :: rest) else none) else bif zyeq v.2 (-2) then some ((0, 0) :: rest) else (match zyce H v.2 with
      | some e => bif Nat.ble 20 e.1 && Nat.ble e.2.1 1000000 then some ((0, Int.ofNat e.2.1) :: rest) else none
      | none => none)) else none
    | [] => none)
  else bif Nat.beq op 34 then (match st with
    | v :: rest => bif Nat.beq v.1 2 then (bif zyeq v.2 0 then some st else (match zyce H v.2 with
      | some e => bif zyeq (Int.ofNat e.1) a then some st else none
      | none => none)) else none
    | [] => none)
  else bif Nat.beq op 35 then (match st with
    | v :: rest => bif Nat.beq v.1 2 && ((zyle 1 v.2 && !zyC v.2) && Nat.ble (wds rest) 8) then some rest else none
    | [] => none)
  else bif Nat.beq op 36 then (match st with
    | v :: u :: rest => bif (Nat.beq v.1 0 && Nat.beq u.1 0) && ((!zyC v.2 && !zyC u.2) && Nat.ble (wds rest) 8) then some ((0, mth a u.2 v.2) :: rest) else none
    | _ => none)
  else none
/-- what an array keeps -/
noncomputable def zyKp (H : List ZCe) (kd : Nat) (v : Vl) : Option Int :=
  bif Nat.beq kd 20 then (bif Nat.beq v.1 0 then some v.2 else none)
  else bif Nat.beq kd 21 then (bif Nat.beq v.1 0 then zyby T v.2 else none)
  else bif Nat.beq kd 25 then (bif Nat.beq v.1 2 then (bif zyeq v.2 0 then some 0 else (match zyce H v.2 with
    | some e => bif Nat.blt e.1 14 then some v.2 else none
    | none => none)) else none)
  else bif Nat.beq kd 28 then (bif Nat.beq v.1 2 && (zyle v.2 (-10) && zyle (-32) v.2) then some v.2 else none)
  else none
noncomputable def zyWr (op : Nat) (a b : Int) (H : List ZCe) (st : List Vl) : Option (List ZCe × List Vl) :=
  bif Nat.beq op 40 then (match st with
    | v :: u :: rest => bif Nat.beq u.1 2 then (match zyce H u.2 with
      | some e => bif (zyeq (Int.ofNat e.1) a && Nat.blt b.toNat e.2.1) && (Nat.ble (zykt e.1 b.toNat) 2 && Nat.beq v.1 (tg (zykt e.1 b.toNat))) then some (zyU (e.1, e.2.1, (b.toNat, v.2) :: e.2.2) H (u.2.toNat - 1), rest) else none
      | none => none) else none
    | _ => none)
  else bif Nat.beq op 41 then (match st with
    | v :: w :: u :: rest => bif Nat.beq w.1 0 && (Nat.beq u.1 2 && (zyle 0 w.2 && !zyC w.2)) then (match zyce H u.2 with
      | some e => bif (zyeq (Int.ofNat e.1) a || (zyeq a 24 && Nat.ble 24 e.1)) && Nat.blt w.2.toNat e.2.1 then (match zyKp T H e.1 v with
        | some x => some (zyU (e.1, e.2.1, (w.2.toNat, x) :: e.2.2) H (u.2.toNat - 1), rest)
        | none => none) else none
      | none => none) else none
    | _ => none)
  else bif Nat.beq op 42 then (bif Nat.ble H.length 600000 then some (H ++ [(a.toNat, b.toNat, [])], (2, Int.ofNat (H.length + 1)) :: st) else none)
  else bif Nat.beq op 43 || Nat.beq op 44 then (match st with
    | v :: rest => bif (Nat.beq v.1 0 && (zyle 0 v.2 && zyle v.2 100000)) && Nat.ble H.length 600000 then some (H ++ [(a.toNat, v.2.toNat, [])], (2, Int.ofNat (H.length + 1)) :: rest) else none
    | [] => none)
  else bif Nat.beq op 45 then (match st with
    | v :: u :: rest => bif (Nat.beq v.1 0 && Nat.beq u.1 0) && (((zyle 0 v.2 && zyle v.2 1000) && (zyle 0 u.2 && zyle u.2 1000)) && Nat.ble H.length 600000) then
        some (H ++ (a.toNat, u.2.toNat, (List.range u.2.toNat).map (fun i => (i, Int.ofNat (H.length + 1 + 1 * i + 1)))) :: List.replicate u.2.toNat (b.toNat, v.2.toNat, []), (2, Int.ofNat (H.length + 1)) :: rest) else none
    | _ => none)
  else bif Nat.beq op 46 then (match st with
    | w :: v :: u :: rest => bif ((Nat.beq v.1 0 && Nat.beq u.1 0) && Nat.beq w.1 0) && ((((zyle 0 v.2 && zyle v.2 1000) && (zyle 0 u.2 && zyle u.2 1000)) && (zyle 0 w.2 && zyle w.2 1000)) && Nat.ble H.length 600000) then
        some (H ++ (a.toNat, u.2.toNat, (List.range u.2.toNat).map (fun i => (i, Int.ofNat (H.length + 1 + (v.2.toNat + 1) * i + 1)))) :: (List.range u.2.toNat).flatMap (fun i => (b.toNat, v.2.toNat, (List.range v.2.toNat).map (fun j => (j, Int.ofNat (H.length + 2 + (v.2.toNat + 1) * i + 1 * j + 1)))) :: List.replicate v.2.toNat (20, w.2.toNat, [])), (2, Int.ofNat (H.length + 1)) :: rest) else none
    | _ => none)
  else bif Nat.beq op 47 then (match st with
    | n :: dp :: d :: sp :: s :: rest => bif (((Nat.beq n.1 0 && Nat.beq dp.1 0) && (Nat.beq d.1 2 && Nat.beq sp.1 0)) && Nat.beq s.1 2) && (((zyle 0 n.2 && zyle n.2 100000) && (zyle 0 dp.2 && zyle dp.2 100000)) && ((zyle 0 sp.2 && zyle sp.2 100000) && Nat.ble (wds rest) 8)) then
        (match zyce H s.2 with
        | some e => (match zyce H d.2 with
          | some f => bif (Nat.beq e.1 20 && Nat.beq f.1 20) && (Nat.ble (sp.2.toNat + n.2.toNat) e.2.1 && Nat.ble (dp.2.toNat + n.2.toNat) f.2.1) then
              some (zyU (f.1, f.2.1, (List.range n.2.toNat).map (fun i => (dp.2.toNat + i, zyld (sp.2.toNat + i) e.2.2)) ++ f.2.2) H (d.2.toNat - 1), rest) else none
          | none => none)
        | none => none) else none
    | _ => none)
  else bif Nat.beq op 48 then (match st with
    | v :: rest => bif Nat.beq v.1 2 && (Nat.ble (wds rest) 8 && Nat.ble H.length 600000) then (match zyce H v.2 with
      | some e => bif Nat.beq e.1 20 then some (H ++ [e], (2, Int.ofNat (H.length + 1)) :: rest) else none
      | none => none) else none
    | [] => none)
  else none
def zyRo (op : Nat) (a b : Int) (st : List Vl) : Option (Option Vl) :=
  bif Nat.beq op 70 then (match st with
    | [v] => bif Nat.beq v.1 b.toNat && (zyeq a 0 || (zyeq a 1 && (zyeq v.2 0 || zyeq v.2 1))) then some (some v) else none
    | _ => none)
  else bif Nat.beq op 71 then (match st with
    | [] => some none
    | _ => none)
  else none
def zySz (H : List ZCe) : Nat := (H.map (fun e => e.2.1)).sum
noncomputable def zyCl (k : ZKt) (H : List ZCe) (I : ZIv) (d y : Nat) (c : ZCo) (nx : Nat) (ls st : List Vl) (fs : List ZFr) (op : Nat) (a b : Int) : Bool :=
  match d with
  | 0 => false
  | d + 1 => (match popA op b st with
    | some x => bif (Nat.beq op 61 || (match x.1 with
        | v :: _ => Nat.beq v.1 2 && (match zyce H v.2 with
          | some e => Nat.beq e.1 (mK a.toNat)
          | none => false)
        | [] => false)) && Nat.ble (argL x.1).length (mL a.toNat) then k H I d a.toNat (kcs.getD a.toNat []) 0 (initL x.1 (mL a.toNat)) [] ((y, c, nx, ls, x.2) :: fs) else false
    | none => false)
noncomputable def zyRt (stp k : ZKt) (H : List ZCe) (I : ZIv) (d : Nat) (st : List Vl) (fs : List ZFr) (op : Nat) (a b : Int) : Bool :=
  match zyRo op a b st with
  | some r => (match fs with
    | [] => (match r with
      | some v => (Nat.beq v.1 0 && zyeq v.2 1) && (Nat.ble H.length 600000 && Nat.ble (zySz H) 7302250)
      | none => false)
    | f :: fs' => stp H I (d + 1) f.1 f.2.1 f.2.2.1 f.2.2.2.1 (pshR r f.2.2.2.2) fs' || k H I (d + 1) f.1 f.2.1 f.2.2.1 f.2.2.2.1 (pshR r f.2.2.2.2) fs')
  | none => false
noncomputable def zySt (stp k : ZKt) : ZKt := fun H I d y c pc ls st fs =>
  match zyL pc c with
  | some o =>
    bif Nat.ble 60 o.1 then (bif Nat.ble o.1 62 then zyCl k H I d y c o.2.1 ls st fs o.1 o.2.2.1 o.2.2.2.1 else zyRt stp k H I d st fs o.1 o.2.2.1 o.2.2.2.1)
    else bif Nat.ble 40 o.1 then (match zyWr T o.1 o.2.2.1 o.2.2.2.1 H st with
      | some x => k x.1 I d y c o.2.1 ls x.2 fs
      | none => false)
    else bif Nat.ble 30 o.1 then (match zyRd L o.1 o.2.2.1 o.2.2.2.1 H st with
      | some x => k H I d y c o.2.1 ls x fs
      | none => false)
    else bif Nat.ble 20 o.1 || Nat.beq o.1 11 then (match zyBr o.1 o.2.1 o.2.2.1 o.2.2.2.1 o.2.2.2.2 I st with
      | some l => l.all (fun e => k H e.1 d y c e.2.1 ls e.2.2 fs)
      | none => false)
    else (match zyP T o.1 o.2.2.1 o.2.2.2.1 ls st with
      | some x => k H I d y c o.2.1 x.1 x.2 fs
      | none => false)
  | none => false
noncomputable def zyX (stp : ZKt) (n : Nat) : ZKt := Nat.rec (fun _ _ _ _ _ _ _ _ _ => false) (fun _ ih => zySt T L stp ih) n
end ZY
