/-! THE MINI MACHINE: values (tag, number): 0 int, 1 long, 2 reference (0 null, a + 1 the cell at place a, below 0 what stands outside), 9 none; a heap is a list of cells (kind, numbers) -/
abbrev Vl : Type := Nat × Int
abbrev Hp : Type := List (Nat × List Int)
abbrev Op : Type := Nat × Nat × Int × Int × List Int
def w32 (x : Int) : Int := (x + 2147483648) % 4294967296 - 2147483648
def w64 (x : Int) : Int := (x + 9223372036854775808) % 18446744073709551616 - 9223372036854775808
def in32 (x : Int) : Prop := -2147483648 ≤ x ∧ x ≤ 2147483647
def in64 (x : Int) : Prop := -9223372036854775808 ≤ x ∧ x ≤ 9223372036854775807
def z32 (x : Int) : Nat := (x % 4294967296).toNat
def i_and (x y : Int) : Int := w32 ((z32 x &&& z32 y : Nat) : Int)
def i_or (x y : Int) : Int := w32 ((z32 x ||| z32 y : Nat) : Int)
def i_xor (x y : Int) : Int := w32 ((z32 x ^^^ z32 y : Nat) : Int)
def i_shl (x y : Int) : Int := w32 (x * 2 ^ (y % 32).toNat)
def i_shr (x y : Int) : Int := x / 2 ^ (y % 32).toNat
def i_ushr (x y : Int) : Int := w32 ((x % 4294967296) / 2 ^ (y % 32).toNat)
def z64 (x : Int) : Nat := (x % 18446744073709551616).toNat
def l_and (x y : Int) : Int := w64 ((z64 x &&& z64 y : Nat) : Int)
def l_or (x y : Int) : Int := w64 ((z64 x ||| z64 y : Nat) : Int)
/-- two ints -/
def ibin (k : Nat) (x y : Int) : Option Int :=
  if k = 0 then some (w32 (x + y)) else if k = 1 then some (w32 (x - y)) else if k = 2 then some (w32 (x * y))
  else if k = 3 then (if y = 0 then none else some (w32 (x.tdiv y))) else if k = 4 then (if y = 0 then none else some (x.tmod y))
  else if k = 5 then some (i_and x y) else if k = 6 then some (i_or x y) else if k = 7 then some (i_xor x y)
  else if k = 8 then some (i_shl x y) else if k = 9 then some (i_shr x y) else if k = 10 then some (i_ushr x y) else none
/-- two longs -/
def lbin (k : Nat) (x y : Int) : Option Int :=
  if k = 0 then some (w64 (x + y)) else if k = 1 then some (w64 (x - y)) else if k = 2 then some (w64 (x * y))
  else if k = 3 then (if y = 0 then none else some (w64 (x.tdiv y)))
  else if k = 5 then some (l_and x y) else if k = 6 then some (l_or x y) else none
def l_cmp (x y : Int) : Int := if x < y then -1 else if x = y then 0 else 1
def i_chr (x : Int) : Int := x % 65536
def i_byt (x : Int) : Int := (x + 128) % 256 - 128
/-- a local is written: what it cut through goes -/
def storeL (ls : List Vl) (i : Nat) (v : Vl) : List Vl :=
  let l1 := match i with
    | 0 => ls
    | k + 1 => if (ls.getD k (9, 0)).1 = 1 then ls.set k (9, 0) else ls
  let l2 := l1.set i v
  if v.1 = 1 then l2.set (i + 1) (9, 0) else l2
/-- instructions that don't see the heap -/
def pst (op : Nat) (a b : Int) (ls st : List Vl) : Option (List Vl × List Vl) :=
  if op = 0 then some (ls, (b.toNat, a) :: st)
  else if op = 1 then (match ls[a.toNat]? with
    | some v => if v.1 = b.toNat then some (ls, v :: st) else none
    | none => none)
  else if op = 2 then (match st with
    | v :: r => if v.1 = b.toNat ∧ a.toNat + (if v.1 = 1 then 1 else 0) < ls.length then some (storeL ls a.toNat v, r) else none
    | [] => none)
  else if op = 3 then (match ls[a.toNat]? with
    | some v => if v.1 = 0 then some (storeL ls a.toNat (0, w32 (v.2 + b)), st) else none
    | none => none)
  else if op = 4 then (match st with
    | (0, y) :: (0, x) :: r => (match ibin a.toNat x y with
      | some z => some (ls, (0, z) :: r)
      | none => none)
    | _ => none)
  else if op = 5 then (match st with
    | (1, y) :: (1, x) :: r => (match lbin a.toNat x y with
      | some z => some (ls, (1, z) :: r)
      | none => none)
    | _ => none)
  else if op = 6 then (match st with
    | (0, x) :: r => some (ls, (0, w32 (-x)) :: r)
    | _ => none)
  else if op = 7 then (match st with
    | (0, x) :: r => some (ls, (1, x) :: r)
    | _ => none)
  else if op = 8 then (match st with
    | (1, x) :: r => some (ls, (0, w32 x) :: r)
    | _ => none)
  else if op = 9 then (match st with
    | (0, x) :: r => some (ls, (0, i_byt x) :: r)
    | _ => none)
  else if op = 10 then (match st with
    | (0, x) :: r => some (ls, (0, i_chr x) :: r)
    | _ => none)
  else if op = 11 then (match st with
    | (1, y) :: (1, x) :: r => some (ls, (0, l_cmp x y) :: r)
    | _ => none)
  else if op = 12 then (match st with
    | v :: r => if v.1 = 1 then none else some (ls, v :: v :: r)
    | _ => none)
  else if op = 13 then (match st with
    | v :: u :: r => if v.1 = 1 ∨ u.1 = 1 then none else some (ls, v :: u :: v :: r)
    | _ => none)
  else if op = 14 then (match st with
    | v :: u :: r => if v.1 = 1 ∨ u.1 = 1 then none else some (ls, v :: u :: v :: u :: r)
    | _ => none)
  else if op = 15 then (match st with
    | v :: r => if v.1 = 1 then none else some (ls, r)
    | _ => none)
  else none
def cnd (k : Nat) (x y : Int) : Bool :=
  if k = 0 then x == y else if k = 1 then x != y else if k = 2 then decide (x < y) else if k = 3 then decide (y ≤ x) else if k = 4 then decide (y < x) else decide (x ≤ y)
def swt (d x : Int) : List Int → Int
  | k :: t :: r => if x = k then t else swt d x r
  | _ => d
/-- where it goes on -/
def bst (op nx : Nat) (a b : Int) (os : List Int) (st : List Vl) : Option (Nat × List Vl) :=
  if op = 20 then (match st with
    | (0, x) :: r => some (if cnd b.toNat x 0 then a.toNat else nx, r)
    | _ => none)
  else if op = 21 then (match st with
    | (0, y) :: (0, x) :: r => some (if cnd b.toNat x y then a.toNat else nx, r)
    | _ => none)
  else if op = 22 then (match st with
    | (2, x) :: r => if x = 0 ∨ 0 < x then some (if cnd b.toNat x 0 then a.toNat else nx, r) else none
    | _ => none)
  else if op = 23 then (match st with
    | (2, y) :: (2, x) :: r => if (-2 ≤ x ∧ -2 ≤ y ∧ x ≠ -1 ∧ y ≠ -1) ∨ (x = -4 ∧ y = -4) then some (if cnd b.toNat x y then a.toNat else nx, r) else none
    | _ => none)
  else if op = 24 then some (a.toNat, st)
  else if op = 25 then (match st with
    | (0, x) :: r => some ((swt a x os).toNat, r)
    | _ => none)
  else none
/-- the types of a class's fields: 0 int, 1 long, 2 reference, 3 byte, 4 boolean -/
def knds : List (List Nat) := [[0, 2, 0], [2, 2, 0, 0, 4, 0], [0, 0, 0, 0, 2, 2, 2, 2, 2, 2], [2, 2, 0, 0, 0, 2, 2, 2, 2, 2], [0, 2, 0, 0, 0, 0, 0, 0, 0, 0, 0, 0, 0, 0, 0, 0, 0, 0, 0], [0, 0, 0, 2], [0, 2, 0, 0, 0, 0, 0], [0, 2, 0, 0, 0, 0, 0, 2, 2], [2, 2], [2, 0, 2, 2, 2, 2], [0, 2, 2], [0, 0, 0, 0, 0, 0, 0, 0, 0, 0, 0, 0, 0, 0, 0, 0, 2], [0, 0, 2, 2, 2, 2, 2, 2, 2, 2, 2, 2, 2], [0, 0, 0, 2, 2, 2, 2, 2, 2, 2, 2, 2, 2, 2, 2, 2, 2, 2, 2, 2, 2, 2, 2, 2, 2, 2, 2, 2, 2, 2, 2, 2, 2, 2, 2, 2, 2, 2, 0, 2, 2, 0, 0, 0, 0, 0, 0, 0, 2, 2, 2, 2, 0, 0, 2, 2, 2, 2, 2, 2, 2, 2, 2, 2, 0, 2, 2, 2, 2, 0, 0, 0, 2, 2, 2, 2, 2, 2, 0, 2, 2, 2, 2, 2, 2, 2, 0, 0, 0, 0, 0, 2, 2, 2, 2, 2, 0]]
/-- the type of a kind's place: kinds below 14 are classes; 20 int[], 21 byte[], 22 boolean[], 23 long[], 24 Sheet[], 25 Object[], 26 int[][], 27 int[][][], 28 String[], 29 boolean[][] -/
def kty (k i : Nat) : Nat := if k < 14 then (knds.getD k []).getD i 0 else if k = 20 then 0 else if k = 21 then 3 else if k = 22 then 4 else if k = 23 then 1 else 2
/-- the tag of a value of a type -/
def tg (t : Nat) : Nat := if t = 1 then 1 else if t = 2 then 2 else 0
/-- the cell of a reference -/
def cel (hp : Hp) (r : Int) : Option (Nat × List Int) := if 0 < r then hp[r.toNat - 1]? else none
/-- the texts that stand outside -/
def txt (ss : List (List Int)) (r : Int) : Option (List Int) := if r ≤ -100 then ss[(-100 - r).toNat]? else none
/-- words on the stack -/
def wds (st : List Vl) : Nat := (st.map (fun v => if v.1 = 1 then 2 else 1)).sum
/-- the greater, the smaller of two -/
def mth (a x y : Int) : Int := if a = 0 then (if x < y then y else x) else (if y < x then y else x)
/-- instructions that read the heap: what is on the stack behind them -/
def rst (sc : List Int) (ss : List (List Int)) (op : Nat) (a b : Int) (hp : Hp) (st : List Vl) : Option (List Vl) :=
  if op = 30 then (match st with
    | (2, r) :: rest => (match cel hp r with
      | some (kd, l) => if (kd : Int) = a then (match l[b.toNat]? with
        | some x => some ((tg (kty kd b.toNat), x) :: rest)
        | none => none) else none
      | none => none)
    | _ => none)
  else if op = 31 then (match st with
    | (2, r) :: rest => if r = -1 then some ((0, (sc.length : Int)) :: rest) else if r = -2 then some ((0, 0) :: rest) else if r ≤ -100 then (match txt ss r with
        | some l => some ((0, (l.length : Int)) :: rest)
        | none => none)
      else (match cel hp r with
      | some (kd, l) => if 20 ≤ kd then some ((0, (l.length : Int)) :: rest) else none
      | none => none)
    | _ => none)
  else if op = 32 then (match st with
    | (0, i) :: (2, r) :: rest => if i < 0 then none else if r = -1 then (if a = 20 then (match sc[i.toNat]? with
        | some x => some ((0, x) :: rest)
        | none => none) else none) else if r ≤ -100 then (if a = 21 then (match txt ss r with
        | some l => (match l[i.toNat]? with
          | some x => some ((0, x) :: rest)
          | none => none)
        | none => none) else none)
      else (match cel hp r with
      | some (kd, l) => if (kd : Int) = a ∨ (a = 21 ∧ kd = 22) ∨ (a = 24 ∧ 24 ≤ kd) then (match l[i.toNat]? with
        | some x => some ((tg (kty kd 0), x) :: rest)
        | none => none) else none
      | none => none)
    | _ => none)
  else if op = 33 then (match st with
    | (2, r) :: rest => if r ≤ -10 ∧ -33 < r then (if b = 0 then some ((2, r - 90) :: rest) else some ((0, 0) :: rest)) else none
    | _ => none)
  else if op = 34 then (match st with
    | (2, r) :: rest => if r = 0 then some st else (match cel hp r with
      | some (kd, _) => if (kd : Int) = a then some st else none
      | none => none)
    | _ => none)
  else if op = 35 then (match st with
    | (2, r) :: rest => if 0 < r ∧ wds rest ≤ 8 then some rest else none
    | _ => none)
  else if op = 36 then (match st with
    | (0, y) :: (0, x) :: rest => if wds rest ≤ 8 then some ((0, mth a x y) :: rest) else none
    | _ => none)
  else if op = 37 then (match st with
    | (1, y) :: (1, x) :: rest => if wds rest ≤ 8 then some ((1, mth a x y) :: rest) else none
    | _ => none)
  else if op = 38 then some ((if a = 0 then (0, 1) else (2, -3)) :: st)
  else if op = 39 then (if a = 0 then some ((2, -4) :: st) else (match st with
    | (2, r) :: rest => (match cel hp r with
      | some (kd, _) => if kd = 25 ∧ wds rest ≤ 8 then some ((2, -4) :: rest) else none
      | none => none)
    | _ => none))
  else none
/-- what an array keeps of a value -/
def kept (hp : Hp) (kd : Nat) (v : Vl) : Option Int :=
  if kd = 20 then (if v.1 = 0 then some v.2 else none)
  else if kd = 21 then (if v.1 = 0 then some (i_byt v.2) else none)
  else if kd = 22 then (if v.1 = 0 ∧ (v.2 = 0 ∨ v.2 = 1) then some v.2 else none)
  else if kd = 23 then (if v.1 = 1 then some v.2 else none)
  else if kd = 24 then (if v.1 = 2 then (match cel hp v.2 with
    | some (k, _) => if k = 10 then some v.2 else none
    | none => none) else none)
  else if kd = 25 then (if v.1 = 2 then (if v.2 = 0 then some 0 else match cel hp v.2 with
    | some (k, _) => if k < 14 then some v.2 else none
    | none => none) else none)
  else if kd = 28 then (if v.1 = 2 ∧ v.2 ≤ -10 ∧ -33 < v.2 then some v.2 else none)
  else none
/-- what a field keeps of a value -/
def keptF (t : Nat) (v : Vl) : Option Int :=
  if v.1 = tg t then (if t = 4 then (if v.2 = 0 ∨ v.2 = 1 then some v.2 else none) else if t = 3 then none else some v.2) else none
def cpyL (f g : List Int) (sp dp n : Nat) : List Int := g.take dp ++ ((f.drop sp).take n ++ g.drop (dp + n))
def refsFrom (s n step : Nat) : List Int := (List.range n).map (fun i => ((s + step * i + 1 : Nat) : Int))
/-- n places of a list from sp on: nulls, or cells of one class -/
def oneK (hp : Hp) (l : List Int) (sp n : Nat) : Bool := (List.range 14).any (fun k => (List.range n).all (fun i => l.getD (sp + i) 0 == 0 || (match cel hp (l.getD (sp + i) 0) with
  | some (kd, _) => kd == k
  | none => false)))
/-- instructions that write the heap -/
def wst (op : Nat) (a b : Int) (hp : Hp) (st : List Vl) : Option (Hp × List Vl) :=
  if op = 40 then (match st with
    | v :: (2, r) :: rest => (match cel hp r with
      | some (kd, l) => if (kd : Int) = a ∧ b.toNat < l.length then (match keptF (kty kd b.toNat) v with
        | some x => some (hp.set (r.toNat - 1) (kd, l.set b.toNat x), rest)
        | none => none) else none
      | none => none)
    | _ => none)
  else if op = 41 then (match st with
    | v :: (0, i) :: (2, r) :: rest => (match cel hp r with
      | some (kd, l) => if 0 ≤ i ∧ i.toNat < l.length ∧ ((kd : Int) = a ∨ (a = 21 ∧ kd = 22) ∨ (a = 24 ∧ 24 ≤ kd)) then (match kept hp kd v with
        | some x => some (hp.set (r.toNat - 1) (kd, l.set i.toNat x), rest)
        | none => none) else none
      | none => none)
    | _ => none)
  else if op = 42 then some (hp ++ [(a.toNat, List.replicate b.toNat 0)], (2, ((hp.length + 1 : Nat) : Int)) :: st)
  else if op = 43 then (match st with
    | (0, n) :: rest => if 0 ≤ n ∧ n ≤ 100000 then some (hp ++ [(a.toNat, List.replicate n.toNat 0)], (2, ((hp.length + 1 : Nat) : Int)) :: rest) else none
    | _ => none)
  else if op = 44 then (match st with
    | (0, n) :: rest => if 0 ≤ n ∧ n ≤ 100000 then some (hp ++ [(a.toNat, List.replicate n.toNat 0)], (2, ((hp.length + 1 : Nat) : Int)) :: rest) else none
    | _ => none)
  else if op = 45 then (match st with
    | (0, m) :: (0, n) :: rest => if 0 ≤ n ∧ n ≤ 1000 ∧ 0 ≤ m ∧ m ≤ 1000 then
        some (hp ++ (a.toNat, refsFrom (hp.length + 1) n.toNat 1) :: List.replicate n.toNat (b.toNat, List.replicate m.toNat 0), (2, ((hp.length + 1 : Nat) : Int)) :: rest) else none
    | _ => none)
  else if op = 46 then (match st with
    | (0, k) :: (0, m) :: (0, n) :: rest => if 0 ≤ n ∧ n ≤ 1000 ∧ 0 ≤ m ∧ m ≤ 1000 ∧ 0 ≤ k ∧ k ≤ 1000 then
        some (hp ++ (a.toNat, refsFrom (hp.length + 1) n.toNat (m.toNat + 1)) :: (List.range n.toNat).flatMap (fun i => (b.toNat, refsFrom (hp.length + 2 + (m.toNat + 1) * i) m.toNat 1) :: List.replicate m.toNat (20, List.replicate k.toNat 0)), (2, ((hp.length + 1 : Nat) : Int)) :: rest) else none
    | _ => none)
  else if op = 47 then (match st with
    | (0, n) :: (0, dp) :: (2, d) :: (0, sp) :: (2, s) :: rest => (match cel hp s, cel hp d with
      | some (ks, ls), some (kd, ld) => if ((ks = 20 ∧ kd = 20) ∨ (ks = 25 ∧ kd = 25 ∧ oneK hp ls sp.toNat n.toNat = true)) ∧ wds rest ≤ 8 ∧ 0 ≤ n ∧ 0 ≤ dp ∧ 0 ≤ sp ∧ sp + n ≤ ls.length ∧ dp + n ≤ ld.length then
          some (hp.set (d.toNat - 1) (kd, cpyL ls ld sp.toNat dp.toNat n.toNat), rest) else none
      | _, _ => none)
    | _ => none)
  else if op = 48 then (match st with
    | (2, r) :: rest => (match cel hp r with
      | some (kd, l) => if kd = 20 ∧ wds rest ≤ 8 then some (hp ++ [(kd, l)], (2, ((hp.length + 1 : Nat) : Int)) :: rest) else none
      | none => none)
    | _ => none)
  else none
/-- the operands of a call: n arguments, the receiver below them if there is one -/
def popA (op : Nat) (b : Int) (st : List Vl) : Option (List Vl × List Vl) :=
  let n := b.toNat + (if op = 61 then 0 else 1)
  if n ≤ st.length ∧ wds (st.drop n) ≤ 8 then some ((st.take n).reverse, st.drop n) else none
/-- a receiver is a cell of its class -/
def rcv (op : Nat) (k : Nat) (hp : Hp) (as : List Vl) : Prop := op = 61 ∨ (∃ r l t, as = (2, r) :: t ∧ cel hp r = some (k, l)) ∨ (k = 98 ∧ ∃ r t, as = (2, r) :: t ∧ r ≤ -10 ∧ -33 < r)
def pshR (r : Option Vl) (st : List Vl) : List Vl := match r with
  | some v => v :: st
  | none => st
def retOf (op : Nat) (a b : Int) (st : List Vl) : Option (Option Vl) :=
  if op = 70 then (match st with
    | [v] => if v.1 = b.toNat ∧ (a = 1 → v.2 = 0 ∨ v.2 = 1) ∧ (a = 2 → 0 ≤ v.2 ∧ v.2 ≤ 65535) ∧ (a = 3 → -128 ≤ v.2 ∧ v.2 ≤ 127) then some (some v) else none
    | _ => none)
  else if op = 71 then (match st with
    | [] => some none
    | _ => none)
  else none
/-- the locals of a method's start -/
def argL : List Vl → List Vl
  | [] => []
  | v :: t => if v.1 = 1 then v :: (9, 0) :: argL t else v :: argL t
def initL (as : List Vl) (n : Nat) : List Vl := argL as ++ List.replicate (n - (argL as).length) (9, 0)
section EX
variable (cd : Nat → Nat → Option Op) (mk : Nat → Nat) (sc : List Int) (ss : List (List Int))
/-- n steps of a method's code, from pc, with calls by 'cal', end with the answer r and the heap h -/
def Ex (cal : Nat → List Vl → Hp → Option Vl → Hp → Prop) (y : Nat) : Nat → Nat → List Vl → List Vl → Hp → Option Vl → Hp → Prop
  | 0, _, _, _, _, _, _ => False
  | n + 1, pc, ls, st, hp, r, h => ∃ op nx a b os, cd y pc = some (op, nx, a, b, os) ∧
    ((op < 20 ∧ ∃ ls' st', pst op a b ls st = some (ls', st') ∧ Ex cal y n nx ls' st' hp r h) ∨
     (20 ≤ op ∧ op < 30 ∧ ∃ p' st', bst op nx a b os st = some (p', st') ∧ Ex cal y n p' ls st' hp r h) ∨
     (30 ≤ op ∧ op < 40 ∧ ∃ st', rst sc ss op a b hp st = some st' ∧ Ex cal y n nx ls st' hp r h) ∨
     (40 ≤ op ∧ op < 60 ∧ ∃ hp' st', wst op a b hp st = some (hp', st') ∧ Ex cal y n nx ls st' hp' r h) ∨
     (60 ≤ op ∧ op < 70 ∧ ∃ as st' r1 hp1, popA op b st = some (as, st') ∧ rcv op (mk a.toNat) hp as ∧ cal a.toNat as hp r1 hp1 ∧ Ex cal y n nx ls (pshR r1 st') hp1 r h) ∨
     (70 ≤ op ∧ retOf op a b st = some r ∧ h = hp))
variable (ml : Nat → Nat)
/-- a call of method y, at most d deep -/
def Runs : Nat → Nat → List Vl → Hp → Option Vl → Hp → Prop
  | 0 => fun _ _ _ _ _ => False
  | d + 1 => fun y as hp r h => (argL as).length ≤ ml y ∧ ∃ n, Ex cd mk sc ss (Runs d) y n 0 (initL as (ml y)) [] hp r h
end EX
