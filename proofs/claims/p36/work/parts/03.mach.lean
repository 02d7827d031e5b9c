/-! joined: 03.mach 04.nums 05.rel 05.zdec 06.pure 07.pst 08.branch 09.world 10.read 11.grow 12.write 13.store 14.alloc 15.multi 16.mworld 17.mstep 18.write2 19.ok 20.moved 21.sound 22.run -/
section
/-! THE MINI MACHINE: values (tag, number): 0 int, 1 long, 2 reference (0 null, a + 1 the cell at place a, below 0 what stands outside), 9 none; a heap is a list of cells (kind, numbers) -/
abbrev Vl : Type := Nat × Int
abbrev Hp : Type := List (Nat × List Int)
abbrev Op : Type := Nat × Nat × Int × Int × List Int
def w32 (x : Int) : Int := (x + 2147483648) % 4294967296 - 2147483648
def w64 (x : Int) : Int := (x + 9223372036854775808) % 18446744073709551616 - 9223372036854775808
def in32 (x : Int) : Prop := -2147483648 ≤ x ∧ x ≤ 2147483647
def in64 (x : Int) : Prop := -9223372036854775808 ≤ x ∧ x ≤ 9223372036854775807
def z32 (x : Int) : Nat := (x % 4294967296).toNat
def i_and (x y : Int) : Int := w32 ((z32 x &&& z32 y : Nat) : Int)
def i_or (x y : Int) : Int := w32 ((z32 x ||| z32 y : Nat) : Int)
def i_xor (x y : Int) : Int := w32 ((z32 x ^^^ z32 y : Nat) : Int)
def i_shl (x y : Int) : Int := w32 (x * 2 ^ (y % 32).toNat)
def i_shr (x y : Int) : Int := x / 2 ^ (y % 32).toNat
def i_ushr (x y : Int) : Int := w32 ((x % 4294967296) / 2 ^ (y % 32).toNat)
def z64 (x : Int) : Nat := (x % 18446744073709551616).toNat
def l_and (x y : Int) : Int := w64 ((z64 x &&& z64 y : Nat) : Int)
def l_or (x y : Int) : Int := w64 ((z64 x ||| z64 y : Nat) : Int)
/-- two ints -/
def ibin (k : Nat) (x y : Int) : Option Int :=
  if k = 0 then some (w32 (x + y)) else if k = 1 then some (w32 (x - y)) else if k = 2 then some (w32 (x * y))
  else if k = 3 then (if y = 0 then none else some (w32 (x.tdiv y))) else if k = 4 then (if y = 0 then none else some (x.tmod y))
  else if k = 5 then some (i_and x y) else if k = 6 then some (i_or x y) else if k = 7 then some (i_xor x y)
  else if k = 8 then some (i_shl x y) else if k = 9 then some (i_shr x y) else if k = 10 then some (i_ushr x y) else none
/-- two longs -/
def lbin (k : Nat) (x y : Int) : Option Int :=
  if k = 0 then some (w64 (x + y)) else if k = 1 then some (w64 (x - y)) else if k = 2 then some (w64 (x * y))
  else if k = 3 then (if y = 0 then none else some (w64 (x.tdiv y)))
  else if k = 5 then some (l_and x y) else if k = 6 then some (l_or x y) else none
def l_cmp (x y : Int) : Int := if x < y then -1 else if x = y then 0 else 1
def i_chr (x : Int) : Int := x % 65536
def i_byt (x : Int) : Int := (x + 128) % 256 - 128
/-- a local is written: what it cut through goes -/
def storeL (ls : List Vl) (i : Nat) (v : Vl) : List Vl :=
  let l1 := match i with
    | 0 => ls
    | k + 1 => if (ls.getD k (9, 0)).1 = 1 then ls.set k (9, 0) else ls
  let l2 := l1.set i v
  if v.1 = 1 then l2.set (i + 1) (9, 0) else l2
/-- instructions that don't see the heap -/
def pst (op : Nat) (a b : Int) (ls st : List Vl) : Option (List Vl × List Vl) :=
  if op = 0 then some (ls, (b.toNat, a) :: st)
  else if op = 1 then (match ls[a.toNat]? with
    | some v => if v.1 = b.toNat then some (ls, v :: st) else none
    | none => none)
  else if op = 2 then (match st with
    | v :: r => if v.1 = b.toNat ∧ a.toNat + (if v.1 = 1 then 1 else 0) < ls.length then some (storeL ls a.toNat v, r) else none
    | [] => none)
  else if op = 3 then (match ls[a.toNat]? with
    | some v => if v.1 = 0 then some (storeL ls a.toNat (0, w32 (v.2 + b)), st) else none
    | none => none)
  else if op = 4 then (match st with
    | (0, y) :: (0, x) :: r => (match ibin a.toNat x y with
      | some z => some (ls, (0, z) :: r)
      | none => none)
    | _ => none)
  else if op = 5 then (match st with
    | (1, y) :: (1, x) :: r => (match lbin a.toNat x y with
      | some z => some (ls, (1, z) :: r)
      | none => none)
    | _ => none)
  else if op = 6 then (match st with
    | (0, x) :: r => some (ls, (0, w32 (-x)) :: r)
    | _ => none)
  else if op = 7 then (match st with
    | (0, x) :: r => some (ls, (1, x) :: r)
    | _ => none)
  else if op = 8 then (match st with
    | (1, x) :: r => some (ls, (0, w32 x) :: r)
    | _ => none)
  else if op = 9 then (match st with
    | (0, x) :: r => some (ls, (0, i_byt x) :: r)
    | _ => none)
  else if op = 10 then (match st with
    | (0, x) :: r => some (ls, (0, i_chr x) :: r)
    | _ => none)
  else if op = 11 then (match st with
    | (1, y) :: (1, x) :: r => some (ls, (0, l_cmp x y) :: r)
    | _ => none)
  else if op = 12 then (match st with
    | v :: r => if v.1 = 1 then none else some (ls, v :: v :: r)
    | _ => none)
  else if op = 13 then (match st with
    | v :: u :: r => if v.1 = 1 ∨ u.1 = 1 then none else some (ls, v :: u :: v :: r)
    | _ => none)
  else if op = 14 then (match st with
    | v :: u :: r => if v.1 = 1 ∨ u.1 = 1 then none else some (ls, v :: u :: v :: u :: r)
    | _ => none)
  else if op = 15 then (match st with
    | v :: r => if v.1 = 1 then none else some (ls, r)
    | _ => none)
  else none
def cnd (k : Nat) (x y : Int) : Bool :=
  if k = 0 then x == y else if k = 1 then x != y else if k = 2 then decide (x < y) else if k = 3 then decide (y ≤ x) else if k = 4 then decide (y < x) else decide (x ≤ y)
def swt (d x : Int) : List Int → Int
  | k :: t :: r => if x = k then t else swt d x r
  | _ => d
/-- where it goes on -/
def bst (op nx : Nat) (a b : Int) (os : List Int) (st : List Vl) : Option (Nat × List Vl) :=
  if op = 20 then (match st with
    | (0, x) :: r => some (if cnd b.toNat x 0 then a.toNat else nx, r)
    | _ => none)
  else if op = 21 then (match st with
    | (0, y) :: (0, x) :: r => some (if cnd b.toNat x y then a.toNat else nx, r)
    | _ => none)
  else if op = 22 then (match st with
    | (2, x) :: r => if x = 0 ∨ 0 < x then some (if cnd b.toNat x 0 then a.toNat else nx, r) else none
    | _ => none)
  else if op = 23 then (match st with
    | (2, y) :: (2, x) :: r => if (-2 ≤ x ∧ -2 ≤ y ∧ x ≠ -1 ∧ y ≠ -1) ∨ (x = -4 ∧ y = -4) then some (if cnd b.toNat x y then a.toNat else nx, r) else none
    | _ => none)
  else if op = 24 then some (a.toNat, st)
  else if op = 25 then (match st with
    | (0, x) :: r => some ((swt a x os).toNat, r)
    | _ => none)
  else none
/-- the types of a class's fields: 0 int, 1 long, 2 reference, 3 byte, 4 boolean -/
def knds : List (List Nat) := [[0, 2, 0], [2, 2, 0, 0, 4, 0], [0, 0, 0, 0, 2, 2, 2, 2, 2, 2], [2, 2, 0, 0, 0, 2, 2, 2, 2, 2], [0, 2, 0, 0, 0, 0, 0, 0, 0, 0, 0, 0, 0, 0, 0, 0, 0, 0, 0], [0, 0, 0, 2], [0, 2, 0, 0, 0, 0, 0], [0, 2, 0, 0, 0, 0, 0, 2, 2], [2, 2], [2, 0, 2, 2, 2, 2], [0, 2, 2], [0, 0, 0, 0, 0, 0, 0, 0, 0, 0, 0, 0, 0, 0, 0, 0, 2], [0, 0, 2, 2, 2, 2, 2, 2, 2, 2, 2, 2, 2], [0, 0, 0, 2, 2, 2, 2, 2, 2, 2, 2, 2, 2, 2, 2, 2, 2, 2, 2, 2, 2, 2, 2, 2, 2, 2, 2, 2, 2, 2, 2, 2, 2, 2, 2, 2, 2, 2, 0, 2, 2, 0, 0, 0, 0, 0, 0, 0, 2, 2, 2, 2, 0, 0, 2, 2, 2, 2, 2, 2, 2, 2, 2, 2, 0, 2, 2, 2, 2, 0, 0, 0, 2, 2, 2, 2, 2, 2, 0, 2, 2, 2, 2, 2, 2, 2, 0, 0, 0, 0, 0, 2, 2, 2, 2, 2, 0]]
/-- the type of a kind's place: kinds below 14 are classes; 20 int[], 21 byte[], 22 boolean[], 23 long[], 24 Sheet[], 25 Object[], 26 int[][], 27 int[][][], 28 String[], 29 boolean[][] -/
def kty (k i : Nat) : Nat := if k < 14 then (knds.getD k []).getD i 0 else if k = 20 then 0 else if k = 21 then 3 else if k = 22 then 4 else if k = 23 then 1 else 2
/-- the tag of a value of a type -/
def tg (t : Nat) : Nat := if t = 1 then 1 else if t = 2 then 2 else 0
/-- the cell of a reference -/
def cel (hp : Hp) (r : Int) : Option (Nat × List Int) := if 0 < r then hp[r.toNat - 1]? else none
/-- the texts that stand outside -/
def txt (ss : List (List Int)) (r : Int) : Option (List Int) := if r ≤ -100 then ss[(-100 - r).toNat]? else none
/-- words on the stack -/
def wds (st : List Vl) : Nat := (st.map (fun v => if v.1 = 1 then 2 else 1)).sum
/-- the greater, the smaller of two -/
def mth (a x y : Int) : Int := if a = 0 then (if x < y then y else x) else (if y < x then y else x)
/-- instructions that read the heap: what is on the stack behind them -/
def rst (sc : List Int) (ss : List (List Int)) (op : Nat) (a b : Int) (hp : Hp) (st : List Vl) : Option (List Vl) :=
  if op = 30 then (match st with
    | (2, r) :: rest => (match cel hp r with
      | some (kd, l) => if (kd : Int) = a then (match l[b.toNat]? with
        | some x => some ((tg (kty kd b.toNat), x) :: rest)
        | none => none) else none
      | none => none)
    | _ => none)
  else if op = 31 then (match st with
    | (2, r) :: rest => if r = -1 then some ((0, (sc.length : Int)) :: rest) else if r = -2 then some ((0, 0) :: rest) else if r ≤ -100 then (match txt ss r with
        | some l => some ((0, (l.length : Int)) :: rest)
        | none => none)
      else (match cel hp r with
      | some (kd, l) => if 20 ≤ kd then some ((0, (l.length : Int)) :: rest) else none
      | none => none)
    | _ => none)
  else if op = 32 then (match st with
    | (0, i) :: (2, r) :: rest => if i < 0 then none else if r = -1 then (if a = 20 then (match sc[i.toNat]? with
        | some x => some ((0, x) :: rest)
        | none => none) else none) else if r ≤ -100 then (if a = 21 then (match txt ss r with
        | some l => (match l[i.toNat]? with
          | some x => some ((0, x) :: rest)
          | none => none)
        | none => none) else none)
      else (match cel hp r with
      | some (kd, l) => if (kd : Int) = a ∨ (a = 21 ∧ kd = 22) ∨ (a = 24 ∧ 24 ≤ kd) then (match l[i.toNat]? with
        | some x => some ((tg (kty kd 0), x) :: rest)
        | none => none) else none
      | none => none)
    | _ => none)
  else if op = 33 then (match st with
    | (2, r) :: rest => if r ≤ -10 ∧ -33 < r then (if b = 0 then some ((2, r - 90) :: rest) else some ((0, 0) :: rest)) else none
    | _ => none)
  else if op = 34 then (match st with
    | (2, r) :: rest => if r = 0 then some st else (match cel hp r with
      | some (kd, _) => if (kd : Int) = a then some st else none
      | none => none)
    | _ => none)
  else if op = 35 then (match st with
    | (2, r) :: rest => if 0 < r ∧ wds rest ≤ 8 then some rest else none
    | _ => none)
  else if op = 36 then (match st with
    | (0, y) :: (0, x) :: rest => if wds rest ≤ 8 then some ((0, mth a x y) :: rest) else none
    | _ => none)
  else if op = 37 then (match st with
    | (1, y) :: (1, x) :: rest => if wds rest ≤ 8 then some ((1, mth a x y) :: rest) else none
    | _ => none)
  else if op = 38 then some ((if a = 0 then (0, 1) else (2, -3)) :: st)
  else if op = 39 then (if a = 0 then some ((2, -4) :: st) else (match st with
    | (2, r) :: rest => (match cel hp r with
      | some (kd, _) => if kd = 25 ∧ wds rest ≤ 8 then some ((2, -4) :: rest) else none
      | none => none)
    | _ => none))
  else none
/-- what an array keeps of a value -/
def kept (hp : Hp) (kd : Nat) (v : Vl) : Option Int :=
  if kd = 20 then (if v.1 = 0 then some v.2 else none)
  else if kd = 21 then (if v.1 = 0 then some (i_byt v.2) else none)
  else if kd = 22 then (if v.1 = 0 ∧ (v.2 = 0 ∨ v.2 = 1) then some v.2 else none)
  else if kd = 23 then (if v.1 = 1 then some v.2 else none)
  else if kd = 24 then (if v.1 = 2 then (match cel hp v.2 with
    | some (k, _) => if k = 10 then some v.2 else none
    | none => none) else none)
  else if kd = 25 then (if v.1 = 2 then (if v.2 = 0 then some 0 else match cel hp v.2 with
    | some (k, _) => if k < 14 then some v.2 else none
    | none => none) else none)
  else if kd = 28 then (if v.1 = 2 ∧ v.2 ≤ -10 ∧ -33 < v.2 then some v.2 else none)
  else none
/-- what a field keeps of a value -/
def keptF (t : Nat) (v : Vl) : Option Int :=
  if v.1 = tg t then (if t = 4 then (if v.2 = 0 ∨ v.2 = 1 then some v.2 else none) else if t = 3 then none else some v.2) else none
def cpyL (f g : List Int) (sp dp n : Nat) : List Int := g.take dp ++ ((f.drop sp).take n ++ g.drop (dp + n))
def refsFrom (s n step : Nat) : List Int := (List.range n).map (fun i => ((s + step * i + 1 : Nat) : Int))
/-- n places of a list from sp on: nulls, or cells of one class -/
def oneK (hp : Hp) (l : List Int) (sp n : Nat) : Bool := (List.range 14).any (fun k => (List.range n).all (fun i => l.getD (sp + i) 0 == 0 || (match cel hp (l.getD (sp + i) 0) with
  | some (kd, _) => kd == k
  | none => false)))
/-- instructions that write the heap -/
def wst (op : Nat) (a b : Int) (hp : Hp) (st : List Vl) : Option (Hp × List Vl) :=
  if op = 40 then (match st with
    | v :: (2, r) :: rest => (match cel hp r with
      | some (kd, l) => if (kd : Int) = a ∧ b.toNat < l.length then (match keptF (kty kd b.toNat) v with
        | some x => some (hp.set (r.toNat - 1) (kd, l.set b.toNat x), rest)
        | none => none) else none
      | none => none)
    | _ => none)
  else if op = 41 then (match st with
    | v :: (0, i) :: (2, r) :: rest => (match cel hp r with
      | some (kd, l) => if 0 ≤ i ∧ i.toNat < l.length ∧ ((kd : Int) = a ∨ (a = 21 ∧ kd = 22) ∨ (a = 24 ∧ 24 ≤ kd)) then (match kept hp kd v with
        | some x => some (hp.set (r.toNat - 1) (kd, l.set i.toNat x), rest)
        | none => none) else none
      | none => none)
    | _ => none)
  else if op = 42 then some (hp ++ [(a.toNat, List.replicate b.toNat 0)], (2, ((hp.length + 1 : Nat) : Int)) :: st)
  else if op = 43 then (match st with
    | (0, n) :: rest => if 0 ≤ n ∧ n ≤ 100000 then some (hp ++ [(a.toNat, List.replicate n.toNat 0)], (2, ((hp.length + 1 : Nat) : Int)) :: rest) else none
    | _ => none)
  else if op = 44 then (match st with
    | (0, n) :: rest => if 0 ≤ n ∧ n ≤ 100000 then some (hp ++ [(a.toNat, List.replicate n.toNat 0)], (2, ((hp.length + 1 : Nat) : Int)) :: rest) else none
    | _ => none)
  else if op = 45 then (match st with
    | (0, m) :: (0, n) :: rest => if 0 ≤ n ∧ n ≤ 1000 ∧ 0 ≤ m ∧ m ≤ 1000 then
        some (hp ++ (a.toNat, refsFrom (hp.length + 1) n.toNat 1) :: List.replicate n.toNat (b.toNat, List.replicate m.toNat 0), (2, ((hp.length + 1 : Nat) : Int)) :: rest) else none
    | _ => none)
  else if op = 46 then (match st with
    | (0, k) :: (0, m) :: (0, n) :: rest => if 0 ≤ n ∧ n ≤ 1000 ∧ 0 ≤ m ∧ m ≤ 1000 ∧ 0 ≤ k ∧ k ≤ 1000 then
        some (hp ++ (a.toNat, refsFrom (hp.length + 1) n.toNat (m.toNat + 1)) :: (List.range n.toNat).flatMap (fun i => (b.toNat, refsFrom (hp.length + 2 + (m.toNat + 1) * i) m.toNat 1) :: List.replicate m.toNat (20, List.replicate k.toNat 0)), (2, ((hp.length + 1 : Nat) : Int)) :: rest) else none
    | _ => none)
  else if op = 47 then (match st with
    | (0, n) :: (0, dp) :: (2, d) :: (0, sp) :: (2, s) :: rest => (match cel hp s, cel hp d with
      | some (ks, ls), some (kd, ld) => if ((ks = 20 ∧ kd = 20) ∨ (ks = 25 ∧ kd = 25 ∧ oneK hp ls sp.toNat n.toNat = true)) ∧ wds rest ≤ 8 ∧ 0 ≤ n ∧ 0 ≤ dp ∧ 0 ≤ sp ∧ sp + n ≤ ls.length ∧ dp + n ≤ ld.length then
          some (hp.set (d.toNat - 1) (kd, cpyL ls ld sp.toNat dp.toNat n.toNat), rest) else none
      | _, _ => none)
    | _ => none)
  else if op = 48 then (match st with
    | (2, r) :: rest => (match cel hp r with
      | some (kd, l) => if kd = 20 ∧ wds rest ≤ 8 then some (hp ++ [(kd, l)], (2, ((hp.length + 1 : Nat) : Int)) :: rest) else none
      | none => none)
    | _ => none)
  else none
/-- the operands of a call: n arguments, the receiver below them if there is one -/
def popA (op : Nat) (b : Int) (st : List Vl) : Option (List Vl × List Vl) :=
  let n := b.toNat + (if op = 61 then 0 else 1)
  if n ≤ st.length ∧ wds (st.drop n) ≤ 8 then some ((st.take n).reverse, st.drop n) else none
/-- a receiver is a cell of its class -/
def rcv (op : Nat) (k : Nat) (hp : Hp) (as : List Vl) : Prop := op = 61 ∨ (∃ r l t, as = (2, r) :: t ∧ cel hp r = some (k, l)) ∨ (k = 98 ∧ ∃ r t, as = (2, r) :: t ∧ r ≤ -10 ∧ -33 < r)
def pshR (r : Option Vl) (st : List Vl) : List Vl := match r with
  | some v => v :: st
  | none => st
def retOf (op : Nat) (a b : Int) (st : List Vl) : Option (Option Vl) :=
  if op = 70 then (match st with
    | [v] => if v.1 = b.toNat ∧ (a = 1 → v.2 = 0 ∨ v.2 = 1) ∧ (a = 2 → 0 ≤ v.2 ∧ v.2 ≤ 65535) ∧ (a = 3 → -128 ≤ v.2 ∧ v.2 ≤ 127) then some (some v) else none
    | _ => none)
  else if op = 71 then (match st with
    | [] => some none
    | _ => none)
  else none
/-- the locals of a method's start -/
def argL : List Vl → List Vl
  | [] => []
  | v :: t => if v.1 = 1 then v :: (9, 0) :: argL t else v :: argL t
def initL (as : List Vl) (n : Nat) : List Vl := argL as ++ List.replicate (n - (argL as).length) (9, 0)
section EX
variable (cd : Nat → Nat → Option Op) (mk : Nat → Nat) (sc : List Int) (ss : List (List Int))
/-- n steps of a method's code, from pc, with calls by 'cal', end with the answer r and the heap h -/
def Ex (cal : Nat → List Vl → Hp → Option Vl → Hp → Prop) (y : Nat) : Nat → Nat → List Vl → List Vl → Hp → Option Vl → Hp → Prop
  | 0, _, _, _, _, _, _ => False
  | n + 1, pc, ls, st, hp, r, h => ∃ op nx a b os, cd y pc = some (op, nx, a, b, os) ∧
    ((op < 20 ∧ ∃ ls' st', pst op a b ls st = some (ls', st') ∧ Ex cal y n nx ls' st' hp r h) ∨
     (20 ≤ op ∧ op < 30 ∧ ∃ p' st', bst op nx a b os st = some (p', st') ∧ Ex cal y n p' ls st' hp r h) ∨
     (30 ≤ op ∧ op < 40 ∧ ∃ st', rst sc ss op a b hp st = some st' ∧ Ex cal y n nx ls st' hp r h) ∨
     (40 ≤ op ∧ op < 60 ∧ ∃ hp' st', wst op a b hp st = some (hp', st') ∧ Ex cal y n nx ls st' hp' r h) ∨
     (60 ≤ op ∧ op < 70 ∧ ∃ as st' r1 hp1, popA op b st = some (as, st') ∧ rcv op (mk a.toNat) hp as ∧ cal a.toNat as hp r1 hp1 ∧ Ex cal y n nx ls (pshR r1 st') hp1 r h) ∨
     (70 ≤ op ∧ retOf op a b st = some r ∧ h = hp))
variable (ml : Nat → Nat)
/-- a call of method y, at most d deep -/
def Runs : Nat → Nat → List Vl → Hp → Option Vl → Hp → Prop
  | 0 => fun _ _ _ _ _ => False
  | d + 1 => fun y as hp r h => (argL as).length ≤ ml y ∧ ∃ n, Ex cd mk sc ss (Runs d) y n 0 (initL as (ml y)) [] hp r h
end EX
end
section
/-! numbers of the mini machine against the machine's -/
theorem w32_bmod (x : Int) : w32 x = x.bmod 4294967296 := by
  unfold w32
  rw [Int.bmod_def]
  split <;> omega
theorem w64_bmod (x : Int) : w64 x = x.bmod 18446744073709551616 := by
  unfold w64
  rw [Int.bmod_def]
  split <;> omega
theorem w32_in (x : Int) : in32 (w32 x) := by unfold w32 in32; omega
theorem w64_in (x : Int) : in64 (w64 x) := by unfold w64 in64; omega
theorem w32_id {x : Int} (h : in32 x) : w32 x = x := by unfold w32; unfold in32 at h; omega
theorem w64_id {x : Int} (h : in64 x) : w64 x = x := by unfold w64; unfold in64 at h; omega
theorem toI {x : Int} (h : in32 x) : (Int32.ofInt x).toInt = x := by
  rw [Int32.toInt_ofInt]
  have := w32_bmod x
  rw [w32_id h] at this
  exact this.symm
theorem toL {x : Int} (h : in64 x) : (Int64.ofInt x).toInt = x := by
  rw [Int64.toInt_ofInt]
  have := w64_bmod x
  rw [w64_id h] at this
  exact this.symm
theorem ofI_w (x : Int) : Int32.ofInt (w32 x) = Int32.ofInt x := by
  apply Int32.toInt_inj.mp
  rw [toI (w32_in x), Int32.toInt_ofInt, w32_bmod]
theorem ofL_w (x : Int) : Int64.ofInt (w64 x) = Int64.ofInt x := by
  apply Int64.toInt_inj.mp
  rw [toL (w64_in x), Int64.toInt_ofInt, w64_bmod]
theorem n_add (x y : Int) : Int32.ofInt x + Int32.ofInt y = Int32.ofInt (w32 (x + y)) := by rw [ofI_w, Int32.ofInt_add]
theorem n_sub (x y : Int) : Int32.ofInt x - Int32.ofInt y = Int32.ofInt (w32 (x - y)) := by rw [ofI_w, Int32.ofInt_sub]
theorem n_mul (x y : Int) : Int32.ofInt x * Int32.ofInt y = Int32.ofInt (w32 (x * y)) := by rw [ofI_w, Int32.ofInt_mul]
theorem n_neg (x : Int) : -Int32.ofInt x = Int32.ofInt (w32 (-x)) := by rw [ofI_w, Int32.ofInt_neg]
theorem m_add (x y : Int) : Int64.ofInt x + Int64.ofInt y = Int64.ofInt (w64 (x + y)) := by rw [ofL_w, Int64.ofInt_add]
theorem m_sub (x y : Int) : Int64.ofInt x - Int64.ofInt y = Int64.ofInt (w64 (x - y)) := by rw [ofL_w, Int64.ofInt_sub]
theorem m_mul (x y : Int) : Int64.ofInt x * Int64.ofInt y = Int64.ofInt (w64 (x * y)) := by rw [ofL_w, Int64.ofInt_mul]
theorem n_div {x y : Int} (hx : in32 x) (hy : in32 y) : Int32.ofInt x / Int32.ofInt y = Int32.ofInt (w32 (x.tdiv y)) := by
  apply Int32.toInt_inj.mp
  rw [Int32.toInt_div, toI hx, toI hy, toI (w32_in _), w32_bmod]
theorem m_div {x y : Int} (hx : in64 x) (hy : in64 y) : Int64.ofInt x / Int64.ofInt y = Int64.ofInt (w64 (x.tdiv y)) := by
  apply Int64.toInt_inj.mp
  rw [Int64.toInt_div, toL hx, toL hy, toL (w64_in _), w64_bmod]
theorem n_rem {x y : Int} (hx : in32 x) (hy : in32 y) : Int32.ofInt x - Int32.ofInt x / Int32.ofInt y * Int32.ofInt y = Int32.ofInt (x.tmod y) := by
  rw [n_div hx hy, ofI_w, ← Int32.ofInt_mul, ← Int32.ofInt_sub]
  congr 1
  have := Int.tmod_add_mul_tdiv x y
  rw [Int.mul_comm] at this
  omega
theorem tmod_in {x y : Int} (hx : in32 x) : in32 (x.tmod y) := by
  unfold in32 at *
  have h2 : (x.tmod y).natAbs ≤ x.natAbs := by
    rw [Int.natAbs_tmod]
    exact Nat.mod_le _ _
  rcases Int.le_total 0 x with h | h
  · have h1 := Int.tmod_nonneg y h
    omega
  · have h3 : x.tmod y ≤ 0 := by
      have := Int.tmod_nonneg y (show 0 ≤ -x by omega)
      rw [Int.neg_tmod] at this
      omega
    omega
theorem n_ne0 {y : Int} (hy : in32 y) (h : ¬ y = 0) : ¬ Int32.ofInt y = 0 := fun e => h (by
  have := congrArg Int32.toInt e
  rw [toI hy] at this
  exact this)
theorem m_ne0 {y : Int} (hy : in64 y) (h : ¬ y = 0) : ¬ Int64.ofInt y = 0 := fun e => h (by
  have := congrArg Int64.toInt e
  rw [toL hy] at this
  exact this)
theorem n_eq {x y : Int} (hx : in32 x) (hy : in32 y) : Int32.ofInt x = Int32.ofInt y ↔ x = y := by
  rw [← Int32.toInt_inj, toI hx, toI hy]
theorem n_lt {x y : Int} (hx : in32 x) (hy : in32 y) : Int32.ofInt x < Int32.ofInt y ↔ x < y := by
  rw [Int32.lt_iff_toInt_lt, toI hx, toI hy]
theorem n_le {x y : Int} (hx : in32 x) (hy : in32 y) : Int32.ofInt x ≤ Int32.ofInt y ↔ x ≤ y := by
  rw [Int32.le_iff_toInt_le, toI hx, toI hy]
theorem m_eq {x y : Int} (hx : in64 x) (hy : in64 y) : Int64.ofInt x = Int64.ofInt y ↔ x = y := by
  rw [← Int64.toInt_inj, toL hx, toL hy]
theorem m_lt {x y : Int} (hx : in64 x) (hy : in64 y) : Int64.ofInt x < Int64.ofInt y ↔ x < y := by
  rw [Int64.lt_iff_toInt_lt, toL hx, toL hy]
theorem z_bv (x : Int) : (Int32.ofInt x).toBitVec.toNat = z32 x := by
  rw [Int32.toBitVec_ofInt, BitVec.toNat_ofInt]
  rfl
theorem z_of {n : Nat} (h : n < 4294967296) : z32 (n : Int) = n := by unfold z32; omega
theorem n_bv {v : Int32} {n : Nat} (h : v.toBitVec.toNat = n) : v = Int32.ofInt (w32 (n : Int)) := by
  apply Int32.toBitVec_inj.mp
  apply BitVec.eq_of_toNat_eq
  rw [ofI_w, z_bv, h]
  exact (z_of (by rw [← h]; exact v.toBitVec.isLt)).symm
theorem n_and (x y : Int) : Int32.ofInt x &&& Int32.ofInt y = Int32.ofInt (i_and x y) := by
  apply n_bv
  rw [Int32.toBitVec_and, BitVec.toNat_and, z_bv, z_bv]
theorem n_or (x y : Int) : Int32.ofInt x ||| Int32.ofInt y = Int32.ofInt (i_or x y) := by
  apply n_bv
  rw [Int32.toBitVec_or, BitVec.toNat_or, z_bv, z_bv]
theorem n_xor (x y : Int) : Int32.ofInt x ^^^ Int32.ofInt y = Int32.ofInt (i_xor x y) := by
  apply n_bv
  rw [Int32.toBitVec_xor, BitVec.toNat_xor, z_bv, z_bv]
theorem n_sh31 (y : Int) : ((Int32.ofInt y &&& 31).toBitVec.smod 32).toNat = (y % 32).toNat := by
  have h : Int32.ofInt y &&& 31 = nI ((Int32.ofInt y).toBitVec.toNat % 2 ^ 5) := pk_and (Int32.ofInt y) 5 (by decide)
  have hz : (Int32.ofInt y).toBitVec.toNat % 2 ^ 5 = (y % 32).toNat := by
    rw [z_bv]
    unfold z32
    omega
  rw [h, hz]
  have hl : (y % 32).toNat < 32 := by omega
  generalize (y % 32).toNat = n at hl ⊢
  have key : ∀ n, n < 32 → ((nI n).toBitVec.smod 32).toNat = n := by decide +kernel
  exact key n hl
theorem n_ush31 (y : Int) : (((Int32.ofInt y).toUInt32 &&& Int32.toUInt32 31).toBitVec % 32).toNat = (y % 32).toNat := by
  have e : ((Int32.ofInt y).toUInt32 &&& Int32.toUInt32 31).toBitVec.toNat = z32 y % 32 := by
    show ((Int32.ofInt y).toBitVec &&& (31#32)).toNat = _
    rw [BitVec.toNat_and, z_bv]
    exact Nat.and_two_pow_sub_one_eq_mod (z32 y) 5
  rw [BitVec.toNat_umod, e]
  show z32 y % 32 % 32 = _
  unfold z32
  omega
theorem n_shl (x y : Int) : Int32.ofInt x <<< (Int32.ofInt y &&& 31) = Int32.ofInt (i_shl x y) := by
  unfold i_shl
  rw [ofI_w]
  apply Int32.toBitVec_inj.mp
  apply BitVec.eq_of_toNat_eq
  rw [pk_shl _ _ _ (n_sh31 y), z_bv, z_bv]
  unfold z32
  generalize (y % 32).toNat = k
  have hp : (0 : Int) < 2 ^ k := Int.pow_pos (by decide)
  have e : ((x % 4294967296).toNat * 2 ^ k : Nat) % 4294967296 = ((x % 4294967296) * 2 ^ k % 4294967296).toNat := by
    have h0 : 0 ≤ x % 4294967296 := Int.emod_nonneg _ (by decide)
    have e1 : (((x % 4294967296).toNat * 2 ^ k : Nat) : Int) = (x % 4294967296) * 2 ^ k := by
      rw [Int.natCast_mul, Int.toNat_of_nonneg h0, Int.natCast_pow]
      rfl
    rw [← e1]
    omega
  rw [show (2 ^ 32 : Nat) = 4294967296 from rfl, e, Int.mul_emod (x % 4294967296), Int.emod_emod, ← Int.mul_emod]
theorem n_shr {x : Int} (hx : in32 x) (y : Int) : Int32.ofInt x >>> (Int32.ofInt y &&& 31) = Int32.ofInt (i_shr x y) := by
  have hk := n_sh31 y
  have h := pk_shr (Int32.ofInt x) (Int32.ofInt y &&& 31) _ hk
  rw [toI hx, Int.shiftRight_eq_div_pow] at h
  apply Int32.toInt_inj.mp
  rw [h]
  unfold i_shr
  rw [toI]
  · rw [Int.natCast_pow]
    rfl
  · unfold in32 at *
    have hp : (0 : Int) < 2 ^ (y % 32).toNat := Int.pow_pos (by decide)
    generalize (2 : Int) ^ (y % 32).toNat = d at hp
    rcases (show x < 0 ∨ 0 ≤ x by omega) with h0 | h0
    · have h1 : x / d < 0 := Int.ediv_neg_of_neg_of_pos h0 hp
      have h2 : x ≤ x / d := (Int.le_ediv_iff_mul_le hp).mpr (by
        have := Int.mul_le_mul_of_nonpos_left (show x ≤ 0 by omega) (show (1 : Int) ≤ d by omega)
        omega)
      omega
    · have h1 : 0 ≤ x / d := Int.ediv_nonneg h0 (by omega)
      have h2 : x / d ≤ x := Int.ediv_le_self d h0
      omega
theorem n_ushr (x y : Int) : ((Int32.ofInt x).toUInt32 >>> ((Int32.ofInt y).toUInt32 &&& Int32.toUInt32 31)).toInt32 = Int32.ofInt (i_ushr x y) := by
  have h := pk_ushr (Int32.ofInt x) (Int32.ofInt y) _ (n_ush31 y)
  have h2 := n_bv h
  rw [h2, z_bv]
  unfold i_ushr z32
  congr 2
  have h0 : 0 ≤ x % 4294967296 := Int.emod_nonneg _ (by decide)
  rw [Int.natCast_ediv, Int.toNat_of_nonneg h0, Int.natCast_pow]
  rfl
theorem z_bvL (x : Int) : (Int64.ofInt x).toBitVec.toNat = z64 x := by
  rw [Int64.toBitVec_ofInt, BitVec.toNat_ofInt]
  rfl
theorem z_ofL {n : Nat} (h : n < 18446744073709551616) : z64 (n : Int) = n := by unfold z64; omega
theorem m_bv {v : Int64} {n : Nat} (h : v.toBitVec.toNat = n) : v = Int64.ofInt (w64 (n : Int)) := by
  apply Int64.toBitVec_inj.mp
  apply BitVec.eq_of_toNat_eq
  rw [ofL_w, z_bvL, h]
  exact (z_ofL (by rw [← h]; exact v.toBitVec.isLt)).symm
theorem m_and (x y : Int) : Int64.ofInt x &&& Int64.ofInt y = Int64.ofInt (l_and x y) := by
  apply m_bv
  rw [Int64.toBitVec_and, BitVec.toNat_and, z_bvL, z_bvL]
theorem m_or (x y : Int) : Int64.ofInt x ||| Int64.ofInt y = Int64.ofInt (l_or x y) := by
  apply m_bv
  rw [Int64.toBitVec_or, BitVec.toNat_or, z_bvL, z_bvL]
theorem n_i2l {x : Int} (h : in32 x) : (Int32.ofInt x).toInt64 = Int64.ofInt x := by
  apply Int64.toInt_inj.mp
  rw [Int32.toInt_toInt64, toI h, toL (by unfold in32 at h; unfold in64; omega)]
theorem n_l2i (x : Int) : (Int64.ofInt x).toInt32 = Int32.ofInt (w32 x) := by
  rw [ofI_w]
  apply Int32.toBitVec_inj.mp
  apply BitVec.eq_of_toNat_eq
  rw [z_bv, Int64.toBitVec_toInt32, BitVec.signExtend_eq_setWidth_of_le _ (by decide), BitVec.toNat_setWidth, z_bvL]
  unfold z32 z64
  omega
theorem n_i2b (x : Int) : (Int32.ofInt x).toInt8.toInt32 = Int32.ofInt (i_byt x) := by
  have hb : in32 (i_byt x) := by unfold in32 i_byt; omega
  apply Int32.toInt_inj.mp
  rw [Int8.toInt_toInt32, toI hb, Int32.toInt_toInt8, Int32.toInt_ofInt]
  unfold i_byt
  rw [show (Int32.size) = 4294967296 from rfl, Int.bmod_def, Int.bmod_def]
  split <;> split <;> omega
theorem n_i2c (x : Int) : ((Int32.ofInt x).toUInt32 % 65536).toInt32 = Int32.ofInt (i_chr x) := by
  rw [pk_char, z_bv]
  unfold i_chr z32 nI
  rw [show x % 65536 = (((x % 4294967296).toNat % 2 ^ 16 : Nat) : Int) by omega]
  rfl
theorem nI_of32 {x : Int} (h : 0 ≤ x) : Int32.ofInt x = nI x.toNat := by
  unfold nI
  rw [show x = ((x.toNat : Nat) : Int) by omega]
  rfl
theorem cl_of {x : Int} (h0 : 0 ≤ x) (h : in32 x) : (Int32.ofInt x).toNatClampNeg = x.toNat := by
  show (Int32.ofInt x).toInt.toNat = _
  rw [toI h]
theorem vp_in_of' {x : Int} {n : Nat} (h0 : 0 ≤ x) (h : in32 x) (hn : x.toNat < n) : vp_in (Int32.ofInt x) n := by
  rw [vp_in_iff, toI h]
  omega
end
section
/-! values and locals of the mini machine against the machine's -/
def toV (rf : Int → Option Nat) (v : Vl) : Value := if v.1 = 0 then .int (Int32.ofInt v.2) else if v.1 = 1 then .long (Int64.ofInt v.2) else va_rf (rf v.2)
def okV (n : Nat) (v : Vl) : Prop := (v.1 = 0 ∧ in32 v.2) ∨ (v.1 = 1 ∧ in64 v.2) ∨ (v.1 = 2 ∧ v.2 ≤ n)
def okL (n : Nat) (ls : List Vl) : Prop := ∀ v ∈ ls, v.1 = 9 ∨ okV n v
def okS (n : Nat) (st : List Vl) : Prop := ∀ v ∈ st, okV n v
theorem okV.mono {n k : Nat} {v : Vl} (h : okV n v) (hk : n ≤ k) : okV k v := by
  rcases h with h | h | h
  · exact Or.inl h
  · exact Or.inr (Or.inl h)
  · exact Or.inr (Or.inr ⟨h.1, by omega⟩)
theorem okL.mono {n k : Nat} {v : List Vl} (h : okL n v) (hk : n ≤ k) : okL k v := fun x hx => (h x hx).imp id (fun q => q.mono hk)
theorem okS.mono {n k : Nat} {v : List Vl} (h : okS n v) (hk : n ≤ k) : okS k v := fun x hx => (h x hx).mono hk
theorem toV_i (rf : Int → Option Nat) (x : Int) : toV rf (0, x) = .int (Int32.ofInt x) := rfl
theorem toV_l (rf : Int → Option Nat) (x : Int) : toV rf (1, x) = .long (Int64.ofInt x) := rfl
theorem toV_r (rf : Int → Option Nat) (x : Int) : toV rf (2, x) = va_rf (rf x) := rfl
theorem va_rf_cat (r : Option Nat) : (va_rf r).category = 1 := by cases r <;> rfl
theorem toV_cat (rf : Int → Option Nat) (v : Vl) : (toV rf v).category = if v.1 = 1 then 2 else 1 := by
  unfold toV
  split
  · rename_i h
    simp [h, Value.category]
  · split
    · rfl
    · exact va_rf_cat _
def Lr (rf : Int → Option Nat) (ls : List Vl) (arr : Array Slot) : Prop := arr.size = ls.length ∧ lv_wf arr ∧ ∀ (i : Nat) (v : Vl), ls[i]? = some v → v.1 ≠ 9 → arr[i]? = some (.val (toV rf v))
def lls (rf : Int → Option Nat) (ls : List Vl) : List (Nat × Value) := (List.range ls.length).filterMap (fun i => (ls[i]?).bind (fun v => if v.1 = 9 then none else some (i, toV rf v)))
theorem mem_lls {rf : Int → Option Nat} {ls : List Vl} {q : Nat × Value} : q ∈ lls rf ls ↔ ∃ v, ls[q.1]? = some v ∧ v.1 ≠ 9 ∧ q.2 = toV rf v := by
  unfold lls
  rw [List.mem_filterMap]
  constructor
  · rintro ⟨i, hi, h⟩
    cases hv : ls[i]? with
    | none => rw [hv] at h; cases h
    | some v =>
      rw [hv] at h
      simp only [Option.bind_some] at h
      split at h
      · cases h
      · rename_i hn
        cases h
        exact ⟨v, hv, hn, rfl⟩
  · rintro ⟨v, h1, h2, h3⟩
    refine ⟨q.1, ?_, ?_⟩
    · rw [List.mem_range]
      exact (List.getElem?_eq_some_iff.mp h1).1
    · rw [h1]
      simp only [Option.bind_some, if_neg h2]
      rw [← h3]
theorem Lr.has {rf : Int → Option Nat} {ls : List Vl} {arr : Array Slot} (h : Lr rf ls arr) : lv_has arr ls.length (lls rf ls) := ⟨h.1, h.2.1, fun q hq => by
  obtain ⟨v, h1, h2, h3⟩ := mem_lls.mp hq
  rw [h3]
  exact h.2.2 q.1 v h1 h2⟩
theorem storeL_len (ls : List Vl) (i : Nat) (v : Vl) : (storeL ls i v).length = ls.length := by
  unfold storeL
  cases i with
  | zero => dsimp only; split <;> simp
  | succ k => dsimp only; split <;> split <;> simp
/-- what is behind a store -/
theorem storeL_at {ls : List Vl} {i j : Nat} {v u : Vl} (h : (storeL ls i v)[j]? = some u) (hu : u.1 ≠ 9) : (j = i ∧ u = v) ∨ (j ≠ i ∧ ls[j]? = some u ∧ ¬ (v.1 = 1 ∧ j = i + 1) ∧ ¬ (j + 1 = i ∧ u.1 = 1)) := by
  unfold storeL at h
  have key : ∀ l1 : List Vl, (∀ x, l1[j]? = some x → x.1 ≠ 9 → ls[j]? = some x ∧ ¬ (j + 1 = i ∧ x.1 = 1)) → ((if v.1 = 1 then (l1.set i v).set (i + 1) (9, 0) else l1.set i v)[j]? = some u) → (j = i ∧ u = v) ∨ (j ≠ i ∧ ls[j]? = some u ∧ ¬ (v.1 = 1 ∧ j = i + 1) ∧ ¬ (j + 1 = i ∧ u.1 = 1)) := by
    intro l1 h1 h
    have h2 : (l1.set i v)[j]? = some u ∧ ¬ (v.1 = 1 ∧ j = i + 1) := by
      split at h
      · rename_i hv
        by_cases hj : j = i + 1
        · subst hj
          rw [List.getElem?_set] at h
          simp only [if_true] at h
          split at h
          · cases h
            exact absurd rfl hu
          · cases h
        · rw [List.getElem?_set, if_neg (fun e => hj e.symm)] at h
          exact ⟨h, fun q => hj q.2⟩
      · rename_i hv
        exact ⟨h, fun q => hv q.1⟩
    obtain ⟨h3, h4⟩ := h2
    by_cases hj : j = i
    · subst hj
      rw [List.getElem?_set] at h3
      simp only [if_true] at h3
      split at h3
      · cases h3
        exact Or.inl ⟨rfl, rfl⟩
      · cases h3
    · rw [List.getElem?_set, if_neg (fun e => hj e.symm)] at h3
      obtain ⟨h5, h6⟩ := h1 u h3 hu
      exact Or.inr ⟨hj, h5, h4, h6⟩
  cases i with
  | zero => exact key ls (fun x hx _ => ⟨hx, fun q => by omega⟩) h
  | succ k =>
    dsimp only at h
    refine key _ ?_ h
    intro x hx hx9
    split at hx
    · rename_i hk
      by_cases hj : j = k
      · subst hj
        rw [List.getElem?_set] at hx
        simp only [if_true] at hx
        split at hx
        · cases hx
          exact absurd rfl hx9
        · cases hx
      · rw [List.getElem?_set, if_neg (fun e => hj e.symm)] at hx
        exact ⟨hx, fun q => hj (by omega)⟩
    · rename_i hk
      refine ⟨hx, fun q => hk ?_⟩
      have hj : j = k := by omega
      subst hj
      rw [List.getD_eq_getElem?_getD, hx]
      exact q.2
theorem Lr_store1 {rf : Int → Option Nat} {ls : List Vl} {arr : Array Slot} {i : Nat} {v : Vl} {w : Value} (hw : w = toV rf v) (h1 : v.1 ≠ 1)
    (h : lv_has arr ls.length ((i, w) :: (lls rf ls).filter (fun q => !(q.1 == i) && !(q.1 + 1 == i && q.2.category == 2)))) : Lr rf (storeL ls i v) arr := by
  refine ⟨by rw [storeL_len]; exact h.1, h.2.1, fun j u hj hu => ?_⟩
  rcases storeL_at hj hu with ⟨rfl, rfl⟩ | ⟨a1, a2, a3, a4⟩
  · rw [← hw]
    exact h.2.2 (j, w) List.mem_cons_self
  · refine h.2.2 (j, toV rf u) (List.mem_cons_of_mem _ (List.mem_filter.mpr ⟨mem_lls.mpr ⟨u, a2, hu, rfl⟩, ?_⟩))
    have e : (j == i) = false := by simp [a1]
    by_cases hc : u.1 = 1
    · have e2 : (j + 1 == i) = false := by
        simp only [beq_eq_false_iff_ne]
        exact fun q => a4 ⟨q, hc⟩
      simp [e, e2]
    · have e3 : ((toV rf u).category == 2) = false := by rw [toV_cat, if_neg hc]; rfl
      simp [e, e3]
theorem Lr_store2 {rf : Int → Option Nat} {ls : List Vl} {arr : Array Slot} {i : Nat} {v : Vl} {w : Value} (hw : w = toV rf v) (h1 : v.1 = 1)
    (h : lv_has arr ls.length ((i, w) :: (lls rf ls).filter (fun q => !(q.1 == i) && (!(q.1 == i + 1) && !(q.1 + 1 == i && q.2.category == 2))))) : Lr rf (storeL ls i v) arr := by
  refine ⟨by rw [storeL_len]; exact h.1, h.2.1, fun j u hj hu => ?_⟩
  rcases storeL_at hj hu with ⟨rfl, rfl⟩ | ⟨a1, a2, a3, a4⟩
  · rw [← hw]
    exact h.2.2 (j, w) List.mem_cons_self
  · refine h.2.2 (j, toV rf u) (List.mem_cons_of_mem _ (List.mem_filter.mpr ⟨mem_lls.mpr ⟨u, a2, hu, rfl⟩, ?_⟩))
    have e : (j == i) = false := by simp [a1]
    have e0 : (j == i + 1) = false := by
      simp only [beq_eq_false_iff_ne]
      exact fun q => a3 ⟨h1, q⟩
    by_cases hc : u.1 = 1
    · have e2 : (j + 1 == i) = false := by
        simp only [beq_eq_false_iff_ne]
        exact fun q => a4 ⟨q, hc⟩
      simp [e, e0, e2]
    · have e3 : ((toV rf u).category == 2) = false := by rw [toV_cat, if_neg hc]; rfl
      simp [e, e0, e3]
theorem okL_store {n : Nat} {ls : List Vl} {i : Nat} {v : Vl} (h : okL n ls) (hv : okV n v) : okL n (storeL ls i v) := by
  intro u hu
  by_cases h9 : u.1 = 9
  · exact Or.inl h9
  · obtain ⟨j, hj⟩ := List.mem_iff_getElem?.mp hu
    rcases storeL_at hj h9 with ⟨-, rfl⟩ | ⟨-, a2, -⟩
    · exact Or.inr hv
    · exact h u (List.mem_iff_getElem?.mpr ⟨j, a2⟩)
theorem okV_i {n : Nat} {x : Int} (h : in32 x) : okV n (0, x) := Or.inl ⟨rfl, h⟩
theorem okV_l {n : Nat} {x : Int} (h : in64 x) : okV n (1, x) := Or.inr (Or.inl ⟨rfl, h⟩)
theorem okV_r {n : Nat} {x : Int} (h : x ≤ n) : okV n (2, x) := Or.inr (Or.inr ⟨rfl, h⟩)
theorem okV.int {n : Nat} {x : Int} (h : okV n (0, x)) : in32 x := by
  rcases h with h | h | h
  · exact h.2
  · exact absurd h.1 (by simp)
  · exact absurd h.1 (by simp)
theorem okV.long {n : Nat} {x : Int} (h : okV n (1, x)) : in64 x := by
  rcases h with h | h | h
  · exact absurd h.1 (by simp)
  · exact h.2
  · exact absurd h.1 (by simp)
theorem okV.rfr {n : Nat} {x : Int} (h : okV n (2, x)) : x ≤ n := by
  rcases h with h | h | h
  · exact absurd h.1 (by simp)
  · exact absurd h.1 (by simp)
  · exact h.2
end
section
/-! the bytes of an instruction, and what decode reads there -/
section ZDE
abbrev zdI : Type := Jvm.ClassFile.Instr
abbrev zdD : Type → Type := Jvm.ClassFile.Decoder
def zdP (i : zdI) : zdD zdI := Pure.pure i
theorem zdF (pc : Nat) : ∃ f : Nat → zdD zdI, Jvm.ClassFile.Decoder.instr pc = ((Jvm.ClassFile.Reader.u1 : zdD Nat) >>= f) ∧ (f 1 = zdP .aconst_null) ∧ (f 46 = zdP .iaload) ∧ (f 47 = zdP .laload) ∧ (f 50 = zdP .aaload) ∧ (f 51 = zdP .baload) ∧ (f 79 = zdP .iastore) ∧ (f 80 = zdP .lastore) ∧ (f 83 = zdP .aastore) ∧ (f 84 = zdP .bastore) ∧ (f 87 = zdP .pop) ∧ (f 89 = zdP .dup) ∧ (f 90 = zdP .dup_x1) ∧ (f 92 = zdP .dup2) ∧ (f 96 = zdP .iadd) ∧ (f 97 = zdP .ladd) ∧ (f 100 = zdP .isub) ∧ (f 101 = zdP .lsub) ∧ (f 104 = zdP .imul) ∧ (f 105 = zdP .lmul) ∧ (f 108 = zdP .idiv) ∧ (f 109 = zdP .ldiv) ∧ (f 112 = zdP .irem) ∧ (f 116 = zdP .ineg) ∧ (f 120 = zdP .ishl) ∧ (f 122 = zdP .ishr) ∧ (f 124 = zdP .iushr) ∧ (f 126 = zdP .iand) ∧ (f 127 = zdP .land) ∧ (f 128 = zdP .ior) ∧ (f 129 = zdP .lor) ∧ (f 130 = zdP .ixor) ∧ (f 133 = zdP .i2l) ∧ (f 136 = zdP .l2i) ∧ (f 145 = zdP .i2b) ∧ (f 146 = zdP .i2c) ∧ (f 148 = zdP .lcmp) ∧ (f 172 = zdP .ireturn) ∧ (f 173 = zdP .lreturn) ∧ (f 176 = zdP .areturn) ∧ (f 177 = zdP .return_) ∧ (f 190 = zdP .arraylength) ∧ (f 2 = zdP (.iconst (-1))) ∧ (f 3 = zdP (.iconst 0)) ∧ (f 4 = zdP (.iconst 1)) ∧ (f 5 = zdP (.iconst 2)) ∧ (f 6 = zdP (.iconst 3)) ∧ (f 7 = zdP (.iconst 4)) ∧ (f 8 = zdP (.iconst 5)) ∧ (f 9 = zdP (.lconst 0)) ∧ (f 10 = zdP (.lconst 1)) ∧ (f 26 = zdP (.iload_n 0)) ∧ (f 27 = zdP (.iload_n 1)) ∧ (f 28 = zdP (.iload_n 2)) ∧ (f 29 = zdP (.iload_n 3)) ∧ (f 30 = zdP (.lload_n 0)) ∧ (f 31 = zdP (.lload_n 1)) ∧ (f 32 = zdP (.lload_n 2)) ∧ (f 33 = zdP (.lload_n 3)) ∧ (f 42 = zdP (.aload_n 0)) ∧ (f 43 = zdP (.aload_n 1)) ∧ (f 44 = zdP (.aload_n 2)) ∧ (f 45 = zdP (.aload_n 3)) ∧ (f 59 = zdP (.istore_n 0)) ∧ (f 60 = zdP (.istore_n 1)) ∧ (f 61 = zdP (.istore_n 2)) ∧ (f 62 = zdP (.istore_n 3)) ∧ (f 63 = zdP (.lstore_n 0)) ∧ (f 64 = zdP (.lstore_n 1)) ∧ (f 65 = zdP (.lstore_n 2)) ∧ (f 66 = zdP (.lstore_n 3)) ∧ (f 75 = zdP (.astore_n 0)) ∧ (f 76 = zdP (.astore_n 1)) ∧ (f 77 = zdP (.astore_n 2)) ∧ (f 78 = zdP (.astore_n 3)) ∧ (f 18 = ((Jvm.ClassFile.Reader.u1 : zdD Nat) >>= fun x => zdP (.ldc x))) ∧ (f 21 = ((Jvm.ClassFile.Reader.u1 : zdD Nat) >>= fun x => zdP (.iload x))) ∧ (f 22 = ((Jvm.ClassFile.Reader.u1 : zdD Nat) >>= fun x => zdP (.lload x))) ∧ (f 25 = ((Jvm.ClassFile.Reader.u1 : zdD Nat) >>= fun x => zdP (.aload x))) ∧ (f 54 = ((Jvm.ClassFile.Reader.u1 : zdD Nat) >>= fun x => zdP (.istore x))) ∧ (f 55 = ((Jvm.ClassFile.Reader.u1 : zdD Nat) >>= fun x => zdP (.lstore x))) ∧ (f 58 = ((Jvm.ClassFile.Reader.u1 : zdD Nat) >>= fun x => zdP (.astore x))) ∧ (f 19 = ((Jvm.ClassFile.Reader.u2 : zdD Nat) >>= fun x => zdP (.ldc_w x))) ∧ (f 20 = ((Jvm.ClassFile.Reader.u2 : zdD Nat) >>= fun x => zdP (.ldc2_w x))) ∧ (f 178 = ((Jvm.ClassFile.Reader.u2 : zdD Nat) >>= fun x => zdP (.getstatic x))) ∧ (f 180 = ((Jvm.ClassFile.Reader.u2 : zdD Nat) >>= fun x => zdP (.getfield x))) ∧ (f 181 = ((Jvm.ClassFile.Reader.u2 : zdD Nat) >>= fun x => zdP (.putfield x))) ∧ (f 182 = ((Jvm.ClassFile.Reader.u2 : zdD Nat) >>= fun x => zdP (.invokevirtual x))) ∧ (f 183 = ((Jvm.ClassFile.Reader.u2 : zdD Nat) >>= fun x => zdP (.invokespecial x))) ∧ (f 184 = ((Jvm.ClassFile.Reader.u2 : zdD Nat) >>= fun x => zdP (.invokestatic x))) ∧ (f 187 = ((Jvm.ClassFile.Reader.u2 : zdD Nat) >>= fun x => zdP (.new x))) ∧ (f 189 = ((Jvm.ClassFile.Reader.u2 : zdD Nat) >>= fun x => zdP (.anewarray x))) ∧ (f 192 = ((Jvm.ClassFile.Reader.u2 : zdD Nat) >>= fun x => zdP (.checkcast x))) ∧ (f 167 = ((Jvm.ClassFile.Reader.s2 : zdD Int) >>= fun x => zdP (.goto x))) ∧ (f 198 = ((Jvm.ClassFile.Reader.s2 : zdD Int) >>= fun x => zdP (.ifnull x))) ∧ (f 199 = ((Jvm.ClassFile.Reader.s2 : zdD Int) >>= fun x => zdP (.ifnonnull x))) ∧ (f 153 = ((Jvm.ClassFile.Reader.s2 : zdD Int) >>= fun x => zdP (.ifCond .eq x))) ∧ (f 159 = ((Jvm.ClassFile.Reader.s2 : zdD Int) >>= fun x => zdP (.if_icmp .eq x))) ∧ (f 154 = ((Jvm.ClassFile.Reader.s2 : zdD Int) >>= fun x => zdP (.ifCond .ne x))) ∧ (f 160 = ((Jvm.ClassFile.Reader.s2 : zdD Int) >>= fun x => zdP (.if_icmp .ne x))) ∧ (f 155 = ((Jvm.ClassFile.Reader.s2 : zdD Int) >>= fun x => zdP (.ifCond .lt x))) ∧ (f 161 = ((Jvm.ClassFile.Reader.s2 : zdD Int) >>= fun x => zdP (.if_icmp .lt x))) ∧ (f 156 = ((Jvm.ClassFile.Reader.s2 : zdD Int) >>= fun x => zdP (.ifCond .ge x))) ∧ (f 162 = ((Jvm.ClassFile.Reader.s2 : zdD Int) >>= fun x => zdP (.if_icmp .ge x))) ∧ (f 157 = ((Jvm.ClassFile.Reader.s2 : zdD Int) >>= fun x => zdP (.ifCond .gt x))) ∧ (f 163 = ((Jvm.ClassFile.Reader.s2 : zdD Int) >>= fun x => zdP (.if_icmp .gt x))) ∧ (f 158 = ((Jvm.ClassFile.Reader.s2 : zdD Int) >>= fun x => zdP (.ifCond .le x))) ∧ (f 164 = ((Jvm.ClassFile.Reader.s2 : zdD Int) >>= fun x => zdP (.if_icmp .le x))) ∧ (f 165 = ((Jvm.ClassFile.Reader.s2 : zdD Int) >>= fun x => zdP (.if_acmp .eq x))) ∧ (f 166 = ((Jvm.ClassFile.Reader.s2 : zdD Int) >>= fun x => zdP (.if_acmp .ne x))) ∧ (f 16 = ((Jvm.ClassFile.Reader.s1 : zdD Int) >>= fun x => zdP (.bipush x))) ∧ (f 17 = ((Jvm.ClassFile.Reader.s2 : zdD Int) >>= fun x => zdP (.sipush x))) ∧ (f 132 = ((Jvm.ClassFile.Reader.u1 : zdD Nat) >>= fun x => (Jvm.ClassFile.Reader.s1 : zdD Int) >>= fun y => zdP (.iinc x y))) ∧ (f 188 = Jvm.ClassFile.Decoder.newarray pc) ∧ (f 197 = Jvm.ClassFile.Decoder.multianewarray pc) := ⟨_, rfl, rfl, rfl, rfl, rfl, rfl, rfl, rfl, rfl, rfl, rfl, rfl, rfl, rfl, rfl, rfl, rfl, rfl, rfl, rfl, rfl, rfl, rfl, rfl, rfl, rfl, rfl, rfl, rfl, rfl, rfl, rfl, rfl, rfl, rfl, rfl, rfl, rfl, rfl, rfl, rfl, rfl, rfl, rfl, rfl, rfl, rfl, rfl, rfl, rfl, rfl, rfl, rfl, rfl, rfl, rfl, rfl, rfl, rfl, rfl, rfl, rfl, rfl, rfl, rfl, rfl, rfl, rfl, rfl, rfl, rfl, rfl, rfl, rfl, rfl, rfl, rfl, rfl, rfl, rfl, rfl, rfl, rfl, rfl, rfl, rfl, rfl, rfl, rfl, rfl, rfl, rfl, rfl, rfl, rfl, rfl, rfl, rfl, rfl, rfl, rfl, rfl, rfl, rfl, rfl, rfl, rfl, rfl, rfl, rfl, rfl, rfl, rfl, rfl, rfl⟩
variable {cc : ByteArray} {pc p : Nat} {f : Nat → zdD zdI} {i : zdI} {b c d : UInt8} {r : List UInt8}
/-- a byte at a place -/
def zdB (cc : ByteArray) (p : Nat) (b : UInt8) : Prop := cc.data.toList[p]? = some b
theorem zdB_of {l : List UInt8} (h : (cc.data.toList.drop pc).take l.length = l) {k : Nat} (hk : l[k]? = some b) : zdB cc (pc + k) b := by
  unfold zdB
  have h1 : ((cc.data.toList.drop pc).take l.length)[k]? = some b := by rw [h]; exact hk
  rw [List.getElem?_take] at h1
  split at h1
  · rw [List.getElem?_drop] at h1
    exact h1
  · cases h1
theorem zd_bind {α β : Type} {x : zdD α} {g : α → zdD β} {a : α} {q : Nat} (h : x.runAt cc p = .ok (a, q)) : (x >>= g).runAt cc p = (g a).runAt cc q := by
  show (x.runAt cc p >>= fun y => (g y.1).runAt cc y.2) = _
  rw [h]
  rfl
theorem zd_u1 (h : zdB cc p b) : (Jvm.ClassFile.Reader.u1 : zdD Nat).runAt cc p = .ok (b.toNat, p + 1) := by
  have hs : p < cc.size := by
    obtain ⟨h1, -⟩ := List.getElem?_eq_some_iff.mp h
    exact h1
  have hb : cc[p] = b := by
    obtain ⟨h1, h2⟩ := List.getElem?_eq_some_iff.mp h
    exact h2
  unfold Jvm.ClassFile.Reader.u1
  rw [zd_bind (x := (MonadReader.read : zdD ByteArray)) (a := cc) (q := p) rfl, zd_bind (x := (MonadState.get : zdD Nat)) (a := p) (q := p) rfl, dif_pos hs]
  show Except.ok (cc[p].toNat, p + 1) = _
  rw [hb]
theorem zd_u2 (h : zdB cc p b) (h2 : zdB cc (p + 1) c) : (Jvm.ClassFile.Reader.u2 : zdD Nat).runAt cc p = .ok (b.toNat * 256 + c.toNat, p + 2) := by
  unfold Jvm.ClassFile.Reader.u2
  rw [zd_bind (zd_u1 h), zd_bind (zd_u1 h2)]
  rfl
theorem zd_map {α β : Type} {x : zdD α} {g : α → β} {a : α} {q : Nat} (h : x.runAt cc p = .ok (a, q)) : (g <$> x).runAt cc p = .ok (g a, q) := by
  rw [map_eq_pure_bind, zd_bind h]
  rfl
theorem zd_s1 (h : zdB cc p b) : (Jvm.ClassFile.Reader.s1 : zdD Int).runAt cc p = .ok (Jvm.ClassFile.Reader.signed 8 b.toNat, p + 1) := zd_map (zd_u1 h)
theorem zd_s2 (h : zdB cc p b) (h2 : zdB cc (p + 1) c) : (Jvm.ClassFile.Reader.s2 : zdD Int).runAt cc p = .ok (Jvm.ClassFile.Reader.signed 16 (b.toNat * 256 + c.toNat), p + 2) := zd_map (zd_u2 h h2)
theorem zd_dec {q : Nat} (h : (Jvm.ClassFile.Decoder.instr pc).runAt cc pc = .ok (i, q)) : decode cc pc = .ok (i, q - pc) := by
  unfold decode
  rw [h]
  rfl
theorem zd_0 (hf : Jvm.ClassFile.Decoder.instr pc = ((Jvm.ClassFile.Reader.u1 : zdD Nat) >>= f)) (h : zdB cc pc b) (hb : f b.toNat = zdP i) : decode cc pc = .ok (i, 1) := by
  have := zd_dec (cc := cc) (pc := pc) (i := i) (q := pc + 1) (by rw [hf, zd_bind (zd_u1 h), hb]; rfl)
  rwa [show pc + 1 - pc = 1 by omega] at this
theorem zd_1 {K : Nat → zdI} (hf : Jvm.ClassFile.Decoder.instr pc = ((Jvm.ClassFile.Reader.u1 : zdD Nat) >>= f)) (h : zdB cc pc b) (h1 : zdB cc (pc + 1) c) (hb : f b.toNat = ((Jvm.ClassFile.Reader.u1 : zdD Nat) >>= fun x => zdP (K x))) : decode cc pc = .ok (K c.toNat, 2) := by
  have := zd_dec (cc := cc) (pc := pc) (i := K c.toNat) (q := pc + 1 + 1) (by rw [hf, zd_bind (zd_u1 h), hb, zd_bind (zd_u1 h1)]; rfl)
  rwa [show pc + 1 + 1 - pc = 2 by omega] at this
theorem zd_2 {K : Nat → zdI} (hf : Jvm.ClassFile.Decoder.instr pc = ((Jvm.ClassFile.Reader.u1 : zdD Nat) >>= f)) (h : zdB cc pc b) (h1 : zdB cc (pc + 1) c) (h2 : zdB cc (pc + 2) d) (hb : f b.toNat = ((Jvm.ClassFile.Reader.u2 : zdD Nat) >>= fun x => zdP (K x))) : decode cc pc = .ok (K (c.toNat * 256 + d.toNat), 3) := by
  have := zd_dec (cc := cc) (pc := pc) (i := K (c.toNat * 256 + d.toNat)) (q := pc + 1 + 2) (by rw [hf, zd_bind (zd_u1 h), hb, zd_bind (zd_u2 h1 h2)]; rfl)
  rwa [show pc + 1 + 2 - pc = 3 by omega] at this
theorem zd_s {K : Int → zdI} (hf : Jvm.ClassFile.Decoder.instr pc = ((Jvm.ClassFile.Reader.u1 : zdD Nat) >>= f)) (h : zdB cc pc b) (h1 : zdB cc (pc + 1) c) (h2 : zdB cc (pc + 2) d) (hb : f b.toNat = ((Jvm.ClassFile.Reader.s2 : zdD Int) >>= fun x => zdP (K x))) : decode cc pc = .ok (K (Jvm.ClassFile.Reader.signed 16 (c.toNat * 256 + d.toNat)), 3) := by
  have := zd_dec (cc := cc) (pc := pc) (i := K (Jvm.ClassFile.Reader.signed 16 (c.toNat * 256 + d.toNat))) (q := pc + 1 + 2) (by rw [hf, zd_bind (zd_u1 h), hb, zd_bind (zd_s2 h1 h2)]; rfl)
  rwa [show pc + 1 + 2 - pc = 3 by omega] at this
theorem zd_n {n : Nat} (h : n < 256) : (UInt8.ofNat n).toNat = n := by
  rw [UInt8.toNat_ofNat']
  omega
theorem zd_g8 {a : Int} (h : -128 ≤ a ∧ a ≤ 127) : Jvm.ClassFile.Reader.signed 8 (UInt8.ofNat (a % 256).toNat).toNat = a := by
  rw [zd_n (by omega)]
  unfold Jvm.ClassFile.Reader.signed
  split <;> omega
theorem zd_g16 {a : Int} (h : -32768 ≤ a ∧ a ≤ 32767) : Jvm.ClassFile.Reader.signed 16 ((UInt8.ofNat ((a % 65536).toNat / 256)).toNat * 256 + (UInt8.ofNat ((a % 65536).toNat % 256)).toNat) = a := by
  rw [zd_n (by omega), zd_n (by omega)]
  unfold Jvm.ClassFile.Reader.signed
  split <;> omega
theorem zd_u16 {g : Nat} (h : g < 65536) : (UInt8.ofNat (g / 256)).toNat * 256 + (UInt8.ofNat (g % 256)).toNat = g := by
  rw [zd_n (by omega), zd_n (by omega)]
  omega
/-- the bytes -/
def zen : zdI → Option (List UInt8)
  | .aconst_null => some [1]
  | .iaload => some [46]
  | .laload => some [47]
  | .aaload => some [50]
  | .baload => some [51]
  | .iastore => some [79]
  | .lastore => some [80]
  | .aastore => some [83]
  | .bastore => some [84]
  | .pop => some [87]
  | .dup => some [89]
  | .dup_x1 => some [90]
  | .dup2 => some [92]
  | .iadd => some [96]
  | .ladd => some [97]
  | .isub => some [100]
  | .lsub => some [101]
  | .imul => some [104]
  | .lmul => some [105]
  | .idiv => some [108]
  | .ldiv => some [109]
  | .irem => some [112]
  | .ineg => some [116]
  | .ishl => some [120]
  | .ishr => some [122]
  | .iushr => some [124]
  | .iand => some [126]
  | .land => some [127]
  | .ior => some [128]
  | .lor => some [129]
  | .ixor => some [130]
  | .i2l => some [133]
  | .l2i => some [136]
  | .i2b => some [145]
  | .i2c => some [146]
  | .lcmp => some [148]
  | .ireturn => some [172]
  | .lreturn => some [173]
  | .areturn => some [176]
  | .return_ => some [177]
  | .arraylength => some [190]
  | .iconst a => if -1 ≤ a ∧ a ≤ 5 then some [UInt8.ofNat (a + 3).toNat] else none
  | .lconst a => some [UInt8.ofNat (9 + a.val)]
  | .iload_n a => some [UInt8.ofNat (26 + a.val)]
  | .lload_n a => some [UInt8.ofNat (30 + a.val)]
  | .aload_n a => some [UInt8.ofNat (42 + a.val)]
  | .istore_n a => some [UInt8.ofNat (59 + a.val)]
  | .lstore_n a => some [UInt8.ofNat (63 + a.val)]
  | .astore_n a => some [UInt8.ofNat (75 + a.val)]
  | .ldc a => if a < 256 then some [18, UInt8.ofNat a] else none
  | .iload a => if a < 256 then some [21, UInt8.ofNat a] else none
  | .lload a => if a < 256 then some [22, UInt8.ofNat a] else none
  | .aload a => if a < 256 then some [25, UInt8.ofNat a] else none
  | .istore a => if a < 256 then some [54, UInt8.ofNat a] else none
  | .lstore a => if a < 256 then some [55, UInt8.ofNat a] else none
  | .astore a => if a < 256 then some [58, UInt8.ofNat a] else none
  | .ldc_w a => if a < 65536 then some [19, UInt8.ofNat (a / 256), UInt8.ofNat (a % 256)] else none
  | .ldc2_w a => if a < 65536 then some [20, UInt8.ofNat (a / 256), UInt8.ofNat (a % 256)] else none
  | .getstatic a => if a < 65536 then some [178, UInt8.ofNat (a / 256), UInt8.ofNat (a % 256)] else none
  | .getfield a => if a < 65536 then some [180, UInt8.ofNat (a / 256), UInt8.ofNat (a % 256)] else none
  | .putfield a => if a < 65536 then some [181, UInt8.ofNat (a / 256), UInt8.ofNat (a % 256)] else none
  | .invokevirtual a => if a < 65536 then some [182, UInt8.ofNat (a / 256), UInt8.ofNat (a % 256)] else none
  | .invokespecial a => if a < 65536 then some [183, UInt8.ofNat (a / 256), UInt8.ofNat (a % 256)] else none
  | .invokestatic a => if a < 65536 then some [184, UInt8.ofNat (a / 256), UInt8.ofNat (a % 256)] else none
  | .new a => if a < 65536 then some [187, UInt8.ofNat (a / 256), UInt8.ofNat (a % 256)] else none
  | .anewarray a => if a < 65536 then some [189, UInt8.ofNat (a / 256), UInt8.ofNat (a % 256)] else none
  | .checkcast a => if a < 65536 then some [192, UInt8.ofNat (a / 256), UInt8.ofNat (a % 256)] else none
  | .goto a => if -32768 ≤ a ∧ a ≤ 32767 then some [167, UInt8.ofNat ((a % 65536).toNat / 256), UInt8.ofNat ((a % 65536).toNat % 256)] else none
  | .ifnull a => if -32768 ≤ a ∧ a ≤ 32767 then some [198, UInt8.ofNat ((a % 65536).toNat / 256), UInt8.ofNat ((a % 65536).toNat % 256)] else none
  | .ifnonnull a => if -32768 ≤ a ∧ a ≤ 32767 then some [199, UInt8.ofNat ((a % 65536).toNat / 256), UInt8.ofNat ((a % 65536).toNat % 256)] else none
  | .sipush a => if -32768 ≤ a ∧ a ≤ 32767 then some [17, UInt8.ofNat ((a % 65536).toNat / 256), UInt8.ofNat ((a % 65536).toNat % 256)] else none
  | .ifCond .eq a => if -32768 ≤ a ∧ a ≤ 32767 then some [153, UInt8.ofNat ((a % 65536).toNat / 256), UInt8.ofNat ((a % 65536).toNat % 256)] else none
  | .ifCond .ne a => if -32768 ≤ a ∧ a ≤ 32767 then some [154, UInt8.ofNat ((a % 65536).toNat / 256), UInt8.ofNat ((a % 65536).toNat % 256)] else none
  | .ifCond .lt a => if -32768 ≤ a ∧ a ≤ 32767 then some [155, UInt8.ofNat ((a % 65536).toNat / 256), UInt8.ofNat ((a % 65536).toNat % 256)] else none
  | .ifCond .ge a => if -32768 ≤ a ∧ a ≤ 32767 then some [156, UInt8.ofNat ((a % 65536).toNat / 256), UInt8.ofNat ((a % 65536).toNat % 256)] else none
  | .ifCond .gt a => if -32768 ≤ a ∧ a ≤ 32767 then some [157, UInt8.ofNat ((a % 65536).toNat / 256), UInt8.ofNat ((a % 65536).toNat % 256)] else none
  | .ifCond .le a => if -32768 ≤ a ∧ a ≤ 32767 then some [158, UInt8.ofNat ((a % 65536).toNat / 256), UInt8.ofNat ((a % 65536).toNat % 256)] else none
  | .if_icmp .eq a => if -32768 ≤ a ∧ a ≤ 32767 then some [159, UInt8.ofNat ((a % 65536).toNat / 256), UInt8.ofNat ((a % 65536).toNat % 256)] else none
  | .if_icmp .ne a => if -32768 ≤ a ∧ a ≤ 32767 then some [160, UInt8.ofNat ((a % 65536).toNat / 256), UInt8.ofNat ((a % 65536).toNat % 256)] else none
  | .if_icmp .lt a => if -32768 ≤ a ∧ a ≤ 32767 then some [161, UInt8.ofNat ((a % 65536).toNat / 256), UInt8.ofNat ((a % 65536).toNat % 256)] else none
  | .if_icmp .ge a => if -32768 ≤ a ∧ a ≤ 32767 then some [162, UInt8.ofNat ((a % 65536).toNat / 256), UInt8.ofNat ((a % 65536).toNat % 256)] else none
  | .if_icmp .gt a => if -32768 ≤ a ∧ a ≤ 32767 then some [163, UInt8.ofNat ((a % 65536).toNat / 256), UInt8.ofNat ((a % 65536).toNat % 256)] else none
  | .if_icmp .le a => if -32768 ≤ a ∧ a ≤ 32767 then some [164, UInt8.ofNat ((a % 65536).toNat / 256), UInt8.ofNat ((a % 65536).toNat % 256)] else none
  | .if_acmp .eq a => if -32768 ≤ a ∧ a ≤ 32767 then some [165, UInt8.ofNat ((a % 65536).toNat / 256), UInt8.ofNat ((a % 65536).toNat % 256)] else none
  | .if_acmp .ne a => if -32768 ≤ a ∧ a ≤ 32767 then some [166, UInt8.ofNat ((a % 65536).toNat / 256), UInt8.ofNat ((a % 65536).toNat % 256)] else none
  | .bipush a => if -128 ≤ a ∧ a ≤ 127 then some [16, UInt8.ofNat (a % 256).toNat] else none
  | .iinc a b => if a < 256 ∧ -128 ≤ b ∧ b ≤ 127 then some [132, UInt8.ofNat a, UInt8.ofNat (b % 256).toNat] else none
  | .newarray .boolean => some [188, 4]
  | .newarray .byte => some [188, 8]
  | .newarray .int => some [188, 10]
  | .newarray .long => some [188, 11]
  | .multianewarray a 2 => if a < 65536 then some [197, UInt8.ofNat (a / 256), UInt8.ofNat (a % 256), 2] else none
  | .multianewarray a 3 => if a < 65536 then some [197, UInt8.ofNat (a / 256), UInt8.ofNat (a % 256), 3] else none
  | _ => none
theorem zen_ok {l : List UInt8} (he : zen i = some l) (h : (cc.data.toList.drop pc).take l.length = l) : decode cc pc = .ok (i, l.length) := by
  obtain ⟨f, hf, k1, k46, k47, k50, k51, k79, k80, k83, k84, k87, k89, k90, k92, k96, k97, k100, k101, k104, k105, k108, k109, k112, k116, k120, k122, k124, k126, k127, k128, k129, k130, k133, k136, k145, k146, k148, k172, k173, k176, k177, k190, k2, k3, k4, k5, k6, k7, k8, k9, k10, k26, k27, k28, k29, k30, k31, k32, k33, k42, k43, k44, k45, k59, k60, k61, k62, k63, k64, k65, k66, k75, k76, k77, k78, k18, k21, k22, k25, k54, k55, k58, k19, k20, k178, k180, k181, k182, k183, k184, k187, k189, k192, k167, k198, k199, k153, k159, k154, k160, k155, k161, k156, k162, k157, k163, k158, k164, k165, k166, k16, k17, k132, k188, k197⟩ := zdF pc
  unfold zen at he
  split at he
  · cases he
    exact zd_0 hf (zdB_of h (k := 0) rfl) k1
  · cases he
    exact zd_0 hf (zdB_of h (k := 0) rfl) k46
  · cases he
    exact zd_0 hf (zdB_of h (k := 0) rfl) k47
  · cases he
    exact zd_0 hf (zdB_of h (k := 0) rfl) k50
  · cases he
    exact zd_0 hf (zdB_of h (k := 0) rfl) k51
  · cases he
    exact zd_0 hf (zdB_of h (k := 0) rfl) k79
  · cases he
    exact zd_0 hf (zdB_of h (k := 0) rfl) k80
  · cases he
    exact zd_0 hf (zdB_of h (k := 0) rfl) k83
  · cases he
    exact zd_0 hf (zdB_of h (k := 0) rfl) k84
  · cases he
    exact zd_0 hf (zdB_of h (k := 0) rfl) k87
  · cases he
    exact zd_0 hf (zdB_of h (k := 0) rfl) k89
  · cases he
    exact zd_0 hf (zdB_of h (k := 0) rfl) k90
  · cases he
    exact zd_0 hf (zdB_of h (k := 0) rfl) k92
  · cases he
    exact zd_0 hf (zdB_of h (k := 0) rfl) k96
  · cases he
    exact zd_0 hf (zdB_of h (k := 0) rfl) k97
  · cases he
    exact zd_0 hf (zdB_of h (k := 0) rfl) k100
  · cases he
    exact zd_0 hf (zdB_of h (k := 0) rfl) k101
  · cases he
    exact zd_0 hf (zdB_of h (k := 0) rfl) k104
  · cases he
    exact zd_0 hf (zdB_of h (k := 0) rfl) k105
  · cases he
    exact zd_0 hf (zdB_of h (k := 0) rfl) k108
  · cases he
    exact zd_0 hf (zdB_of h (k := 0) rfl) k109
  · cases he
    exact zd_0 hf (zdB_of h (k := 0) rfl) k112
  · cases he
    exact zd_0 hf (zdB_of h (k := 0) rfl) k116
  · cases he
    exact zd_0 hf (zdB_of h (k := 0) rfl) k120
  · cases he
    exact zd_0 hf (zdB_of h (k := 0) rfl) k122
  · cases he
    exact zd_0 hf (zdB_of h (k := 0) rfl) k124
  · cases he
    exact zd_0 hf (zdB_of h (k := 0) rfl) k126
  · cases he
    exact zd_0 hf (zdB_of h (k := 0) rfl) k127
  · cases he
    exact zd_0 hf (zdB_of h (k := 0) rfl) k128
  · cases he
    exact zd_0 hf (zdB_of h (k := 0) rfl) k129
  · cases he
    exact zd_0 hf (zdB_of h (k := 0) rfl) k130
  · cases he
    exact zd_0 hf (zdB_of h (k := 0) rfl) k133
  · cases he
    exact zd_0 hf (zdB_of h (k := 0) rfl) k136
  · cases he
    exact zd_0 hf (zdB_of h (k := 0) rfl) k145
  · cases he
    exact zd_0 hf (zdB_of h (k := 0) rfl) k146
  · cases he
    exact zd_0 hf (zdB_of h (k := 0) rfl) k148
  · cases he
    exact zd_0 hf (zdB_of h (k := 0) rfl) k172
  · cases he
    exact zd_0 hf (zdB_of h (k := 0) rfl) k173
  · cases he
    exact zd_0 hf (zdB_of h (k := 0) rfl) k176
  · cases he
    exact zd_0 hf (zdB_of h (k := 0) rfl) k177
  · cases he
    exact zd_0 hf (zdB_of h (k := 0) rfl) k190
  · rename_i a
    split at he
    · rename_i ha
      cases he
      have ha2 : a = -1 ∨ a = 0 ∨ a = 1 ∨ a = 2 ∨ a = 3 ∨ a = 4 ∨ a = 5 := by omega
      rcases ha2 with rfl | rfl | rfl | rfl | rfl | rfl | rfl
      · exact zd_0 hf (zdB_of h (k := 0) rfl) k2
      · exact zd_0 hf (zdB_of h (k := 0) rfl) k3
      · exact zd_0 hf (zdB_of h (k := 0) rfl) k4
      · exact zd_0 hf (zdB_of h (k := 0) rfl) k5
      · exact zd_0 hf (zdB_of h (k := 0) rfl) k6
      · exact zd_0 hf (zdB_of h (k := 0) rfl) k7
      · exact zd_0 hf (zdB_of h (k := 0) rfl) k8
    · cases he
  · rename_i a
    cases he
    rcases a with ⟨v, hv⟩
    have hv2 : v = 0 ∨ v = 1 := by omega
    rcases hv2 with rfl | rfl
    · exact zd_0 hf (zdB_of h (k := 0) rfl) k9
    · exact zd_0 hf (zdB_of h (k := 0) rfl) k10
  · rename_i a
    cases he
    rcases a with ⟨v, hv⟩
    have hv2 : v = 0 ∨ v = 1 ∨ v = 2 ∨ v = 3 := by omega
    rcases hv2 with rfl | rfl | rfl | rfl
    · exact zd_0 hf (zdB_of h (k := 0) rfl) k26
    · exact zd_0 hf (zdB_of h (k := 0) rfl) k27
    · exact zd_0 hf (zdB_of h (k := 0) rfl) k28
    · exact zd_0 hf (zdB_of h (k := 0) rfl) k29
  · rename_i a
    cases he
    rcases a with ⟨v, hv⟩
    have hv2 : v = 0 ∨ v = 1 ∨ v = 2 ∨ v = 3 := by omega
    rcases hv2 with rfl | rfl | rfl | rfl
    · exact zd_0 hf (zdB_of h (k := 0) rfl) k30
    · exact zd_0 hf (zdB_of h (k := 0) rfl) k31
    · exact zd_0 hf (zdB_of h (k := 0) rfl) k32
    · exact zd_0 hf (zdB_of h (k := 0) rfl) k33
  · rename_i a
    cases he
    rcases a with ⟨v, hv⟩
    have hv2 : v = 0 ∨ v = 1 ∨ v = 2 ∨ v = 3 := by omega
    rcases hv2 with rfl | rfl | rfl | rfl
    · exact zd_0 hf (zdB_of h (k := 0) rfl) k42
    · exact zd_0 hf (zdB_of h (k := 0) rfl) k43
    · exact zd_0 hf (zdB_of h (k := 0) rfl) k44
    · exact zd_0 hf (zdB_of h (k := 0) rfl) k45
  · rename_i a
    cases he
    rcases a with ⟨v, hv⟩
    have hv2 : v = 0 ∨ v = 1 ∨ v = 2 ∨ v = 3 := by omega
    rcases hv2 with rfl | rfl | rfl | rfl
    · exact zd_0 hf (zdB_of h (k := 0) rfl) k59
    · exact zd_0 hf (zdB_of h (k := 0) rfl) k60
    · exact zd_0 hf (zdB_of h (k := 0) rfl) k61
    · exact zd_0 hf (zdB_of h (k := 0) rfl) k62
  · rename_i a
    cases he
    rcases a with ⟨v, hv⟩
    have hv2 : v = 0 ∨ v = 1 ∨ v = 2 ∨ v = 3 := by omega
    rcases hv2 with rfl | rfl | rfl | rfl
    · exact zd_0 hf (zdB_of h (k := 0) rfl) k63
    · exact zd_0 hf (zdB_of h (k := 0) rfl) k64
    · exact zd_0 hf (zdB_of h (k := 0) rfl) k65
    · exact zd_0 hf (zdB_of h (k := 0) rfl) k66
  · rename_i a
    cases he
    rcases a with ⟨v, hv⟩
    have hv2 : v = 0 ∨ v = 1 ∨ v = 2 ∨ v = 3 := by omega
    rcases hv2 with rfl | rfl | rfl | rfl
    · exact zd_0 hf (zdB_of h (k := 0) rfl) k75
    · exact zd_0 hf (zdB_of h (k := 0) rfl) k76
    · exact zd_0 hf (zdB_of h (k := 0) rfl) k77
    · exact zd_0 hf (zdB_of h (k := 0) rfl) k78
  · rename_i a
    split at he
    · rename_i ha
      cases he
      have w := zd_1 hf (zdB_of h (k := 0) rfl) (zdB_of h (k := 1) rfl) k18
      rw [zd_n ha] at w
      exact w
    · cases he
  · rename_i a
    split at he
    · rename_i ha
      cases he
      have w := zd_1 hf (zdB_of h (k := 0) rfl) (zdB_of h (k := 1) rfl) k21
      rw [zd_n ha] at w
      exact w
    · cases he
  · rename_i a
    split at he
    · rename_i ha
      cases he
      have w := zd_1 hf (zdB_of h (k := 0) rfl) (zdB_of h (k := 1) rfl) k22
      rw [zd_n ha] at w
      exact w
    · cases he
  · rename_i a
    split at he
    · rename_i ha
      cases he
      have w := zd_1 hf (zdB_of h (k := 0) rfl) (zdB_of h (k := 1) rfl) k25
      rw [zd_n ha] at w
      exact w
    · cases he
  · rename_i a
    split at he
    · rename_i ha
      cases he
      have w := zd_1 hf (zdB_of h (k := 0) rfl) (zdB_of h (k := 1) rfl) k54
      rw [zd_n ha] at w
      exact w
    · cases he
  · rename_i a
    split at he
    · rename_i ha
      cases he
      have w := zd_1 hf (zdB_of h (k := 0) rfl) (zdB_of h (k := 1) rfl) k55
      rw [zd_n ha] at w
      exact w
    · cases he
  · rename_i a
    split at he
    · rename_i ha
      cases he
      have w := zd_1 hf (zdB_of h (k := 0) rfl) (zdB_of h (k := 1) rfl) k58
      rw [zd_n ha] at w
      exact w
    · cases he
  · rename_i a
    split at he
    · rename_i ha
      cases he
      have w := zd_2 hf (zdB_of h (k := 0) rfl) (zdB_of h (k := 1) rfl) (zdB_of h (k := 2) rfl) k19
      rw [zd_u16 ha] at w
      exact w
    · cases he
  · rename_i a
    split at he
    · rename_i ha
      cases he
      have w := zd_2 hf (zdB_of h (k := 0) rfl) (zdB_of h (k := 1) rfl) (zdB_of h (k := 2) rfl) k20
      rw [zd_u16 ha] at w
      exact w
    · cases he
  · rename_i a
    split at he
    · rename_i ha
      cases he
      have w := zd_2 hf (zdB_of h (k := 0) rfl) (zdB_of h (k := 1) rfl) (zdB_of h (k := 2) rfl) k178
      rw [zd_u16 ha] at w
      exact w
    · cases he
  · rename_i a
    split at he
    · rename_i ha
      cases he
      have w := zd_2 hf (zdB_of h (k := 0) rfl) (zdB_of h (k := 1) rfl) (zdB_of h (k := 2) rfl) k180
      rw [zd_u16 ha] at w
      exact w
    · cases he
  · rename_i a
    split at he
    · rename_i ha
      cases he
      have w := zd_2 hf (zdB_of h (k := 0) rfl) (zdB_of h (k := 1) rfl) (zdB_of h (k := 2) rfl) k181
      rw [zd_u16 ha] at w
      exact w
    · cases he
  · rename_i a
    split at he
    · rename_i ha
      cases he
      have w := zd_2 hf (zdB_of h (k := 0) rfl) (zdB_of h (k := 1) rfl) (zdB_of h (k := 2) rfl) k182
      rw [zd_u16 ha] at w
      exact w
    · cases he
  · rename_i a
    split at he
    · rename_i ha
      cases he
      have w := zd_2 hf (zdB_of h (k := 0) rfl) (zdB_of h (k := 1) rfl) (zdB_of h (k := 2) rfl) k183
      rw [zd_u16 ha] at w
      exact w
    · cases he
  · rename_i a
    split at he
    · rename_i ha
      cases he
      have w := zd_2 hf (zdB_of h (k := 0) rfl) (zdB_of h (k := 1) rfl) (zdB_of h (k := 2) rfl) k184
      rw [zd_u16 ha] at w
      exact w
    · cases he
  · rename_i a
    split at he
    · rename_i ha
      cases he
      have w := zd_2 hf (zdB_of h (k := 0) rfl) (zdB_of h (k := 1) rfl) (zdB_of h (k := 2) rfl) k187
      rw [zd_u16 ha] at w
      exact w
    · cases he
  · rename_i a
    split at he
    · rename_i ha
      cases he
      have w := zd_2 hf (zdB_of h (k := 0) rfl) (zdB_of h (k := 1) rfl) (zdB_of h (k := 2) rfl) k189
      rw [zd_u16 ha] at w
      exact w
    · cases he
  · rename_i a
    split at he
    · rename_i ha
      cases he
      have w := zd_2 hf (zdB_of h (k := 0) rfl) (zdB_of h (k := 1) rfl) (zdB_of h (k := 2) rfl) k192
      rw [zd_u16 ha] at w
      exact w
    · cases he
  · rename_i a
    split at he
    · rename_i ha
      cases he
      have w := zd_s hf (zdB_of h (k := 0) rfl) (zdB_of h (k := 1) rfl) (zdB_of h (k := 2) rfl) k167
      rw [zd_g16 ha] at w
      exact w
    · cases he
  · rename_i a
    split at he
    · rename_i ha
      cases he
      have w := zd_s hf (zdB_of h (k := 0) rfl) (zdB_of h (k := 1) rfl) (zdB_of h (k := 2) rfl) k198
      rw [zd_g16 ha] at w
      exact w
    · cases he
  · rename_i a
    split at he
    · rename_i ha
      cases he
      have w := zd_s hf (zdB_of h (k := 0) rfl) (zdB_of h (k := 1) rfl) (zdB_of h (k := 2) rfl) k199
      rw [zd_g16 ha] at w
      exact w
    · cases he
  · rename_i a
    split at he
    · rename_i ha
      cases he
      have w := zd_s hf (zdB_of h (k := 0) rfl) (zdB_of h (k := 1) rfl) (zdB_of h (k := 2) rfl) k17
      rw [zd_g16 ha] at w
      exact w
    · cases he
  · rename_i a
    split at he
    · rename_i ha
      cases he
      have w := zd_s hf (zdB_of h (k := 0) rfl) (zdB_of h (k := 1) rfl) (zdB_of h (k := 2) rfl) k153
      rw [zd_g16 ha] at w
      exact w
    · cases he
  · rename_i a
    split at he
    · rename_i ha
      cases he
      have w := zd_s hf (zdB_of h (k := 0) rfl) (zdB_of h (k := 1) rfl) (zdB_of h (k := 2) rfl) k154
      rw [zd_g16 ha] at w
      exact w
    · cases he
  · rename_i a
    split at he
    · rename_i ha
      cases he
      have w := zd_s hf (zdB_of h (k := 0) rfl) (zdB_of h (k := 1) rfl) (zdB_of h (k := 2) rfl) k155
      rw [zd_g16 ha] at w
      exact w
    · cases he
  · rename_i a
    split at he
    · rename_i ha
      cases he
      have w := zd_s hf (zdB_of h (k := 0) rfl) (zdB_of h (k := 1) rfl) (zdB_of h (k := 2) rfl) k156
      rw [zd_g16 ha] at w
      exact w
    · cases he
  · rename_i a
    split at he
    · rename_i ha
      cases he
      have w := zd_s hf (zdB_of h (k := 0) rfl) (zdB_of h (k := 1) rfl) (zdB_of h (k := 2) rfl) k157
      rw [zd_g16 ha] at w
      exact w
    · cases he
  · rename_i a
    split at he
    · rename_i ha
      cases he
      have w := zd_s hf (zdB_of h (k := 0) rfl) (zdB_of h (k := 1) rfl) (zdB_of h (k := 2) rfl) k158
      rw [zd_g16 ha] at w
      exact w
    · cases he
  · rename_i a
    split at he
    · rename_i ha
      cases he
      have w := zd_s hf (zdB_of h (k := 0) rfl) (zdB_of h (k := 1) rfl) (zdB_of h (k := 2) rfl) k159
      rw [zd_g16 ha] at w
      exact w
    · cases he
  · rename_i a
    split at he
    · rename_i ha
      cases he
      have w := zd_s hf (zdB_of h (k := 0) rfl) (zdB_of h (k := 1) rfl) (zdB_of h (k := 2) rfl) k160
      rw [zd_g16 ha] at w
      exact w
    · cases he
  · rename_i a
    split at he
    · rename_i ha
      cases he
      have w := zd_s hf (zdB_of h (k := 0) rfl) (zdB_of h (k := 1) rfl) (zdB_of h (k := 2) rfl) k161
      rw [zd_g16 ha] at w
      exact w
    · cases he
  · rename_i a
    split at he
    · rename_i ha
      cases he
      have w := zd_s hf (zdB_of h (k := 0) rfl) (zdB_of h (k := 1) rfl) (zdB_of h (k := 2) rfl) k162
      rw [zd_g16 ha] at w
      exact w
    · cases he
  · rename_i a
    split at he
    · rename_i ha
      cases he
      have w := zd_s hf (zdB_of h (k := 0) rfl) (zdB_of h (k := 1) rfl) (zdB_of h (k := 2) rfl) k163
      rw [zd_g16 ha] at w
      exact w
    · cases he
  · rename_i a
    split at he
    · rename_i ha
      cases he
      have w := zd_s hf (zdB_of h (k := 0) rfl) (zdB_of h (k := 1) rfl) (zdB_of h (k := 2) rfl) k164
      rw [zd_g16 ha] at w
      exact w
    · cases he
  · rename_i a
    split at he
    · rename_i ha
      cases he
      have w := zd_s hf (zdB_of h (k := 0) rfl) (zdB_of h (k := 1) rfl) (zdB_of h (k := 2) rfl) k165
      rw [zd_g16 ha] at w
      exact w
    · cases he
  · rename_i a
    split at he
    · rename_i ha
      cases he
      have w := zd_s hf (zdB_of h (k := 0) rfl) (zdB_of h (k := 1) rfl) (zdB_of h (k := 2) rfl) k166
      rw [zd_g16 ha] at w
      exact w
    · cases he
  · rename_i a
    split at he
    · rename_i ha
      cases he
      have w := zd_dec (cc := cc) (pc := pc) (i := .bipush (Jvm.ClassFile.Reader.signed 8 (UInt8.ofNat (a % 256).toNat).toNat)) (q := pc + 1 + 1) (by rw [hf, zd_bind (zd_u1 (show zdB cc pc _ from zdB_of h (k := 0) rfl)), show f (16 : UInt8).toNat = _ from k16, zd_bind (zd_s1 (zdB_of h (k := 1) rfl))]; rfl)
      rw [zd_g8 ha, show pc + 1 + 1 - pc = 2 by omega] at w
      exact w
    · cases he
  · rename_i a b
    split at he
    · rename_i ha
      cases he
      have w := zd_dec (cc := cc) (pc := pc) (i := .iinc (UInt8.ofNat a).toNat (Jvm.ClassFile.Reader.signed 8 (UInt8.ofNat (b % 256).toNat).toNat)) (q := pc + 1 + 1 + 1) (by rw [hf, zd_bind (zd_u1 (show zdB cc pc _ from zdB_of h (k := 0) rfl)), show f (132 : UInt8).toNat = _ from k132, zd_bind (zd_u1 (zdB_of h (k := 1) rfl)), zd_bind (zd_s1 (zdB_of h (k := 2) rfl))]; rfl)
      rw [zd_n ha.1, zd_g8 ha.2, show pc + 1 + 1 + 1 - pc = 3 by omega] at w
      exact w
    · cases he
  · cases he
    have w := zd_dec (cc := cc) (pc := pc) (i := .newarray .boolean) (q := pc + 1 + 1) (by rw [hf, zd_bind (zd_u1 (show zdB cc pc _ from zdB_of h (k := 0) rfl)), show f (188 : UInt8).toNat = _ from k188]; unfold Jvm.ClassFile.Decoder.newarray; rw [zd_bind (zd_u1 (zdB_of h (k := 1) rfl))]; rfl)
    rw [show pc + 1 + 1 - pc = 2 by omega] at w
    exact w
  · cases he
    have w := zd_dec (cc := cc) (pc := pc) (i := .newarray .byte) (q := pc + 1 + 1) (by rw [hf, zd_bind (zd_u1 (show zdB cc pc _ from zdB_of h (k := 0) rfl)), show f (188 : UInt8).toNat = _ from k188]; unfold Jvm.ClassFile.Decoder.newarray; rw [zd_bind (zd_u1 (zdB_of h (k := 1) rfl))]; rfl)
    rw [show pc + 1 + 1 - pc = 2 by omega] at w
    exact w
  · cases he
    have w := zd_dec (cc := cc) (pc := pc) (i := .newarray .int) (q := pc + 1 + 1) (by rw [hf, zd_bind (zd_u1 (show zdB cc pc _ from zdB_of h (k := 0) rfl)), show f (188 : UInt8).toNat = _ from k188]; unfold Jvm.ClassFile.Decoder.newarray; rw [zd_bind (zd_u1 (zdB_of h (k := 1) rfl))]; rfl)
    rw [show pc + 1 + 1 - pc = 2 by omega] at w
    exact w
  · cases he
    have w := zd_dec (cc := cc) (pc := pc) (i := .newarray .long) (q := pc + 1 + 1) (by rw [hf, zd_bind (zd_u1 (show zdB cc pc _ from zdB_of h (k := 0) rfl)), show f (188 : UInt8).toNat = _ from k188]; unfold Jvm.ClassFile.Decoder.newarray; rw [zd_bind (zd_u1 (zdB_of h (k := 1) rfl))]; rfl)
    rw [show pc + 1 + 1 - pc = 2 by omega] at w
    exact w
  · rename_i a
    split at he
    · rename_i ha
      cases he
      have w := zd_dec (cc := cc) (pc := pc) (i := .multianewarray ((UInt8.ofNat (a / 256)).toNat * 256 + (UInt8.ofNat (a % 256)).toNat) 2) (q := pc + 1 + 2 + 1) (by rw [hf, zd_bind (zd_u1 (show zdB cc pc _ from zdB_of h (k := 0) rfl)), show f (197 : UInt8).toNat = _ from k197]; unfold Jvm.ClassFile.Decoder.multianewarray; rw [zd_bind (zd_u2 (zdB_of h (k := 1) rfl) (zdB_of h (k := 2) rfl)), zd_bind (zd_u1 (zdB_of h (k := 3) rfl))]; rfl)
      rw [zd_u16 ha, show pc + 1 + 2 + 1 - pc = 4 by omega] at w
      exact w
    · cases he
  · rename_i a
    split at he
    · rename_i ha
      cases he
      have w := zd_dec (cc := cc) (pc := pc) (i := .multianewarray ((UInt8.ofNat (a / 256)).toNat * 256 + (UInt8.ofNat (a % 256)).toNat) 3) (q := pc + 1 + 2 + 1) (by rw [hf, zd_bind (zd_u1 (show zdB cc pc _ from zdB_of h (k := 0) rfl)), show f (197 : UInt8).toNat = _ from k197]; unfold Jvm.ClassFile.Decoder.multianewarray; rw [zd_bind (zd_u2 (zdB_of h (k := 1) rfl) (zdB_of h (k := 2) rfl)), zd_bind (zd_u1 (zdB_of h (k := 3) rfl))]; rfl)
      rw [zd_u16 ha, show pc + 1 + 2 + 1 - pc = 4 by omega] at w
      exact w
    · cases he
  · cases he
/-- lists of bytes, in one pass -/
def zlq : List UInt8 → List UInt8 → Bool
  | [], [] => true
  | a :: l, b :: m => Nat.beq a.toNat b.toNat && zlq l m
  | _, _ => false
theorem zlq_of : ∀ l m : List UInt8, zlq l m = true → l = m
  | [], [], _ => rfl
  | a :: l, b :: m, h => by
    unfold zlq at h
    rw [Bool.and_eq_true] at h
    rw [UInt8.toNat_inj.mp (Nat.eq_of_beq_eq_true h.1), zlq_of l m h.2]
  | [], _ :: _, h => by cases h
  | _ :: _, [], h => by cases h
noncomputable def zdq (cc : ByteArray) (pc : Nat) (i : zdI) (n : Nat) : Bool := match zen i with
  | some l => Nat.beq n l.length && zlq ((kzD (pc % 64) (kzD (64 * (pc / 64)) cc.data.toList)).take n) l
  | none => decide (decode cc pc = .ok (i, n))
theorem zdq_of {n : Nat} (h : zdq cc pc i n = true) : decode cc pc = .ok (i, n) := by
  unfold zdq at h
  split at h
  · rename_i l hl
    rw [Bool.and_eq_true] at h
    have h1 := Nat.eq_of_beq_eq_true h.1
    subst h1
    exact zen_ok hl (zlq_of _ _ (by rw [show cc.data.toList.drop pc = kzD (pc % 64) (kzD (64 * (pc / 64)) cc.data.toList) by rw [kzD_eq, kzD_eq, List.drop_drop, Nat.div_add_mod]]; exact h.2))
  · exact of_decide_eq_true h
end ZDE
end
section
/-! what stands outside the heap of the mini machine; instructions that don't see the heap -/
def A0 (base : Nat) : Nat → Prop := fun q => base ≤ q
def sref : List (String × Nat × String) := [("WheelLand$Reader", 125, "week season heads wheels skill caste other count strength hanks idle far price owe wage duty may stamp or and not "), ("WheelLand$Reader", 108, "+-*/()[]<>=;"), ("WheelLandModel", 141, "owe"), ("WheelLandModel", 143, "wage"), ("WheelLandModel", 145, "duty"), ("WheelLandModel", 147, "may"), ("WheelLandModel", 149, "stamp"), ("WheelLandModel", 155, "week"), ("WheelLandModel", 157, "season"), ("WheelLandModel", 159, "heads"), ("WheelLandModel", 160, "wheels"), ("WheelLandModel", 161, "skill"), ("WheelLandModel", 162, "caste"), ("WheelLandModel", 163, "other"), ("WheelLandModel", 165, "count"), ("WheelLandModel", 167, "strength"), ("WheelLandModel", 169, "hanks"), ("WheelLandModel", 171, "idle"), ("WheelLandModel", 172, "far"), ("WheelLandModel", 174, "price"), ("WheelLandModel", 392, "not"), ("WheelLandModel", 400, "and"), ("WheelLandModel", 405, "or")]
def stxt : List (List Int) := [[119, 101, 101, 107, 32, 115, 101, 97, 115, 111, 110, 32, 104, 101, 97, 100, 115, 32, 119, 104, 101, 101, 108, 115, 32, 115, 107, 105, 108, 108, 32, 99, 97, 115, 116, 101, 32, 111, 116, 104, 101, 114, 32, 99, 111, 117, 110, 116, 32, 115, 116, 114, 101, 110, 103, 116, 104, 32, 104, 97, 110, 107, 115, 32, 105, 100, 108, 101, 32, 102, 97, 114, 32, 112, 114, 105, 99, 101, 32, 111, 119, 101, 32, 119, 97, 103, 101, 32, 100, 117, 116, 121, 32, 109, 97, 121, 32, 115, 116, 97, 109, 112, 32, 111, 114, 32, 97, 110, 100, 32, 110, 111, 116, 32], [43, 45, 42, 47, 40, 41, 91, 93, 60, 62, 61, 59], [111, 119, 101], [119, 97, 103, 101], [100, 117, 116, 121], [109, 97, 121], [115, 116, 97, 109, 112], [119, 101, 101, 107], [115, 101, 97, 115, 111, 110], [104, 101, 97, 100, 115], [119, 104, 101, 101, 108, 115], [115, 107, 105, 108, 108], [99, 97, 115, 116, 101], [111, 116, 104, 101, 114], [99, 111, 117, 110, 116], [115, 116, 114, 101, 110, 103, 116, 104], [104, 97, 110, 107, 115], [105, 100, 108, 101], [102, 97, 114], [112, 114, 105, 99, 101], [110, 111, 116], [97, 110, 100], [111, 114]]
def slen : List Nat := stxt.map List.length
def sbyt : List (List Int32) := stxt.map (fun l => l.map Int32.ofInt)
abbrev dfN : String := "DEFAULTCAPACITY_EMPTY_ELEMENTDATA"
abbrev dfD : String := "[Ljava/lang/Object;"
def Stt (base : Nat) (rf : Int → Option Nat) (sc : List Int) (s : State) : Prop :=
  base ≤ s.heap.size ∧ rf 0 = none ∧
  (∃ t, rf (-2) = some t ∧ va_Z RJx4a65c dfN dfD (.ref t) (A0 base) s s.heap ∧ va_T (.object "java/lang/Object") t 0 (fun _ => .null) (A0 base) s s.heap) ∧
  (∃ b, rf (-1) = some b ∧ b < base ∧ va_X b sc.length (fun j => Int32.ofInt (sc.getD j 0)) s s.heap ∧ (∀ x ∈ sc, in32 x) ∧ sc.length ≤ 100000) ∧
  ∃ adK adV : Nat → Nat, vk_S 23 slen sbyt adK adV (A0 base) s s.heap ∧ (∀ i : Nat, i < 23 → rf (-10 - (i : Int)) = some (adK i) ∧ rf (-100 - (i : Int)) = some (adV i)) ∧ (∀ (i : Nat) (q : String × Nat × String), sref[i]? = some q → vk_R q.1 q.2.1 q.2.2 (adK i) s) ∧
  (va_Z "java/lang/String" "COMPACT_STRINGS" "Z" (.int 1) (A0 base) s s.heap ∧ va_Z "jdk/internal/util/Preconditions" "SIOOBE_FORMATTER" "Ljava/util/function/BiFunction;" (va_rf (rf (-3))) (A0 base) s s.heap ∧ (∃ mi, rf (-4) = some mi ∧ va_Mi "[Ljava/lang/Object;" mi s) ∧ va_Dc s)
def Cx (p : Program) (s : State) (m : MethodId) (args : Array Value) (c : Code) (cc : ByteArray) (nL : Nat) (own : String) : Prop :=
  p.tables.exec = Jvm.exec ∧ c.code = cc ∧ c.maxLocals = nL ∧ s.vm.findClass own = some m.cls ∧ ∀ w ∈ lw_use, w.before args s = true
noncomputable def dq (cc : ByteArray) (pc : Nat) (i : Instr) (n : Nat) : Bool := zdq cc pc i n
noncomputable def wq (i : Nat) (w : Cond) : Bool := decide (wAt i = some w) && usable w
theorem dq_of {cc : ByteArray} {pc : Nat} {i : Instr} {n : Nat} (h : dq cc pc i n = true) : decode cc pc = .ok (i, n) := zdq_of h
theorem wq_of {i : Nat} {w : Cond} (h : wq i w = true) : w ∈ lw_use := by
  unfold wq at h
  rw [Bool.and_eq_true] at h
  exact List.mem_filter.mpr ⟨wAt_mem (of_decide_eq_true h.1), h.2⟩
/-- bytes compared in one pass -/
def lq : List UInt8 → List UInt8 → Bool
  | [], [] => true
  | a :: r, b :: q => Nat.beq a.toNat b.toNat && lq r q
  | _, _ => false
theorem lq_of : ∀ {l q : List UInt8}, lq l q = true → l = q
  | [], [], _ => rfl
  | [], _ :: _, h => by cases h
  | _ :: _, [], h => by cases h
  | a :: r, b :: q, h => by
    have h : (Nat.beq a.toNat b.toNat && lq r q) = true := h
    rw [Bool.and_eq_true] at h
    rw [lq_of h.2, UInt8.toNat_inj.mp (Nat.eq_of_beq_eq_true h.1)]
def wcq : Option Jvm.Cond → Jvm.Cond → Bool
  | some (.code n c k r), .code n' c' k' r' => (decide (n = n') && decide (k = k')) && (decide (r = r') && lq c.data.toList c'.data.toList)
  | _, _ => false
theorem wcq_of {o : Option Jvm.Cond} {w : Jvm.Cond} (h : wcq o w = true) : o = some w := by
  unfold wcq at h
  split at h
  · simp only [Bool.and_eq_true, decide_eq_true_eq] at h
    obtain ⟨⟨rfl, rfl⟩, rfl, h⟩ := h
    have h := lq_of h
    congr 2
    exact ByteArray.ext (Array.toList_inj.mp h)
  · cases h
noncomputable def wc (i : Nat) (w : Jvm.Cond) : Bool := wcq (wAt i) w && usable w
theorem wc_of {i : Nat} {w : Jvm.Cond} (h : wc i w = true) : w ∈ lw_use := by
  unfold wc at h
  rw [Bool.and_eq_true] at h
  exact List.mem_filter.mpr ⟨wAt_mem (wcq_of h.1), h.2⟩
def ib (k : Nat) : Instr := if k = 0 then .iadd else if k = 1 then .isub else if k = 2 then .imul else if k = 3 then .idiv else if k = 4 then .irem else if k = 5 then .iand else if k = 6 then .ior else if k = 7 then .ixor else if k = 8 then .ishl else if k = 9 then .ishr else .iushr
def lb (k : Nat) : Instr := if k = 0 then .ladd else if k = 1 then .lsub else if k = 2 then .lmul else if k = 3 then .ldiv else if k = 5 then .land else .lor
def f4 (a : Int) : Fin 4 := Fin.ofNat 4 a.toNat
/-- a constant -/
noncomputable def dcK (own : String) (cc : ByteArray) (pc nx : Nat) (a b : Int) (g0 g1 g2 : Nat) : Bool :=
    if g0 = 0 then b == 0 && (nx == pc + 1 && dq cc pc (.iconst a) 1) && decide (-1 ≤ a ∧ a ≤ 5)
    else if g0 = 1 then b == 0 && (nx == pc + 2 && dq cc pc (.bipush a) 2) && decide (-128 ≤ a ∧ a ≤ 127 ∧ (Int8.ofInt a).toInt32 = Int32.ofInt a)
    else if g0 = 2 then b == 0 && (nx == pc + 3 && dq cc pc (.sipush a) 3) && decide (-32768 ≤ a ∧ a ≤ 32767 ∧ (Int16.ofInt a).toInt32 = Int32.ofInt a)
    else if g0 = 3 then b == 0 && (nx == pc + 2 && dq cc pc (.ldc g2) 2) && (wq g1 (.constant own g2 (Int32.ofInt a)) && decide (-2147483648 ≤ a ∧ a ≤ 2147483647))
    else if g0 = 4 then b == 0 && (nx == pc + 3 && dq cc pc (.ldc_w g2) 3) && (wq g1 (.constant own g2 (Int32.ofInt a)) && decide (-2147483648 ≤ a ∧ a ≤ 2147483647))
    else if g0 = 5 then b == 1 && (nx == pc + 1 && dq cc pc (.lconst (Fin.ofNat 2 a.toNat)) 1) && decide (a = 0 ∨ a = 1)
    else if g0 = 6 then b == 1 && (nx == pc + 3 && dq cc pc (.ldc2_w g2) 3) && (wq g1 (.constantLong own g2 (Int64.ofInt a)) && decide (-9223372036854775808 ≤ a ∧ a ≤ 9223372036854775807))
    else if g0 = 7 then b == 2 && (nx == pc + 1 && dq cc pc .aconst_null 1) && a == 0
    else if g0 = 8 then b == 2 && (nx == pc + 2 && dq cc pc (.ldc g2) 2) && (a == -10 - (g1 : Int) && ((sref.getD g1 ("", 0, "")).1 == own && (sref.getD g1 ("", 0, "")).2.1 == g2 && decide (g1 < 23)))
    else if g0 = 10 then b == 2 && (nx == pc + 3 && dq cc pc (.ldc_w g2) 3) && (a == -10 - (g1 : Int) && ((sref.getD g1 ("", 0, "")).1 == own && (sref.getD g1 ("", 0, "")).2.1 == g2 && decide (g1 < 23)))
    else if g0 = 9 then b == 2 && (nx == pc + 3 && dq cc pc (.getstatic g2) 3) && (a == -2 && decide (own = RJx4a65c) && wq g1 (.fieldLink own g2 RJx4a65c dfN dfD))
    else false
/-- a local's load or store: the short form (g0 = 0) or the long one -/
noncomputable def dcV (cc : ByteArray) (pc nx : Nat) (a b : Int) (g0 : Nat) (s0 s1 s2 : Fin 4 → Instr) (l0 l1 l2 : Nat → Instr) : Bool :=
  decide (0 ≤ a) && (if g0 = 0 then (nx == pc + 1 && decide (a < 4)) && (if b = 0 then dq cc pc (s0 (f4 a)) 1 else if b = 1 then dq cc pc (s1 (f4 a)) 1 else b == 2 && dq cc pc (s2 (f4 a)) 1)
    else nx == pc + 2 && (if b = 0 then dq cc pc (l0 a.toNat) 2 else if b = 1 then dq cc pc (l1 a.toNat) 2 else b == 2 && dq cc pc (l2 a.toNat) 2))
noncomputable def d1 (cc : ByteArray) (pc nx : Nat) (i : Instr) : Bool := nx == pc + 1 && dq cc pc i 1
/-- the bytes at pc are this instruction -/
noncomputable def dcP (own : String) (cc : ByteArray) (pc op nx : Nat) (a b : Int) (os : List Int) : Bool :=
  if op = 0 then dcK own cc pc nx a b (os.getD 0 0).toNat (os.getD 1 0).toNat (os.getD 2 0).toNat
  else if op = 1 then dcV cc pc nx a b (os.getD 0 0).toNat .iload_n .lload_n .aload_n .iload .lload .aload
  else if op = 2 then dcV cc pc nx a b (os.getD 0 0).toNat .istore_n .lstore_n .astore_n .istore .lstore .astore
  else if op = 3 then decide (0 ≤ a) && (nx == pc + 3 && dq cc pc (.iinc a.toNat b) 3)
  else if op = 4 then d1 cc pc nx (ib a.toNat)
  else if op = 5 then d1 cc pc nx (lb a.toNat)
  else if op = 6 then d1 cc pc nx .ineg
  else if op = 7 then d1 cc pc nx .i2l
  else if op = 8 then d1 cc pc nx .l2i
  else if op = 9 then d1 cc pc nx .i2b
  else if op = 10 then d1 cc pc nx .i2c
  else if op = 11 then d1 cc pc nx .lcmp
  else if op = 12 then d1 cc pc nx .dup
  else if op = 13 then d1 cc pc nx .dup_x1
  else if op = 14 then d1 cc pc nx .dup2
  else if op = 15 then d1 cc pc nx .pop
  else false
theorem d1_of {cc : ByteArray} {pc nx : Nat} {i : Instr} (h : d1 cc pc nx i = true) : nx = pc + 1 ∧ decode cc pc = .ok (i, 1) := by
  unfold d1 at h
  rw [Bool.and_eq_true, beq_iff_eq] at h
  exact ⟨h.1, dq_of h.2⟩
theorem dcV_of {cc : ByteArray} {pc nx : Nat} {a b : Int} {g0 : Nat} {s0 s1 s2 : Fin 4 → Instr} {l0 l1 l2 : Nat → Instr} (h : dcV cc pc nx a b g0 s0 s1 s2 l0 l1 l2 = true) :
    0 ≤ a ∧ ((b = 0 ∧ ((∃ k : Fin 4, decode cc pc = .ok (s0 k, 1) ∧ (k : Nat) = a.toNat ∧ nx = pc + 1) ∨ (decode cc pc = .ok (l0 a.toNat, 2) ∧ nx = pc + 2))) ∨
      (b = 1 ∧ ((∃ k : Fin 4, decode cc pc = .ok (s1 k, 1) ∧ (k : Nat) = a.toNat ∧ nx = pc + 1) ∨ (decode cc pc = .ok (l1 a.toNat, 2) ∧ nx = pc + 2))) ∨
      (b = 2 ∧ ((∃ k : Fin 4, decode cc pc = .ok (s2 k, 1) ∧ (k : Nat) = a.toNat ∧ nx = pc + 1) ∨ (decode cc pc = .ok (l2 a.toNat, 2) ∧ nx = pc + 2)))) := by
  unfold dcV at h
  rw [Bool.and_eq_true, decide_eq_true_eq] at h
  obtain ⟨h0, h⟩ := h
  refine ⟨h0, ?_⟩
  by_cases hg : g0 = 0
  · rw [if_pos hg, Bool.and_eq_true, Bool.and_eq_true, beq_iff_eq, decide_eq_true_eq] at h
    obtain ⟨⟨h1, h2⟩, h3⟩ := h
    have e4 : ((f4 a : Fin 4) : Nat) = a.toNat := by
      unfold f4
      simp only [Fin.ofNat]
      omega
    by_cases b0 : b = 0
    · rw [if_pos b0] at h3
      exact Or.inl ⟨b0, Or.inl ⟨f4 a, dq_of h3, e4, h1⟩⟩
    · rw [if_neg b0] at h3
      by_cases b1 : b = 1
      · rw [if_pos b1] at h3
        exact Or.inr (Or.inl ⟨b1, Or.inl ⟨f4 a, dq_of h3, e4, h1⟩⟩)
      · rw [if_neg b1, Bool.and_eq_true, beq_iff_eq] at h3
        exact Or.inr (Or.inr ⟨h3.1, Or.inl ⟨f4 a, dq_of h3.2, e4, h1⟩⟩)
  · rw [if_neg hg, Bool.and_eq_true, beq_iff_eq] at h
    obtain ⟨h1, h3⟩ := h
    by_cases b0 : b = 0
    · rw [if_pos b0] at h3
      exact Or.inl ⟨b0, Or.inr ⟨dq_of h3, h1⟩⟩
    · rw [if_neg b0] at h3
      by_cases b1 : b = 1
      · rw [if_pos b1] at h3
        exact Or.inr (Or.inl ⟨b1, Or.inr ⟨dq_of h3, h1⟩⟩)
      · rw [if_neg b1, Bool.and_eq_true, beq_iff_eq] at h3
        exact Or.inr (Or.inr ⟨h3.1, Or.inr ⟨dq_of h3.2, h1⟩⟩)
theorem lcmp_of {x y : Int} (hx : in64 x) (hy : in64 y) : lg_cmp (Int64.ofInt x) (Int64.ofInt y) = Int32.ofInt (l_cmp x y) := by
  unfold lg_cmp l_cmp
  simp only [m_lt hx hy, m_lt hy hx, m_eq hx hy]
  by_cases h1 : x < y
  · simp [h1, show ¬ y < x by omega, show ¬ x = y by omega] <;> decide
  · by_cases h2 : x = y
    · subst h2
      simp <;> decide
    · simp [h1, h2, show y < x by omega] <;> decide
section PU
variable {p : Program} {l : Launch} {e : Env} {R : Room} {s : State} {m : MethodId} {args : Array Value} {below : List Frame} {meth : Method} {c : Code} {H : Heap} {locs : List Loc} {cells slots : Nat} {Q : State → Prop}
variable {cc : ByteArray} {nL : Nat} {own : String} {base : Nat} {rf : Int → Option Nat} {ls st ls' st' : List Vl} {arr : Array Slot} {n : Nat}
/-- a load, of any type -/
theorem snd_load {i : Nat} {v : Vl} (X : Cx p s m args c cc nL own) {pc nx : Nat} (hL : Lr rf ls arr) (hv : ls[i]? = some v) (h9 : v.1 ≠ 9)
    (hd : (v.1 = 0 ∧ ((∃ k : Fin 4, decode cc pc = .ok (.iload_n k, 1) ∧ (k : Nat) = i ∧ nx = pc + 1) ∨ (decode cc pc = .ok (.iload i, 2) ∧ nx = pc + 2))) ∨
      (v.1 = 1 ∧ ((∃ k : Fin 4, decode cc pc = .ok (.lload_n k, 1) ∧ (k : Nat) = i ∧ nx = pc + 1) ∨ (decode cc pc = .ok (.lload i, 2) ∧ nx = pc + 2))) ∨
      (v.1 = 2 ∧ ((∃ k : Fin 4, decode cc pc = .ok (.aload_n k, 1) ∧ (k : Nat) = i ∧ nx = pc + 1) ∨ (decode cc pc = .ok (.aload i, 2) ∧ nx = pc + 2))))
    {rest : List Value} (k : W p l e R s m args below meth c H locs cells slots Q (F0 m nx arr (toV rf v :: rest))) : W p l e R s m args below meth c H locs cells slots Q (F0 m pc arr rest) := by
  obtain ⟨hx, hb, -, -, -⟩ := X
  have ha := hL.2.2 i v hv h9
  obtain ⟨t, x⟩ := v
  rcases hd with ⟨rfl, hd⟩ | ⟨rfl, hd⟩ | ⟨rfl, hd⟩
  · rcases hd with ⟨q, hd, hq, rfl⟩ | ⟨hd, rfl⟩
    · exact lv_iload_n hx hb hd hq ha k
    · exact lv_iload hx hb hd ha k
  · rcases hd with ⟨q, hd, hq, rfl⟩ | ⟨hd, rfl⟩
    · exact lv_lload_n hx hb hd hq ha k
    · exact lv_lload hx hb hd ha k
  · rw [toV_r] at ha k
    cases hr : rf x with
    | none =>
      rw [hr] at ha k
      rcases hd with ⟨q, hd, hq, rfl⟩ | ⟨hd, rfl⟩
      · exact lv_aload_nN hx hb hd hq ha k
      · exact lv_aloadN hx hb hd ha k
    | some y =>
      rw [hr] at ha k
      rcases hd with ⟨q, hd, hq, rfl⟩ | ⟨hd, rfl⟩
      · exact lv_aload_n hx hb hd hq ha k
      · exact lv_aload hx hb hd ha k
theorem snd_store {i : Nat} {v : Vl} (X : Cx p s m args c cc nL own) {pc nx : Nat} (hL : Lr rf ls arr) (hi : i + (if v.1 = 1 then 1 else 0) < ls.length)
    (hd : (v.1 = 0 ∧ ((∃ k : Fin 4, decode cc pc = .ok (.istore_n k, 1) ∧ (k : Nat) = i ∧ nx = pc + 1) ∨ (decode cc pc = .ok (.istore i, 2) ∧ nx = pc + 2))) ∨
      (v.1 = 1 ∧ ((∃ k : Fin 4, decode cc pc = .ok (.lstore_n k, 1) ∧ (k : Nat) = i ∧ nx = pc + 1) ∨ (decode cc pc = .ok (.lstore i, 2) ∧ nx = pc + 2))) ∨
      (v.1 = 2 ∧ ((∃ k : Fin 4, decode cc pc = .ok (.astore_n k, 1) ∧ (k : Nat) = i ∧ nx = pc + 1) ∨ (decode cc pc = .ok (.astore i, 2) ∧ nx = pc + 2))))
    {rest : List Value} (k : ∀ arr', Lr rf (storeL ls i v) arr' → W p l e R s m args below meth c H locs cells slots Q (F0 m nx arr' rest)) : W p l e R s m args below meth c H locs cells slots Q (F0 m pc arr (toV rf v :: rest)) := by
  obtain ⟨hx, hb, -, -, -⟩ := X
  obtain ⟨t, x⟩ := v
  have hh := hL.has
  rcases hd with ⟨rfl, hd⟩ | ⟨rfl, hd⟩ | ⟨rfl, hd⟩
  · rcases hd with ⟨q, hd, hq, rfl⟩ | ⟨hd, rfl⟩
    · exact lv_istore_n hx hb hd hq hh (by simpa using hi) rfl (fun arr' h => k arr' (Lr_store1 rfl (by simp) h))
    · exact lv_istore hx hb hd hh (by simpa using hi) rfl (fun arr' h => k arr' (Lr_store1 rfl (by simp) h))
  · rcases hd with ⟨q, hd, hq, rfl⟩ | ⟨hd, rfl⟩
    · exact lv_lstore_n hx hb hd hq hh (by simpa using hi) rfl (fun arr' h => k arr' (Lr_store2 rfl rfl h))
    · exact lv_lstore hx hb hd hh (by simpa using hi) rfl (fun arr' h => k arr' (Lr_store2 rfl rfl h))
  · have e : toV rf (2, x) = va_rf (rf x) := rfl
    rw [e]
    cases hr : rf x with
    | none =>
      rcases hd with ⟨q, hd, hq, rfl⟩ | ⟨hd, rfl⟩
      · exact lv_astore_nN hx hb hd hq hh (by simpa using hi) rfl (fun arr' h => k arr' (Lr_store1 (by rw [e, hr]; rfl) (by simp) h))
      · exact lv_astoreN hx hb hd hh (by simpa using hi) rfl (fun arr' h => k arr' (Lr_store1 (by rw [e, hr]; rfl) (by simp) h))
    | some y =>
      rcases hd with ⟨q, hd, hq, rfl⟩ | ⟨hd, rfl⟩
      · exact lv_astore_n hx hb hd hq hh (by simpa using hi) rfl (fun arr' h => k arr' (Lr_store1 (by rw [e, hr]; rfl) (by simp) h))
      · exact lv_astore hx hb hd hh (by simpa using hi) rfl (fun arr' h => k arr' (Lr_store1 (by rw [e, hr]; rfl) (by simp) h))
end PU
end
section
/-! an instruction that doesn't see the heap: the machine's step -/
theorem ibin_row {p : Program} {l : Launch} {e : Env} {R : Room} {s : State} {m : MethodId} {args : Array Value} {below : List Frame} {meth : Method} {c : Code} {H : Heap} {locs : List Loc} {cells slots : Nat} {Q : State → Prop} {cc : ByteArray} {arr : Array Slot} {pc q : Nat} {x y z : Int} {rest : List Value}
    (hx : p.tables.exec = Jvm.exec) (hb : c.code = cc) (hd : decode cc pc = .ok (ib q, 1)) (hz : ibin q x y = some z) (hx2 : in32 x) (hy : in32 y)
    (k : W p l e R s m args below meth c H locs cells slots Q (F0 m (pc + 1) arr (.int (Int32.ofInt z) :: rest))) : W p l e R s m args below meth c H locs cells slots Q (F0 m pc arr (.int (Int32.ofInt y) :: .int (Int32.ofInt x) :: rest)) := by
  unfold ibin at hz
  unfold ib at hd
  by_cases q0 : q = 0
  · rw [if_pos q0] at hz hd
    have hz := Option.some.inj hz
    subst hz
    exact lv_iadd hx hb hd (by rw [n_add]; exact k)
  rw [if_neg q0] at hz hd
  by_cases q1 : q = 1
  · rw [if_pos q1] at hz hd
    have hz := Option.some.inj hz
    subst hz
    exact lv_isub hx hb hd (by rw [n_sub]; exact k)
  rw [if_neg q1] at hz hd
  by_cases q2 : q = 2
  · rw [if_pos q2] at hz hd
    have hz := Option.some.inj hz
    subst hz
    exact lv_imul hx hb hd (by rw [n_mul]; exact k)
  rw [if_neg q2] at hz hd
  by_cases q3 : q = 3
  · rw [if_pos q3] at hz hd
    by_cases hy0 : y = 0
    · rw [if_pos hy0] at hz
      cases hz
    · rw [if_neg hy0] at hz
      have hz := Option.some.inj hz
      subst hz
      exact lv_idiv hx hb hd (n_ne0 hy hy0) (by rw [n_div hx2 hy]; exact k)
  rw [if_neg q3] at hz hd
  by_cases q4 : q = 4
  · rw [if_pos q4] at hz hd
    by_cases hy0 : y = 0
    · rw [if_pos hy0] at hz
      cases hz
    · rw [if_neg hy0] at hz
      have hz := Option.some.inj hz
      subst hz
      exact lv_irem hx hb hd (n_ne0 hy hy0) (by rw [n_rem hx2 hy]; exact k)
  rw [if_neg q4] at hz hd
  by_cases q5 : q = 5
  · rw [if_pos q5] at hz hd
    have hz := Option.some.inj hz
    subst hz
    exact lv_iand hx hb hd (by rw [n_and]; exact k)
  rw [if_neg q5] at hz hd
  by_cases q6 : q = 6
  · rw [if_pos q6] at hz hd
    have hz := Option.some.inj hz
    subst hz
    exact lv_ior hx hb hd (by rw [n_or]; exact k)
  rw [if_neg q6] at hz hd
  by_cases q7 : q = 7
  · rw [if_pos q7] at hz hd
    have hz := Option.some.inj hz
    subst hz
    exact lv_ixor hx hb hd (by rw [n_xor]; exact k)
  rw [if_neg q7] at hz hd
  by_cases q8 : q = 8
  · rw [if_pos q8] at hz hd
    have hz := Option.some.inj hz
    subst hz
    exact lv_ishl hx hb hd (by rw [n_shl]; exact k)
  rw [if_neg q8] at hz hd
  by_cases q9 : q = 9
  · rw [if_pos q9] at hz hd
    have hz := Option.some.inj hz
    subst hz
    exact lv_ishr hx hb hd (by rw [n_shr hx2]; exact k)
  rw [if_neg q9] at hz hd
  by_cases q10 : q = 10
  · rw [if_pos q10] at hz
    have hz := Option.some.inj hz
    subst hz
    exact lv_iushr hx hb hd (n_ushr x y) k
  rw [if_neg q10] at hz
  cases hz
theorem lbin_row {p : Program} {l : Launch} {e : Env} {R : Room} {s : State} {m : MethodId} {args : Array Value} {below : List Frame} {meth : Method} {c : Code} {H : Heap} {locs : List Loc} {cells slots : Nat} {Q : State → Prop} {cc : ByteArray} {arr : Array Slot} {pc q : Nat} {x y z : Int} {rest : List Value}
    (hx : p.tables.exec = Jvm.exec) (hb : c.code = cc) (hd : decode cc pc = .ok (lb q, 1)) (hz : lbin q x y = some z) (hx2 : in64 x) (hy : in64 y)
    (k : W p l e R s m args below meth c H locs cells slots Q (F0 m (pc + 1) arr (.long (Int64.ofInt z) :: rest))) : W p l e R s m args below meth c H locs cells slots Q (F0 m pc arr (.long (Int64.ofInt y) :: .long (Int64.ofInt x) :: rest)) := by
  unfold lbin at hz
  unfold lb at hd
  by_cases q0 : q = 0
  · rw [if_pos q0] at hz hd
    have hz := Option.some.inj hz
    subst hz
    exact lv_ladd hx hb hd (by rw [m_add]; exact k)
  rw [if_neg q0] at hz hd
  by_cases q1 : q = 1
  · rw [if_pos q1] at hz hd
    have hz := Option.some.inj hz
    subst hz
    exact lv_lsub hx hb hd (by rw [m_sub]; exact k)
  rw [if_neg q1] at hz hd
  by_cases q2 : q = 2
  · rw [if_pos q2] at hz hd
    have hz := Option.some.inj hz
    subst hz
    exact lv_lmul hx hb hd (by rw [m_mul]; exact k)
  rw [if_neg q2] at hz hd
  by_cases q3 : q = 3
  · rw [if_pos q3] at hz hd
    by_cases hy0 : y = 0
    · rw [if_pos hy0] at hz
      cases hz
    · rw [if_neg hy0] at hz
      have hz := Option.some.inj hz
      subst hz
      exact lv_ldiv hx hb hd (m_ne0 hy hy0) (by rw [m_div hx2 hy]; exact k)
  rw [if_neg q3] at hz hd
  by_cases q5 : q = 5
  · rw [if_pos q5] at hz hd
    have hz := Option.some.inj hz
    subst hz
    exact lv_land hx hb hd (by rw [m_and]; exact k)
  rw [if_neg q5] at hz hd
  by_cases q6 : q = 6
  · rw [if_pos q6] at hz
    have hz := Option.some.inj hz
    subst hz
    exact lv_lor hx hb hd (by rw [m_or]; exact k)
  rw [if_neg q6] at hz
  cases hz
section XL
variable {p : Program} {l : Launch} {e : Env} {R : Room} {s : State} {m : MethodId} {args : Array Value} {below : List Frame} {meth : Method} {c : Code} {H : Heap} {locs : List Loc} {cells slots : Nat} {Q : State → Prop}
variable {cc : ByteArray} {pc : Nat} {ls : Array Slot} {rest : List Value}
/-- ldc_w of a String constant -/
theorem xl_ldcwS (hexec : p.tables.exec = Jvm.exec) (hb : c.code = cc) {own tx : String} {index q : Nat} (hown : s.vm.findClass own = some m.cls) (hZ : vk_R own index tx q s) (hdg : decode cc pc = .ok (.ldc_w index, 3))
    (k : W p l e R s m args below meth c H locs cells slots Q (F0 m (pc + 3) ls (.ref q :: rest))) : W p l e R s m args below meth c H locs cells slots Q (F0 m pc ls rest) := by
  intro T hT X
  obtain ⟨t, a1, b1⟩ := k T hT X
  obtain ⟨k, cf, i, a', hk, hcf, hcp, -, hr, hev'⟩ := Cond.stringRef_spec hown hZ.1
  cases hZ.2.symm.trans hev'
  obtain ⟨k', hk', he⟩ := X.warmed.alike.2.2 _ _ hk
  have hr' : k'.resolved[index]? = some (some (.string q)) := by
    rcases X.warmed.entry hk hk' index with h | ⟨h, -⟩
    · rw [h]; exact hr
    · rw [hr] at h; cases h
  have hdg' : decode c.code (F0 m pc ls rest).pc = .ok (.ldc_w index, 3) := by rw [hb]; exact hdg
  refine ⟨t, ?_, b1⟩
  jvm_step X.here [hexec, hdg', ldc_w.wp_string (e := e) (s := T) (f := F0 m pc ls rest) X.here.top hk' (by rw [he]; exact hcf) hcp hr']
  exact a1
end XL
section PS
variable {p : Program} {l : Launch} {e : Env} {R : Room} {s : State} {m : MethodId} {args : Array Value} {below : List Frame} {meth : Method} {c : Code} {H : Heap} {locs : List Loc} {cells slots : Nat} {Q : State → Prop}
variable {cc : ByteArray} {nL : Nat} {own : String} {base : Nat} {rf : Int → Option Nat} {sc : List Int} {ls st ls' st' : List Vl} {arr : Array Slot} {n : Nat}
theorem snd_const (X : Cx p s m args c cc nL own) (hS : Stt base rf sc s) (hSS : va_S (A0 base) s.heap H locs) {pc nx g0 g1 g2 : Nat} {a b : Int} (hd : dcK own cc pc nx a b g0 g1 g2 = true)
    {rest : List Value} (k : W p l e R s m args below meth c H locs cells slots Q (F0 m nx arr (toV rf (b.toNat, a) :: rest))) : W p l e R s m args below meth c H locs cells slots Q (F0 m pc arr rest) := by
  obtain ⟨hx, hb, -, hown, hts⟩ := X
  unfold dcK at hd
  by_cases q0 : g0 = 0
  · simp only [if_pos q0, Bool.and_eq_true, decide_eq_true_eq, beq_iff_eq] at hd
    obtain ⟨⟨rfl, rfl, hq⟩, hr⟩ := hd
    exact lv_iconst hx hb (dq_of hq) rfl k
  rw [if_neg q0] at hd
  by_cases q1 : g0 = 1
  · simp only [if_pos q1, Bool.and_eq_true, decide_eq_true_eq, beq_iff_eq] at hd
    obtain ⟨⟨rfl, rfl, hq⟩, -, -, hr⟩ := hd
    exact lv_bipush hx hb (dq_of hq) hr k
  rw [if_neg q1] at hd
  by_cases q2 : g0 = 2
  · simp only [if_pos q2, Bool.and_eq_true, decide_eq_true_eq, beq_iff_eq] at hd
    obtain ⟨⟨rfl, rfl, hq⟩, -, -, hr⟩ := hd
    exact lv_sipush hx hb (dq_of hq) hr k
  rw [if_neg q2] at hd
  by_cases q3 : g0 = 3
  · simp only [if_pos q3, Bool.and_eq_true, decide_eq_true_eq, beq_iff_eq] at hd
    obtain ⟨⟨rfl, rfl, hq⟩, hw, -⟩ := hd
    exact lv_ldc hx hb hown (hts _ (wq_of hw)) (dq_of hq) k
  rw [if_neg q3] at hd
  by_cases q4 : g0 = 4
  · simp only [if_pos q4, Bool.and_eq_true, decide_eq_true_eq, beq_iff_eq] at hd
    obtain ⟨⟨rfl, rfl, hq⟩, hw, -⟩ := hd
    exact lv_ldcw hx hb hown (hts _ (wq_of hw)) (dq_of hq) k
  rw [if_neg q4] at hd
  by_cases q5 : g0 = 5
  · simp only [if_pos q5, Bool.and_eq_true, decide_eq_true_eq, beq_iff_eq] at hd
    obtain ⟨⟨rfl, rfl, hq⟩, hr⟩ := hd
    rcases hr with rfl | rfl
    · exact lv_lconst hx hb (dq_of hq) rfl k
    · exact lv_lconst hx hb (dq_of hq) rfl k
  rw [if_neg q5] at hd
  by_cases q6 : g0 = 6
  · simp only [if_pos q6, Bool.and_eq_true, decide_eq_true_eq, beq_iff_eq] at hd
    obtain ⟨⟨rfl, rfl, hq⟩, hw, -⟩ := hd
    exact lv_ldc2 hx hb hown (hts _ (wq_of hw)) (dq_of hq) k
  rw [if_neg q6] at hd
  by_cases q7 : g0 = 7
  · simp only [if_pos q7, Bool.and_eq_true, decide_eq_true_eq, beq_iff_eq] at hd
    obtain ⟨⟨rfl, rfl, hq⟩, rfl⟩ := hd
    have e : toV rf ((2 : Int).toNat, 0) = .null := by
      show va_rf (rf 0) = .null
      rw [hS.2.1]
      rfl
    rw [e] at k
    exact lv_null hx hb (dq_of hq) k
  rw [if_neg q7] at hd
  by_cases q8 : g0 = 8
  · rw [if_pos q8] at hd
    simp only [Bool.and_eq_true, decide_eq_true_eq, beq_iff_eq] at hd
    obtain ⟨⟨rfl, rfl, hq⟩, rfl, ⟨hw1, hw2⟩, hi⟩ := hd
    obtain ⟨-, -, -, -, adK, adV, -, hk, hR, -⟩ := hS
    have e : toV rf ((2 : Int).toNat, -10 - (g1 : Int)) = .ref (adK g1) := by
      show va_rf (rf _) = _
      rw [(hk _ hi).1]
      rfl
    rw [e] at k
    have hl : g1 < sref.length := hi
    have hr := hR g1 (sref.getD g1 ("", 0, "")) (by rw [List.getD_eq_getElem?_getD, List.getElem?_eq_getElem hl]; rfl)
    rw [hw1, hw2] at hr
    exact va_ldcS hx hb hown hr (dq_of hq) k
  rw [if_neg q8] at hd
  by_cases q10 : g0 = 10
  · rw [if_pos q10] at hd
    simp only [Bool.and_eq_true, decide_eq_true_eq, beq_iff_eq] at hd
    obtain ⟨⟨rfl, rfl, hq⟩, rfl, ⟨hw1, hw2⟩, hi⟩ := hd
    obtain ⟨-, -, -, -, adK, adV, -, hk, hR, -⟩ := hS
    have e : toV rf ((2 : Int).toNat, -10 - (g1 : Int)) = .ref (adK g1) := by
      show va_rf (rf _) = _
      rw [(hk _ hi).1]
      rfl
    rw [e] at k
    have hl : g1 < sref.length := hi
    have hr := hR g1 (sref.getD g1 ("", 0, "")) (by rw [List.getD_eq_getElem?_getD, List.getElem?_eq_getElem hl]; rfl)
    rw [hw1, hw2] at hr
    exact xl_ldcwS hx hb hown hr (dq_of hq) k
  rw [if_neg q10] at hd
  by_cases q9 : g0 = 9
  · simp only [if_pos q9, Bool.and_eq_true, decide_eq_true_eq, beq_iff_eq] at hd
    obtain ⟨⟨rfl, rfl, hq⟩, ⟨rfl, rfl⟩, hw⟩ := hd
    obtain ⟨-, -, ⟨t, ht, hZ, -⟩, -⟩ := hS
    have e : toV rf ((2 : Int).toNat, -2) = .ref t := by
      show va_rf (rf _) = _
      rw [ht]
      rfl
    rw [e] at k
    exact va_gets hx hb hZ hSS hown (hts _ (wq_of hw)) (fun _ h => h) (dq_of hq) k
  · rw [if_neg q9] at hd
    cases hd
theorem snd_pst (X : Cx p s m args c cc nL own) (hS : Stt base rf sc s) (hSS : va_S (A0 base) s.heap H locs) {pc op nx : Nat} {a b : Int} {os : List Int} (hd : dcP own cc pc op nx a b os = true) (hp : pst op a b ls st = some (ls', st')) (hL : Lr rf ls arr) (hst : okS n st)
    (k : ∀ arr', Lr rf ls' arr' → W p l e R s m args below meth c H locs cells slots Q (F0 m nx arr' (st'.map (toV rf)))) : W p l e R s m args below meth c H locs cells slots Q (F0 m pc arr (st.map (toV rf))) := by
  have hx := X.1
  have hb := X.2.1
  unfold pst at hp
  unfold dcP at hd
  by_cases h0 : op = 0
  · rw [if_pos h0] at hp hd
    cases hp
    exact snd_const X hS hSS hd (k arr hL)
  rw [if_neg h0] at hp hd
  by_cases h1 : op = 1
  · rw [if_pos h1] at hp hd
    have hd2 := dcV_of hd
    clear hd
    obtain ⟨ha0, hd⟩ := hd2
    cases hv : ls[a.toNat]? with
    | none => rw [hv] at hp; cases hp
    | some v =>
      rw [hv] at hp
      dsimp only at hp
      by_cases hb2 : v.1 = b.toNat
      · rw [if_pos hb2] at hp
        cases hp
        refine snd_load X (i := a.toNat) hL hv (by omega) ?_ (k arr hL)
        rcases hd with ⟨rfl, hd⟩ | ⟨rfl, hd⟩ | ⟨rfl, hd⟩
        · exact Or.inl ⟨hb2, hd⟩
        · exact Or.inr (Or.inl ⟨hb2, hd⟩)
        · exact Or.inr (Or.inr ⟨hb2, hd⟩)
      · rw [if_neg hb2] at hp
        cases hp
  rw [if_neg h1] at hp hd
  by_cases h2 : op = 2
  · rw [if_pos h2] at hp hd
    have hd2 := dcV_of hd
    clear hd
    obtain ⟨ha0, hd⟩ := hd2
    cases st with
    | nil => cases hp
    | cons v r =>
      dsimp only at hp
      by_cases hb2 : v.1 = b.toNat ∧ a.toNat + (if v.1 = 1 then 1 else 0) < ls.length
      · rw [if_pos hb2] at hp
        cases hp
        refine snd_store X (i := a.toNat) hL hb2.2 ?_ (fun arr' h => k arr' h)
        rcases hd with ⟨rfl, hd⟩ | ⟨rfl, hd⟩ | ⟨rfl, hd⟩
        · exact Or.inl ⟨hb2.1, hd⟩
        · exact Or.inr (Or.inl ⟨hb2.1, hd⟩)
        · exact Or.inr (Or.inr ⟨hb2.1, hd⟩)
      · rw [if_neg hb2] at hp
        cases hp
  rw [if_neg h2] at hp hd
  by_cases h3 : op = 3
  · rw [if_pos h3] at hp hd
    cases hv : ls[a.toNat]? with
    | none => rw [hv] at hp; cases hp
    | some v =>
      rw [hv] at hp
      dsimp only at hp
      by_cases hv0 : v.1 = 0
      · rw [if_pos hv0] at hp
        cases hp
        simp only [Bool.and_eq_true, decide_eq_true_eq, beq_iff_eq] at hd
        obtain ⟨ha0, rfl, hd⟩ := hd
        obtain ⟨t, x⟩ := v
        dsimp only at hv0
        subst hv0
        have hh := hL.has
        have hmem : ((a.toNat, Value.int (Int32.ofInt x)) : Nat × Value) ∈ lls rf ls := mem_lls.mpr ⟨(0, x), hv, by simp, rfl⟩
        obtain ⟨kq, hkq⟩ := List.mem_iff_getElem?.mp hmem
        refine lv_iinc (v := Int32.ofInt (w32 (x + b))) hx hb (dq_of hd) hh hkq (by rw [n_add]) (List.getElem?_eq_some_iff.mp hv).1 rfl (fun arr' h => k arr' (Lr_store1 rfl (by simp) h))
      · rw [if_neg hv0] at hp
        cases hp
  rw [if_neg h3] at hp hd
  by_cases h4 : op = 4
  · rw [if_pos h4] at hp hd
    have hd2 := d1_of hd
    clear hd
    obtain ⟨rfl, hd⟩ := hd2
    match st, hp, hst, k with
    | (0, y) :: (0, x) :: r, hp, hst, k =>
      change (match ibin a.toNat x y with | some z => some (ls, (0, z) :: r) | none => none) = some (ls', st') at hp
      cases hz : ibin a.toNat x y with
      | none => rw [hz] at hp; cases hp
      | some z =>
        rw [hz] at hp
        cases hp
        exact ibin_row hx hb hd hz (hst _ (List.mem_cons_of_mem _ List.mem_cons_self)).int (hst _ List.mem_cons_self).int (k arr hL)
  rw [if_neg h4] at hp hd
  by_cases h5 : op = 5
  · rw [if_pos h5] at hp hd
    have hd2 := d1_of hd
    clear hd
    obtain ⟨rfl, hd⟩ := hd2
    match st, hp, hst, k with
    | (1, y) :: (1, x) :: r, hp, hst, k =>
      change (match lbin a.toNat x y with | some z => some (ls, (1, z) :: r) | none => none) = some (ls', st') at hp
      cases hz : lbin a.toNat x y with
      | none => rw [hz] at hp; cases hp
      | some z =>
        rw [hz] at hp
        cases hp
        exact lbin_row hx hb hd hz (hst _ (List.mem_cons_of_mem _ List.mem_cons_self)).long (hst _ List.mem_cons_self).long (k arr hL)
  rw [if_neg h5] at hp hd
  by_cases h6 : op = 6
  · rw [if_pos h6] at hp hd
    have hd2 := d1_of hd
    clear hd
    obtain ⟨rfl, hd⟩ := hd2
    match st, hp, hst, k with
    | (0, x) :: r, hp, hst, k =>
      cases hp
      exact lv_ineg hx hb hd (by rw [n_neg]; exact k arr hL)
  rw [if_neg h6] at hp hd
  by_cases h7 : op = 7
  · rw [if_pos h7] at hp hd
    have hd2 := d1_of hd
    clear hd
    obtain ⟨rfl, hd⟩ := hd2
    match st, hp, hst, k with
    | (0, x) :: r, hp, hst, k =>
      cases hp
      exact lv_i2l hx hb hd (n_i2l (hst _ List.mem_cons_self).int) (k arr hL)
  rw [if_neg h7] at hp hd
  by_cases h8 : op = 8
  · rw [if_pos h8] at hp hd
    have hd2 := d1_of hd
    clear hd
    obtain ⟨rfl, hd⟩ := hd2
    match st, hp, hst, k with
    | (1, x) :: r, hp, hst, k =>
      cases hp
      exact lv_l2i hx hb hd (n_l2i _) (k arr hL)
  rw [if_neg h8] at hp hd
  by_cases h9 : op = 9
  · rw [if_pos h9] at hp hd
    have hd2 := d1_of hd
    clear hd
    obtain ⟨rfl, hd⟩ := hd2
    match st, hp, hst, k with
    | (0, x) :: r, hp, hst, k =>
      cases hp
      exact lv_i2b hx hb hd (n_i2b _) (k arr hL)
  rw [if_neg h9] at hp hd
  by_cases h10 : op = 10
  · rw [if_pos h10] at hp hd
    have hd2 := d1_of hd
    clear hd
    obtain ⟨rfl, hd⟩ := hd2
    match st, hp, hst, k with
    | (0, x) :: r, hp, hst, k =>
      cases hp
      exact lv_i2c hx hb hd (n_i2c _) (k arr hL)
  rw [if_neg h10] at hp hd
  by_cases h11 : op = 11
  · rw [if_pos h11] at hp hd
    have hd2 := d1_of hd
    clear hd
    obtain ⟨rfl, hd⟩ := hd2
    match st, hp, hst, k with
    | (1, y) :: (1, x) :: r, hp, hst, k =>
      cases hp
      refine W.lcmp hx hb hd ?_
      rw [lcmp_of (hst _ (List.mem_cons_of_mem _ List.mem_cons_self)).long (hst _ List.mem_cons_self).long]
      exact k arr hL
  rw [if_neg h11] at hp hd
  have cat1 : ∀ v : Vl, ¬ v.1 = 1 → (toV rf v).category = 1 := fun v h => by rw [toV_cat, if_neg h]
  by_cases h12 : op = 12
  · rw [if_pos h12] at hp hd
    have hd2 := d1_of hd
    clear hd
    obtain ⟨rfl, hd⟩ := hd2
    match st, hp, hst, k with
    | v :: r, hp, hst, k =>
      dsimp only at hp
      by_cases hc : v.1 = 1
      · rw [if_pos hc] at hp
        cases hp
      · rw [if_neg hc] at hp
        cases hp
        exact lv_dup hx hb hd (cat1 _ hc) (k arr hL)
  rw [if_neg h12] at hp hd
  by_cases h13 : op = 13
  · rw [if_pos h13] at hp hd
    have hd2 := d1_of hd
    clear hd
    obtain ⟨rfl, hd⟩ := hd2
    match st, hp, hst, k with
    | v :: u :: r, hp, hst, k =>
      dsimp only at hp
      by_cases hc : v.1 = 1 ∨ u.1 = 1
      · rw [if_pos hc] at hp
        cases hp
      · rw [if_neg hc] at hp
        cases hp
        exact lv_dup_x1 hx hb hd (cat1 _ (fun q => hc (Or.inl q))) (cat1 _ (fun q => hc (Or.inr q))) (k arr hL)
  rw [if_neg h13] at hp hd
  by_cases h14 : op = 14
  · rw [if_pos h14] at hp hd
    have hd2 := d1_of hd
    clear hd
    obtain ⟨rfl, hd⟩ := hd2
    match st, hp, hst, k with
    | v :: u :: r, hp, hst, k =>
      dsimp only at hp
      by_cases hc : v.1 = 1 ∨ u.1 = 1
      · rw [if_pos hc] at hp
        cases hp
      · rw [if_neg hc] at hp
        cases hp
        exact lv_dup2_11 hx hb hd (cat1 _ (fun q => hc (Or.inl q))) (cat1 _ (fun q => hc (Or.inr q))) (k arr hL)
  rw [if_neg h14] at hp hd
  by_cases h15 : op = 15
  · rw [if_pos h15] at hp hd
    have hd2 := d1_of hd
    clear hd
    obtain ⟨rfl, hd⟩ := hd2
    match st, hp, hst, k with
    | v :: r, hp, hst, k =>
      dsimp only at hp
      by_cases hc : v.1 = 1
      · rw [if_pos hc] at hp
        cases hp
      · rw [if_neg hc] at hp
        cases hp
        exact lv_pop hx hb hd (cat1 _ hc) (k arr hL)
  rw [if_neg h15] at hp
  cases hp
end PS
end
section
/-! where it goes on: the machine's step -/
def cq (k : Nat) : ClassFile.Cond := if k = 0 then .eq else if k = 1 then .ne else if k = 2 then .lt else if k = 3 then .ge else if k = 4 then .gt else .le
def tblO (pc : Int) : Int → List Int → List Int
  | _, [] => []
  | k, o :: r => k :: (pc + o) :: tblO pc (k + 1) r
def lkO (pc : Int) : List (Int × Int) → List Int
  | [] => []
  | (k, o) :: r => k :: (pc + o) :: lkO pc r
noncomputable def dcW (cc : ByteArray) (pc : Nat) (a : Int) (os : List Int) : Bool := match decode cc pc with
  | .ok (.tableswitch d lo hi offs, _) => decide (a = pc + d) && decide (os = tblO pc lo offs.toList) && decide (hi = lo + offs.toList.length - 1) && (offs.toList.all (fun o => decide (0 ≤ pc + o)) && decide (0 ≤ a))
  | .ok (.lookupswitch d ps, _) => decide (a = pc + d) && decide (os = lkO pc ps.toList) && ((ps.toList.zip (ps.toList.drop 1)).all (fun (a, next) => a.1 < next.1)) && (ps.toList.all (fun q => decide (0 ≤ pc + q.2)) && decide (0 ≤ a))
  | _ => false
noncomputable def dcB (cc : ByteArray) (pc op nx : Nat) (a b : Int) (os : List Int) : Bool :=
  if op = 20 then decide (0 ≤ a) && (nx == pc + 3 && dq cc pc (.ifCond (cq b.toNat) (a - pc)) 3)
  else if op = 21 then decide (0 ≤ a) && (nx == pc + 3 && dq cc pc (.if_icmp (cq b.toNat) (a - pc)) 3)
  else if op = 22 then decide (0 ≤ a) && (nx == pc + 3 && (if b = 0 then dq cc pc (.ifnull (a - pc)) 3 else b == 1 && dq cc pc (.ifnonnull (a - pc)) 3))
  else if op = 23 then decide (0 ≤ a) && (nx == pc + 3 && (if b = 0 then dq cc pc (.if_acmp .eq (a - pc)) 3 else b == 1 && dq cc pc (.if_acmp .ne (a - pc)) 3))
  else if op = 24 then decide (0 ≤ a) && dq cc pc (.goto (a - pc)) 3
  else if op = 25 then dcW cc pc a os
  else false
theorem swt_tbl (pc d x : Int) : ∀ (l : List Int) (k : Int), swt (pc + d) x (tblO pc k l) = (if x < k ∨ k + l.length - 1 < x then pc + d else pc + l.getD (x - k).toNat 0)
  | [], k => by
    have : x < k ∨ k + ([] : List Int).length - 1 < x := by simp; omega
    rw [if_pos this]
    rfl
  | o :: r, k => by
    show (if x = k then pc + o else swt (pc + d) x (tblO pc (k + 1) r)) = _
    by_cases h : x = k
    · subst h
      have : ¬ (x < x ∨ x + ((o :: r).length : Nat) - 1 < x) := by simp only [List.length_cons]; omega
      rw [if_pos rfl, if_neg this]
      simp
    · rw [if_neg h, swt_tbl pc d x r (k + 1)]
      by_cases h2 : x < k ∨ k + ((o :: r).length : Nat) - 1 < x
      · have h3 : x < k + 1 ∨ k + 1 + (r.length : Nat) - 1 < x := by simp only [List.length_cons] at h2; omega
        rw [if_pos h2, if_pos h3]
      · have h3 : ¬ (x < k + 1 ∨ k + 1 + (r.length : Nat) - 1 < x) := by simp only [List.length_cons] at h2; omega
        rw [if_neg h2, if_neg h3]
        have e : (x - k).toNat = (x - (k + 1)).toNat + 1 := by omega
        rw [e]
        rfl
theorem swt_lk (pc d x : Int) : ∀ (l : List (Int × Int)), swt (pc + d) x (lkO pc l) = pc + Op.lookupswitch.offset l d x
  | [] => rfl
  | (k, o) :: r => by
    show (if x = k then pc + o else swt (pc + d) x (lkO pc r)) = _
    rw [swt_lk pc d x r]
    show _ = pc + (if k = x then o else Op.lookupswitch.offset r d x)
    by_cases h : x = k
    · subst h
      rw [if_pos rfl, if_pos rfl]
    · rw [if_neg h, if_neg (fun z => h z.symm)]
section BR
variable {p : Program} {l : Launch} {e : Env} {R : Room} {s : State} {m : MethodId} {args : Array Value} {below : List Frame} {meth : Method} {c : Code} {H : Heap} {locs : List Loc} {cells slots : Nat} {Q : State → Prop}
variable {cc : ByteArray} {nL : Nat} {own : String} {base : Nat} {rf : Int → Option Nat} {st st' : List Vl} {arr : Array Slot} {n : Nat}
theorem if_row {k pc nx : Nat} {x : Int} {a : Int} {rest : List Value} (hx : p.tables.exec = Jvm.exec) (hb : c.code = cc) (hd : decode cc pc = .ok (.ifCond (cq k) (a - pc), 3)) (ha : 0 ≤ a) (hnx : nx = pc + 3) (hi : in32 x)
    (kk : W p l e R s m args below meth c H locs cells slots Q (F0 m (if cnd k x 0 then a.toNat else nx) arr rest)) : W p l e R s m args below meth c H locs cells slots Q (F0 m pc arr (.int (Int32.ofInt x) :: rest)) := by
  have ht : (pc : Int) + (a - pc) = (a.toNat : Int) := by omega
  have h0 : in32 0 := by unfold in32; omega
  have z0 : (0 : Int32) = Int32.ofInt 0 := rfl
  subst hnx
  unfold cnd at kk
  unfold cq at hd
  by_cases q0 : k = 0
  · rw [if_pos q0] at hd
    simp only [if_pos q0] at kk
    refine lv_if_eq hx hb hd ht (fun z => ?_) (fun z => ?_)
    · rw [z0, n_eq hi h0] at z
      simpa [z] using kk
    · rw [z0, n_eq hi h0] at z
      simpa [z] using kk
  rw [if_neg q0] at hd
  simp only [if_neg q0] at kk
  by_cases q1 : k = 1
  · rw [if_pos q1] at hd
    simp only [if_pos q1] at kk
    refine lv_if_ne hx hb hd ht (fun z => ?_) (fun z => ?_)
    · rw [z0, n_eq hi h0] at z
      simpa [z] using kk
    · rw [z0, n_eq hi h0] at z
      simpa [z] using kk
  rw [if_neg q1] at hd
  simp only [if_neg q1] at kk
  by_cases q2 : k = 2
  · rw [if_pos q2] at hd
    simp only [if_pos q2] at kk
    refine lv_if_lt hx hb hd ht (fun z => ?_) (fun z => ?_)
    · rw [z0, n_lt hi h0] at z
      simpa [z] using kk
    · rw [z0, n_lt hi h0] at z
      simpa [z] using kk
  rw [if_neg q2] at hd
  simp only [if_neg q2] at kk
  by_cases q3 : k = 3
  · rw [if_pos q3] at hd
    simp only [if_pos q3] at kk
    refine lv_if_ge hx hb hd ht (fun z => ?_) (fun z => ?_)
    · rw [z0, n_le h0 hi] at z
      simpa [z] using kk
    · rw [z0, n_le h0 hi] at z
      simpa [z] using kk
  rw [if_neg q3] at hd
  simp only [if_neg q3] at kk
  by_cases q4 : k = 4
  · rw [if_pos q4] at hd
    simp only [if_pos q4] at kk
    refine lv_if_gt hx hb hd ht (fun z => ?_) (fun z => ?_)
    · rw [z0, n_lt h0 hi] at z
      simpa [z] using kk
    · rw [z0, n_lt h0 hi] at z
      simpa [z] using kk
  rw [if_neg q4] at hd
  simp only [if_neg q4] at kk
  refine lv_if_le hx hb hd ht (fun z => ?_) (fun z => ?_)
  · rw [z0, n_le hi h0] at z
    simpa [z] using kk
  · rw [z0, n_le hi h0] at z
    simpa [z] using kk
theorem icmp_row {k pc nx : Nat} {x y : Int} {a : Int} {rest : List Value} (hx : p.tables.exec = Jvm.exec) (hb : c.code = cc) (hd : decode cc pc = .ok (.if_icmp (cq k) (a - pc), 3)) (ha : 0 ≤ a) (hnx : nx = pc + 3) (hi : in32 x) (h0 : in32 y)
    (kk : W p l e R s m args below meth c H locs cells slots Q (F0 m (if cnd k x y then a.toNat else nx) arr rest)) : W p l e R s m args below meth c H locs cells slots Q (F0 m pc arr (.int (Int32.ofInt y) :: .int (Int32.ofInt x) :: rest)) := by
  have ht : (pc : Int) + (a - pc) = (a.toNat : Int) := by omega
  subst hnx
  unfold cnd at kk
  unfold cq at hd
  by_cases q0 : k = 0
  · rw [if_pos q0] at hd
    simp only [if_pos q0] at kk
    refine lv_icmp_eq hx hb hd ht (fun z => ?_) (fun z => ?_)
    · rw [n_eq hi h0] at z
      simpa [z] using kk
    · rw [n_eq hi h0] at z
      simpa [z] using kk
  rw [if_neg q0] at hd
  simp only [if_neg q0] at kk
  by_cases q1 : k = 1
  · rw [if_pos q1] at hd
    simp only [if_pos q1] at kk
    refine lv_icmp_ne hx hb hd ht (fun z => ?_) (fun z => ?_)
    · rw [n_eq hi h0] at z
      simpa [z] using kk
    · rw [n_eq hi h0] at z
      simpa [z] using kk
  rw [if_neg q1] at hd
  simp only [if_neg q1] at kk
  by_cases q2 : k = 2
  · rw [if_pos q2] at hd
    simp only [if_pos q2] at kk
    refine lv_icmp_lt hx hb hd ht (fun z => ?_) (fun z => ?_)
    · rw [n_lt hi h0] at z
      simpa [z] using kk
    · rw [n_lt hi h0] at z
      simpa [z] using kk
  rw [if_neg q2] at hd
  simp only [if_neg q2] at kk
  by_cases q3 : k = 3
  · rw [if_pos q3] at hd
    simp only [if_pos q3] at kk
    refine lv_icmp_ge hx hb hd ht (fun z => ?_) (fun z => ?_)
    · rw [n_le h0 hi] at z
      simpa [z] using kk
    · rw [n_le h0 hi] at z
      simpa [z] using kk
  rw [if_neg q3] at hd
  simp only [if_neg q3] at kk
  by_cases q4 : k = 4
  · rw [if_pos q4] at hd
    simp only [if_pos q4] at kk
    refine lv_icmp_gt hx hb hd ht (fun z => ?_) (fun z => ?_)
    · rw [n_lt h0 hi] at z
      simpa [z] using kk
    · rw [n_lt h0 hi] at z
      simpa [z] using kk
  rw [if_neg q4] at hd
  simp only [if_neg q4] at kk
  refine lv_icmp_le hx hb hd ht (fun z => ?_) (fun z => ?_)
  · rw [n_le hi h0] at z
    simpa [z] using kk
  · rw [n_le hi h0] at z
    simpa [z] using kk
theorem swt_row {pc : Nat} {x a : Int} {os : List Int} {rest : List Value} (hx : p.tables.exec = Jvm.exec) (hb : c.code = cc) (hd : dcW cc pc a os = true) (hi : in32 x)
    (kk : W p l e R s m args below meth c H locs cells slots Q (F0 m (swt a x os).toNat arr rest)) : W p l e R s m args below meth c H locs cells slots Q (F0 m pc arr (.int (Int32.ofInt x) :: rest)) := by
  unfold dcW at hd
  split at hd
  · rename_i d lo hi2 offs len hdc
    simp only [Bool.and_eq_true, decide_eq_true_eq] at hd
    obtain ⟨⟨⟨rfl, rfl⟩, hhi⟩, hall, ha⟩ := hd
    rw [swt_tbl] at kk
    by_cases h : x < lo ∨ lo + (offs.toList.length : Nat) - 1 < x
    · rw [if_pos h] at kk
      exact lv_tableOut hx hb hdc (by rw [toI hi]; omega) (by omega) kk
    · rw [if_neg h] at kk
      have hlt : (x - lo).toNat < offs.toList.length := by omega
      have hget : offs.toList[(x - lo).toNat]? = some (offs.toList.getD (x - lo).toNat 0) := by
        rw [List.getD_eq_getElem?_getD, List.getElem?_eq_getElem hlt]
        rfl
      have hnn : 0 ≤ (pc : Int) + offs.toList.getD (x - lo).toNat 0 := of_decide_eq_true (List.all_eq_true.mp hall _ (List.mem_of_getElem? hget))
      exact lv_tableIn hx hb hdc (by rw [toI hi]; omega) (by rw [toI hi]; omega) (off := offs.toList.getD (x - lo).toNat 0) (by rw [toI hi, ← Array.getElem?_toList]; exact hget) (by omega) kk
  · rename_i d ps len hdc
    simp only [Bool.and_eq_true, decide_eq_true_eq] at hd
    obtain ⟨⟨⟨rfl, rfl⟩, hso⟩, hall, ha⟩ := hd
    rw [swt_lk] at kk
    have hnn : 0 ≤ (pc : Int) + Op.lookupswitch.offset ps.toList d x := by
      have key : ∀ l : List (Int × Int), l.all (fun q => decide (0 ≤ (pc : Int) + q.2)) = true → 0 ≤ (pc : Int) + Op.lookupswitch.offset l d x := by
        intro l
        induction l with
        | nil => intro _; exact ha
        | cons q r ih =>
          intro hq
          rw [List.all_cons, Bool.and_eq_true] at hq
          have h1 := ih hq.2
          have h2 := of_decide_eq_true hq.1
          obtain ⟨k, o⟩ := q
          show 0 ≤ (pc : Int) + (if k = x then o else Op.lookupswitch.offset r d x)
          by_cases h : k = x
          · rw [if_pos h]
            exact h2
          · rw [if_neg h]
            exact h1
      exact key _ hall
    exact lv_lookup hx hb hdc hso (by rw [toI hi]) (by omega) kk
  · cases hd
theorem snd_bst (X : Cx p s m args c cc nL own) (h0 : rf 0 = none) (hpos : ∀ x : Int, 0 < x → x ≤ n → ∃ q, rf x = some q)
    (hin : ∀ x y : Int, (-2 ≤ x ∧ x ≠ -1) → (-2 ≤ y ∧ y ≠ -1) → x ≤ n → y ≤ n → rf x = rf y → x = y) {pc op nx t : Nat} {a b : Int} {os : List Int} (hd : dcB cc pc op nx a b os = true) (hp : bst op nx a b os st = some (t, st')) (hst : okS n st)
    (k : W p l e R s m args below meth c H locs cells slots Q (F0 m t arr (st'.map (toV rf)))) : W p l e R s m args below meth c H locs cells slots Q (F0 m pc arr (st.map (toV rf))) := by
  have hx := X.1
  have hb := X.2.1
  unfold bst at hp
  unfold dcB at hd
  by_cases q0 : op = 20
  · rw [if_pos q0] at hp hd
    simp only [Bool.and_eq_true, decide_eq_true_eq, beq_iff_eq] at hd
    match st, hp, hst, k with
    | (0, x) :: r, hp, hst, k =>
      cases hp
      exact if_row hx hb (dq_of hd.2.2) hd.1 hd.2.1 (hst _ List.mem_cons_self).int k
  rw [if_neg q0] at hp hd
  by_cases q1 : op = 21
  · rw [if_pos q1] at hp hd
    simp only [Bool.and_eq_true, decide_eq_true_eq, beq_iff_eq] at hd
    match st, hp, hst, k with
    | (0, y) :: (0, x) :: r, hp, hst, k =>
      cases hp
      exact icmp_row hx hb (dq_of hd.2.2) hd.1 hd.2.1 (hst _ (List.mem_cons_of_mem _ List.mem_cons_self)).int (hst _ List.mem_cons_self).int k
  rw [if_neg q1] at hp hd
  by_cases q2 : op = 22
  · rw [if_pos q2] at hp hd
    simp only [Bool.and_eq_true, decide_eq_true_eq, beq_iff_eq] at hd
    obtain ⟨ha, rfl, hd⟩ := hd
    match st, hp, hst, k with
    | (2, x) :: r, hp, hst, k =>
      change (if x = 0 ∨ 0 < x then some (if cnd b.toNat x 0 then a.toNat else pc + 3, r) else none) = some (t, st') at hp
      by_cases hc : x = 0 ∨ 0 < x
      · rw [if_pos hc] at hp
        cases hp
        have ht : (pc : Int) + (a - pc) = (a.toNat : Int) := by omega
        rw [List.map_cons, toV_r]
        by_cases b0 : b = 0
        · rw [if_pos b0] at hd
          subst b0
          rcases hc with rfl | hc
          · rw [h0]
            exact lv_ifnullN hx hb (dq_of hd) ht (by simpa [cnd] using k)
          · obtain ⟨q, hq⟩ := hpos x hc (hst _ List.mem_cons_self).rfr
            rw [hq]
            exact lv_ifnull hx hb (dq_of hd) (by simpa [cnd, show ¬ x = 0 by omega] using k)
        · rw [if_neg b0, Bool.and_eq_true, beq_iff_eq] at hd
          obtain ⟨rfl, hd⟩ := hd
          rcases hc with rfl | hc
          · rw [h0]
            exact lv_ifnonnullN hx hb (dq_of hd) (by simpa [cnd] using k)
          · obtain ⟨q, hq⟩ := hpos x hc (hst _ List.mem_cons_self).rfr
            rw [hq]
            exact lv_ifnonnull hx hb (dq_of hd) ht (by simpa [cnd, show ¬ x = 0 by omega] using k)
      · rw [if_neg hc] at hp
        cases hp
  rw [if_neg q2] at hp hd
  by_cases q3 : op = 23
  · rw [if_pos q3] at hp hd
    simp only [Bool.and_eq_true, decide_eq_true_eq, beq_iff_eq] at hd
    obtain ⟨ha, rfl, hd⟩ := hd
    match st, hp, hst, k with
    | (2, y) :: (2, x) :: r, hp, hst, k =>
      change (if (-2 ≤ x ∧ -2 ≤ y ∧ x ≠ -1 ∧ y ≠ -1) ∨ (x = -4 ∧ y = -4) then some (if cnd b.toNat x y then a.toNat else pc + 3, r) else none) = some (t, st') at hp
      by_cases hc : (-2 ≤ x ∧ -2 ≤ y ∧ x ≠ -1 ∧ y ≠ -1) ∨ (x = -4 ∧ y = -4)
      · rw [if_pos hc] at hp
        cases hp
        have ht : (pc : Int) + (a - pc) = (a.toNat : Int) := by omega
        have hx2 := (hst _ (List.mem_cons_of_mem _ List.mem_cons_self)).rfr
        have hy2 := (hst _ List.mem_cons_self).rfr
        have hiff : rf x = rf y ↔ x = y := by
          rcases hc with hc | ⟨hc1, hc2⟩
          · exact ⟨hin x y ⟨hc.1, hc.2.2.1⟩ ⟨hc.2.1, hc.2.2.2⟩ hx2 hy2, fun e => by rw [e]⟩
          · exact ⟨fun _ => by rw [hc1, hc2], fun e => by rw [e]⟩
        rw [List.map_cons, List.map_cons, toV_r, toV_r]
        by_cases b0 : b = 0
        · rw [if_pos b0] at hd
          subst b0
          refine lv_acmp_eq hx hb (dq_of hd) ht (fun z => ?_) (fun z => ?_)
          · simpa [cnd, hiff.mp z] using k
          · have z2 : ¬ x = y := fun e => z (hiff.mpr e)
            simpa [cnd, z2] using k
        · rw [if_neg b0, Bool.and_eq_true, beq_iff_eq] at hd
          obtain ⟨rfl, hd⟩ := hd
          refine lv_acmp_ne hx hb (dq_of hd) ht (fun z => ?_) (fun z => ?_)
          · have z2 : ¬ x = y := fun e => z (hiff.mpr e)
            simpa [cnd, z2] using k
          · simpa [cnd, hiff.mp z] using k
      · rw [if_neg hc] at hp
        cases hp
  rw [if_neg q3] at hp hd
  by_cases q4 : op = 24
  · rw [if_pos q4] at hp hd
    simp only [Bool.and_eq_true, decide_eq_true_eq] at hd
    cases hp
    exact lv_goto hx hb (dq_of hd.2) (by omega) k
  rw [if_neg q4] at hp hd
  by_cases q5 : op = 25
  · rw [if_pos q5] at hp hd
    match st, hp, hst, k with
    | (0, x) :: r, hp, hst, k =>
      cases hp
      exact swt_row hx hb hd (hst _ List.mem_cons_self).int k
  rw [if_neg q5] at hp
  cases hp
end BR
end
section
/-! the heap of the mini machine as the kit's world -/
def adr (rf : Int → Option Nat) (a : Nat) : Nat := (rf ((a : Int) + 1)).getD 0
def fv (rf : Int → Option Nat) (k : Nat) (l : List Int) : List Value := l.mapIdx (fun i x => toV rf (tg (kty k i), x))
def ent (rf : Int → Option Nat) (cA : Nat → ClassId) (e : Nat × List Int) : va_E :=
  if e.1 < 14 then .inr (e.1, fv rf e.1 e.2)
  else if e.1 = 23 then .inl (cA e.1, e.2.length, .inr (.inl (fun j => Int64.ofInt (e.2.getD j 0))))
  else if e.1 < 23 then .inl (cA e.1, e.2.length, .inl (fun j => Int32.ofInt (e.2.getD j 0)))
  else .inl (cA e.1, e.2.length, .inr (.inr (.inr (.inr (fun j => rf (e.2.getD j 0))))))
def wld (rf : Int → Option Nat) (cA : Nat → ClassId) (hp : Hp) : va_W := hp.mapIdx (fun a e => (adr rf a, ent rf cA e))
def okT (n t : Nat) (x : Int) : Prop := (t = 0 ∧ in32 x) ∨ (t = 1 ∧ in64 x) ∨ (t = 2 ∧ x ≤ n) ∨ (t = 3 ∧ -128 ≤ x ∧ x ≤ 127) ∨ (t = 4 ∧ (x = 0 ∨ x = 1))
def okC (n : Nat) (e : Nat × List Int) : Prop := (e.1 < 14 → e.2.length = (knds.getD e.1 []).length) ∧ (14 ≤ e.1 → 20 ≤ e.1 ∧ e.1 ≤ 29 ∧ e.2.length ≤ 200000) ∧ ∀ (i : Nat) (x : Int), e.2[i]? = some x → okT n (kty e.1 i) x
def wfH (hp : Hp) : Prop := ∀ e ∈ hp, okC hp.length e
def aty (k : Nat) : FieldType := if k = 20 then .int else if k = 21 then .byte else if k = 22 then .boolean else if k = 23 then .long else if k = 24 then .object "WheelLand$Sheet" else if k = 25 then .object "java/lang/Object" else if k = 26 then .array .int else if k = 27 then .array (.array .int) else if k = 28 then .object "java/lang/String" else .array .boolean
def ktys (cA : Nat → ClassId) : List (ClassId × FieldType) := (List.range 10).map (fun i => (cA (20 + i), aty (20 + i)))
theorem ktys_at (cA : Nat → ClassId) {k : Nat} (h1 : 20 ≤ k) (h2 : k ≤ 29) : (ktys cA)[k - 20]? = some (cA k, aty k) := by
  unfold ktys
  rw [List.getElem?_map, List.getElem?_range (by omega)]
  show some (cA (20 + (k - 20)), aty (20 + (k - 20))) = _
  rw [show 20 + (k - 20) = k by omega]
theorem wld_len (rf : Int → Option Nat) (cA : Nat → ClassId) (hp : Hp) : (wld rf cA hp).length = hp.length := List.length_mapIdx
theorem wld_at {rf : Int → Option Nat} {cA : Nat → ClassId} {hp : Hp} {a : Nat} {e : Nat × List Int} (h : hp[a]? = some e) : (wld rf cA hp)[a]? = some (adr rf a, ent rf cA e) := by
  unfold wld
  rw [List.getElem?_mapIdx, h]
  rfl
theorem wld_set {rf : Int → Option Nat} {cA : Nat → ClassId} {hp : Hp} {a : Nat} {e : Nat × List Int} : (wld rf cA hp).set a (adr rf a, ent rf cA e) = wld rf cA (hp.set a e) := by
  apply List.ext_getElem?
  intro j
  unfold wld
  rw [List.getElem?_set, List.getElem?_mapIdx, List.getElem?_mapIdx, List.getElem?_set, List.length_mapIdx]
  by_cases h : a = j
  · subst h
    by_cases hl : a < hp.length
    · simp [hl]
    · simp [hl]
  · simp [h]
/-- the references of the heap lie where they lie -/
def Rf (base : Nat) (rf : Int → Option Nat) (n : Nat) : Prop := ∀ x : Int, 0 < x → x ≤ n → ∃ q, rf x = some q
theorem adr_of {base : Nat} {rf : Int → Option Nat} {n : Nat} (h : Rf base rf n) {r : Int} (h0 : 0 < r) (hn : r ≤ n) : rf r = some (adr rf (r.toNat - 1)) := by
  obtain ⟨q, hq⟩ := h r h0 hn
  unfold adr
  rw [show (((r.toNat - 1 : Nat) : Int) + 1) = r by omega, hq]
  rfl
theorem cel_of {hp : Hp} {r : Int} {e : Nat × List Int} (h : cel hp r = some e) : 0 < r ∧ hp[r.toNat - 1]? = some e ∧ r ≤ hp.length := by
  unfold cel at h
  by_cases h0 : 0 < r
  · rw [if_pos h0] at h
    have hl := (List.getElem?_eq_some_iff.mp h).1
    exact ⟨h0, h, by omega⟩
  · rw [if_neg h0] at h
    cases h
theorem fv_at {rf : Int → Option Nat} {k i : Nat} {l : List Int} {x : Int} (h : l[i]? = some x) : (fv rf k l)[i]? = some (toV rf (tg (kty k i), x)) := by
  unfold fv
  rw [List.getElem?_mapIdx, h]
  rfl
theorem fv_set {rf : Int → Option Nat} {k i : Nat} {l : List Int} {x : Int} : (fv rf k l).set i (toV rf (tg (kty k i), x)) = fv rf k (l.set i x) := by
  apply List.ext_getElem?
  intro j
  unfold fv
  rw [List.getElem?_set, List.getElem?_mapIdx, List.getElem?_mapIdx, List.getElem?_set, List.length_mapIdx]
  by_cases h : i = j
  · subst h
    by_cases hl : i < l.length
    · simp [hl]
    · simp [hl]
  · simp [h]
theorem wfH.at {hp : Hp} (h : wfH hp) {a : Nat} {e : Nat × List Int} (he : hp[a]? = some e) : okC hp.length e := h e (List.mem_of_getElem? he)
theorem okV_of {n t : Nat} {x : Int} (h : okT n t x) : okV n (tg t, x) := by
  rcases h with ⟨rfl, h⟩ | ⟨rfl, h⟩ | ⟨rfl, h⟩ | ⟨rfl, h⟩ | ⟨rfl, h⟩
  · exact okV_i h
  · exact okV_l h
  · exact okV_r h
  · exact okV_i (by unfold in32; omega)
  · exact okV_i (by unfold in32; omega)
/-- no two places lie at one address -/
theorem adr_inj {base : Nat} {rf : Int → Option Nat} {cA : Nat → ClassId} {hp : Hp} (hD : va_D (A0 base) (wld rf cA hp)) {i j : Nat} (hi : i < hp.length) (hj : j < hp.length) (h : adr rf i = adr rf j) : i = j := by
  refine hD.1 i j _ _ (wld_at (List.getElem?_eq_getElem hi)) (wld_at (List.getElem?_eq_getElem hj)) h
theorem adr_in {base : Nat} {rf : Int → Option Nat} {cA : Nat → ClassId} {hp : Hp} (hD : va_D (A0 base) (wld rf cA hp)) {i : Nat} (hi : i < hp.length) : base ≤ adr rf i := hD.2 i _ (wld_at (List.getElem?_eq_getElem hi))
end
section
/-! instructions that read the heap: the machine's step -/
def clAt (a : Int) : vw_C := vwCl.getD a.toNat ("", fun _ => ("", "", "", false), 0)
noncomputable def dcMt (own : String) (cc : ByteArray) (pc nx : Nat) (a : Int) (g0 g1 g2 g3 g4 : Nat) : Bool :=
  (nx == pc + 3 && dq cc pc (.invokestatic g1) 3) && (wq g4 (.initialized "java/lang/Math") &&
  (if a = 0 then wq g0 (.methodLink own g1 Lib.Math.max.name) && (wq g2 (.static Lib.Math.max.name) && wc g3 (.code Lib.Math.max.name Lib.Math.max.code 2 (some .int)))
   else wq g0 (.methodLink own g1 Lib.Math.min.name) && (wq g2 (.static Lib.Math.min.name) && wc g3 (.code Lib.Math.min.name Lib.Math.min.code 2 (some .int)))))
theorem mth_in {a x y : Int} (hx : in32 x) (hy : in32 y) : in32 (mth a x y) := by
  unfold mth
  split
  · split
    · exact hy
    · exact hx
  · split
    · exact hy
    · exact hx
section MT
variable {p : Program} {l : Launch} {e : Env} {R : Room} {s : State} {m : MethodId} {args : Array Value} {below : List Frame} {meth : Method} {c : Code} {H : Heap} {locs : List Loc} {cells slots : Nat} {Q : State → Prop}
variable {cc : ByteArray} {nL : Nat} {own : String} {rf : Int → Option Nat} {arr : Array Slot}
theorem rd_math (X : Cx p s m args c cc nL own) (harr : arr.size = nL) (hfr : 1 ≤ R.frames) (hlo : 64 ≤ R.locals) (hcl : cells ≤ R.cells) (hsl : slots ≤ R.slots) {pc nx g0 g1 g2 g3 g4 : Nat} {a x y : Int} {rest : List Vl} (hd : dcMt own cc pc nx a g0 g1 g2 g3 g4 = true) (hwd : wds rest ≤ 8) (hx : in32 x) (hy : in32 y)
    (k : W p l e R s m args below meth c H locs cells slots Q (F0 m nx arr (toV rf (0, mth a x y) :: rest.map (toV rf)))) : W p l e R s m args below meth c H locs cells slots Q (F0 m pc arr (toV rf (0, y) :: toV rf (0, x) :: rest.map (toV rf))) := by
  obtain ⟨hxe, hb, hml, hown, hts⟩ := X
  unfold dcMt at hd
  simp only [Bool.and_eq_true, beq_iff_eq] at hd
  obtain ⟨⟨rfl, hdq⟩, hi, hl⟩ := hd
  have hcat : ((rest.map (toV rf)).map fun v => v.category).sum = wds rest := by
    unfold wds
    rw [List.map_map]
    congr 1
    apply List.map_congr_left
    intro v _
    exact toV_cat rf v
  rw [toV_i] at k
  rw [toV_i, toV_i]
  unfold mth at k
  by_cases h0 : a = 0
  · rw [if_pos h0, Bool.and_eq_true, Bool.and_eq_true] at hl
    rw [if_pos h0] at k
    refine va_mmax hxe hb (by rw [hml]; exact harr.symm) hown (hts _ (wq_of hl.1)) (hts _ (wq_of hl.2.1)) (hts _ (wq_of hi)) (hts _ (wc_of hl.2.2)) hfr (by rw [hcat]; omega) hcl hsl (dq_of hdq) ?_
    by_cases h : x < y
    · rw [if_pos ((n_lt hx hy).mpr h)]
      rw [if_pos h] at k
      exact k
    · rw [if_neg (fun z => h ((n_lt hx hy).mp z))]
      rw [if_neg h] at k
      exact k
  · rw [if_neg h0, Bool.and_eq_true, Bool.and_eq_true] at hl
    rw [if_neg h0] at k
    refine va_mmin hxe hb (by rw [hml]; exact harr.symm) hown (hts _ (wq_of hl.1)) (hts _ (wq_of hl.2.1)) (hts _ (wq_of hi)) (hts _ (wc_of hl.2.2)) hfr (by rw [hcat]; omega) hcl hsl (dq_of hdq) ?_
    by_cases h : y < x
    · rw [if_pos ((n_lt hy hx).mpr h)]
      rw [if_pos h] at k
      exact k
    · rw [if_neg (fun z => h ((n_lt hy hx).mp z))]
      rw [if_neg h] at k
      exact k
end MT
def gcN : MethodName := ⟨"java/lang/Object", "getClass", "()Ljava/lang/Class;"⟩
noncomputable def dcMl (own : String) (cc : ByteArray) (pc nx : Nat) (a : Int) (g0 g1 g2 g3 g4 : Nat) : Bool :=
  (nx == pc + 3 && dq cc pc (.invokestatic g1) 3) && (wq g4 (.initialized "java/lang/Math") &&
  (if a = 0 then wq g0 (.methodLink own g1 Lib.MathLoose.max_long.x) && (wq g2 (.static Lib.MathLoose.max_long.x) && wc g3 (.code Lib.MathLoose.max_long.x Lib.MathLoose.max_long.code 4 (some .long)))
   else wq g0 (.methodLink own g1 Lib.MathLoose.min_long.x) && (wq g2 (.static Lib.MathLoose.min_long.x) && wc g3 (.code Lib.MathLoose.min_long.x Lib.MathLoose.min_long.code 4 (some .long)))))
theorem mth_in64 {a x y : Int} (hx : in64 x) (hy : in64 y) : in64 (mth a x y) := by
  unfold mth
  split
  · split
    · exact hy
    · exact hx
  · split
    · exact hy
    · exact hx
section ML
variable {p : Program} {l : Launch} {e : Env} {R : Room} {s : State} {m : MethodId} {args : Array Value} {below : List Frame} {meth : Method} {c : Code} {H : Heap} {locs : List Loc} {cells slots : Nat} {Q : State → Prop}
variable {cc : ByteArray} {nL : Nat} {own : String} {rf : Int → Option Nat} {arr : Array Slot}
theorem rd_mathl (X : Cx p s m args c cc nL own) (harr : arr.size = nL) (hfr : 1 ≤ R.frames) (hlo : 64 ≤ R.locals) (hcl : cells ≤ R.cells) (hsl : slots ≤ R.slots) {pc nx g0 g1 g2 g3 g4 : Nat} {a x y : Int} {rest : List Vl} (hd : dcMl own cc pc nx a g0 g1 g2 g3 g4 = true) (hwd : wds rest ≤ 8) (hx : in64 x) (hy : in64 y)
    (k : W p l e R s m args below meth c H locs cells slots Q (F0 m nx arr (toV rf (1, mth a x y) :: rest.map (toV rf)))) : W p l e R s m args below meth c H locs cells slots Q (F0 m pc arr (toV rf (1, y) :: toV rf (1, x) :: rest.map (toV rf))) := by
  obtain ⟨hxe, hb, hml, hown, hts⟩ := X
  unfold dcMl at hd
  simp only [Bool.and_eq_true, beq_iff_eq] at hd
  obtain ⟨⟨rfl, hdq⟩, hi, hl⟩ := hd
  have hcat : ((rest.map (toV rf)).map fun v => v.category).sum = wds rest := by
    unfold wds
    rw [List.map_map]
    congr 1
    apply List.map_congr_left
    intro v _
    exact toV_cat rf v
  rw [toV_l] at k
  rw [toV_l, toV_l]
  unfold mth at k
  by_cases h0 : a = 0
  · rw [if_pos h0, Bool.and_eq_true, Bool.and_eq_true] at hl
    rw [if_pos h0] at k
    refine va_mmax_long hxe hb (by rw [hml]; exact harr.symm) hown (hts _ (wq_of hl.1)) (hts _ (wq_of hl.2.1)) (hts _ (wq_of hi)) (hts _ (wc_of hl.2.2)) hfr (by rw [hcat]; omega) hcl hsl (dq_of hdq) ?_
    by_cases h : x < y
    · rw [if_neg (fun z => absurd ((m_lt hy hx).mp z) (by omega))]
      rw [if_pos h] at k
      exact k
    · rw [if_neg h] at k
      by_cases h2 : y < x
      · rw [if_pos ((m_lt hy hx).mpr h2)]
        exact k
      · rw [if_neg (fun z => h2 ((m_lt hy hx).mp z))]
        rw [show x = y by omega] at k
        exact k
  · rw [if_neg h0, Bool.and_eq_true, Bool.and_eq_true] at hl
    rw [if_neg h0] at k
    refine va_mmin_long hxe hb (by rw [hml]; exact harr.symm) hown (hts _ (wq_of hl.1)) (hts _ (wq_of hl.2.1)) (hts _ (wq_of hi)) (hts _ (wc_of hl.2.2)) hfr (by rw [hcat]; omega) hcl hsl (dq_of hdq) ?_
    by_cases h : y < x
    · rw [if_pos ((m_lt hy hx).mpr h)]
      rw [if_pos h] at k
      exact k
    · rw [if_neg (fun z => h ((m_lt hy hx).mp z))]
      rw [if_neg h] at k
      exact k
end ML
noncomputable def dcF (own : String) (cc : ByteArray) (pc nx : Nat) (a b : Int) (g0 g1 g2 g3 : Nat) : Bool :=
  (decide (0 ≤ a ∧ a < 14 ∧ b.toNat < (clAt a).2.2) && (nx == pc + 3 && dq cc pc (.getfield g1) 3)) &&
  (if g2 = 0 then wq g0 (.fieldLink own g1 ((clAt a).2.1 b.toNat).1 ((clAt a).2.1 b.toNat).2.1 ((clAt a).2.1 b.toNat).2.2.1)
   else wq g0 (.fieldLink own g1 RJx4a65c ((clAt a).2.1 b.toNat).2.1 ((clAt a).2.1 b.toNat).2.2.1) && wq g3 (.sameField RJx4a65c ((clAt a).2.1 b.toNat).1 ((clAt a).2.1 b.toNat).2.1 ((clAt a).2.1 b.toNat).2.2.1))
noncomputable def dcH (own : String) (cc : ByteArray) (pc op nx : Nat) (a b : Int) (os : List Int) : Bool :=
  if op = 30 then dcF own cc pc nx a b (os.getD 0 0).toNat (os.getD 1 0).toNat (os.getD 2 0).toNat (os.getD 3 0).toNat
  else if op = 31 then d1 cc pc nx .arraylength
  else if op = 32 then (if a = 20 then d1 cc pc nx .iaload else if a = 21 then d1 cc pc nx .baload else if a = 23 then d1 cc pc nx .laload else a == 24 && d1 cc pc nx .aaload)
  else if op = 33 then (nx == pc + 3 && dq cc pc (.getfield (os.getD 1 0).toNat) 3) && (if b = 0 then wq (os.getD 0 0).toNat (.fieldLink own (os.getD 1 0).toNat "java/lang/String" "value" "[B") else wq (os.getD 0 0).toNat (.fieldLink own (os.getD 1 0).toNat "java/lang/String" "coder" "B"))
  else if op = 34 then (decide (0 ≤ a ∧ (a < 14 ∨ a = 20 ∨ a = 25)) && (nx == pc + 3 && dq cc pc (.checkcast (os.getD 1 0).toNat) 3)) && (if a = 20 then wq (os.getD 0 0).toNat (.classLink own (os.getD 1 0).toNat "[I") else if a = 25 then wq (os.getD 0 0).toNat (.classLink own (os.getD 1 0).toNat "[Ljava/lang/Object;") else wq (os.getD 0 0).toNat (.classLink own (os.getD 1 0).toNat (clAt a).1))
  else if op = 35 then (nx == pc + 3 && dq cc pc (.invokespecial (os.getD 1 0).toNat) 3) && (wq (os.getD 0 0).toNat (.methodLink own (os.getD 1 0).toNat Lib.objectInit) && (wq (os.getD 2 0).toNat (.instanceMethod Lib.objectInit) && wq (os.getD 3 0).toNat (.code Lib.objectInit ⟨#[0xb1]⟩ 1 none)))
  else if op = 36 then dcMt own cc pc nx a (os.getD 0 0).toNat (os.getD 1 0).toNat (os.getD 2 0).toNat (os.getD 3 0).toNat (os.getD 4 0).toNat
  else if op = 37 then dcMl own cc pc nx a (os.getD 0 0).toNat (os.getD 1 0).toNat (os.getD 2 0).toNat (os.getD 3 0).toNat (os.getD 4 0).toNat
  else if op = 38 then (nx == pc + 3 && dq cc pc (.getstatic (os.getD 1 0).toNat) 3) && (if a = 0 then wq (os.getD 0 0).toNat (.fieldLink own (os.getD 1 0).toNat "java/lang/String" "COMPACT_STRINGS" "Z") else wq (os.getD 0 0).toNat (.fieldLink own (os.getD 1 0).toNat "jdk/internal/util/Preconditions" "SIOOBE_FORMATTER" "Ljava/util/function/BiFunction;"))
  else if op = 39 then (if a = 0 then (nx == pc + 2 && dq cc pc (.ldc (os.getD 1 0).toNat) 2) && wq (os.getD 0 0).toNat (.classLink own (os.getD 1 0).toNat "[Ljava/lang/Object;")
    else (nx == pc + 3 && dq cc pc (.invokevirtual (os.getD 1 0).toNat) 3) && (wq (os.getD 0 0).toNat (.methodLink own (os.getD 1 0).toNat gcN) && (wq (os.getD 2 0).toNat (.selects "[Ljava/lang/Object;" gcN gcN) && (wq (os.getD 3 0).toNat (.instanceMethod gcN) && wq (os.getD 4 0).toNat (.native gcN)))))
  else false
set_option maxRecDepth 100000 in
theorem cl_ws : ∀ (k : Nat) (q : vw_C), vwCl[k]? = some q → ∀ w ∈ u_ws q.1 q.2.1 q.2.2, w ∈ lw_use := by
  intro k q h
  have hm := List.mem_of_getElem? h
  simp only [vwCl, List.mem_cons, List.not_mem_nil, or_false] at hm
  rcases hm with rfl | rfl | rfl | rfl | rfl | rfl | rfl | rfl | rfl | rfl | rfl | rfl | rfl | rfl
  · exact inJx4a65c
  · exact inX0
  · exact inX1
  · exact inX2
  · exact inX3
  · exact inX4
  · exact inX5
  · exact inX6
  · exact inX7
  · exact inX8
  · exact inX9
  · exact inX10
  · exact inX11
  · exact inX12
theorem clAt_of {a : Int} {k : Nat} (h : (k : Int) = a) (hk : k < 14) : vwCl[k]? = some (clAt a) := by
  subst h
  unfold clAt
  rw [List.getD_eq_getElem?_getD, Int.toNat_natCast, List.getElem?_eq_getElem (show k < vwCl.length from hk)]
  rfl
section RD
variable {p : Program} {l : Launch} {e : Env} {R : Room} {s : State} {m : MethodId} {args : Array Value} {below : List Frame} {meth : Method} {c : Code} {H : Heap} {locs : List Loc} {cells slots : Nat} {Q : State → Prop}
variable {cc : ByteArray} {nL : Nat} {own : String} {base : Nat} {rf : Int → Option Nat} {sc : List Int} {st st' : List Vl} {arr : Array Slot} {D : va_G} {cA : Nat → ClassId} {hp : Hp}
theorem ref_of (hR : Rf base rf hp.length) {r : Int} {e : Nat × List Int} (h : cel hp r = some e) : toV rf (2, r) = .ref (adr rf (r.toNat - 1)) := by
  obtain ⟨h0, -, hn⟩ := cel_of h
  rw [toV_r, adr_of hR h0 hn]
  rfl
theorem ent_o {e : Nat × List Int} (h : e.1 < 14) : ent rf cA e = .inr (e.1, fv rf e.1 e.2) := by unfold ent; rw [if_pos h]
theorem ent_l {e : Nat × List Int} (h : e.1 = 23) : ent rf cA e = .inl (cA e.1, e.2.length, .inr (.inl (fun j => Int64.ofInt (e.2.getD j 0)))) := by unfold ent; rw [if_neg (by omega), if_pos h]
theorem ent_i {e : Nat × List Int} (h : 14 ≤ e.1) (h2 : e.1 < 23) : ent rf cA e = .inl (cA e.1, e.2.length, .inl (fun j => Int32.ofInt (e.2.getD j 0))) := by unfold ent; rw [if_neg (by omega), if_neg (by omega), if_pos h2]
theorem ent_r {e : Nat × List Int} (h : 24 ≤ e.1) : ent rf cA e = .inl (cA e.1, e.2.length, .inr (.inr (.inr (.inr (fun j => rf (e.2.getD j 0)))))) := by unfold ent; rw [if_neg (by omega), if_neg (by omega), if_neg (by omega)]
theorem ent_a {e : Nat × List Int} (h : 20 ≤ e.1) : ∃ x, ent rf cA e = .inl (cA e.1, e.2.length, x) := by
  by_cases h1 : e.1 = 23
  · exact ⟨_, ent_l h1⟩
  · by_cases h2 : e.1 < 23
    · exact ⟨_, ent_i (by omega) h2⟩
    · exact ⟨_, ent_r (by omega)⟩
theorem getD_of {l : List Int} {i : Nat} {x : Int} (h : l[i]? = some x) : l.getD i 0 = x := by rw [List.getD_eq_getElem?_getD, h]; rfl
theorem aty_ref {k : Nat} (h : 24 ≤ k) : (aty k).isReference = true := by
  unfold aty
  rw [if_neg (by omega), if_neg (by omega), if_neg (by omega), if_neg (by omega)]
  repeat' split
  all_goals rfl
theorem snd_hst (X : Cx p s m args c cc nL own) (hS : Stt base rf sc s) (hSS : va_S (A0 base) s.heap H locs) (hK : va_K D vwCl (ktys cA) s) (hP : va_P D vwCl (wld rf cA hp) H) (hw : wfH hp) (hR : Rf base rf hp.length)
    (harr : arr.size = nL) (hfr : 1 ≤ R.frames) (hlo : 64 ≤ R.locals) (hcr : cells ≤ R.cells) (hsr : slots ≤ R.slots) {pc op nx : Nat} {a b : Int} {os : List Int} (hd : dcH own cc pc op nx a b os = true) (hp2 : rst sc stxt op a b hp st = some st') (hst : okS hp.length st)
    (k : W p l e R s m args below meth c H locs cells slots Q (F0 m nx arr (st'.map (toV rf)))) : W p l e R s m args below meth c H locs cells slots Q (F0 m pc arr (st.map (toV rf))) := by
  obtain ⟨hx, hb, hml, hown, hts⟩ := X
  unfold dcH at hd
  unfold rst at hp2
  by_cases q0 : op = 30
  · rw [if_pos q0] at hd hp2
    match st, hp2, hst with
    | (2, r) :: rest, hp2, hst =>
      change (match cel hp r with
        | some (kd, l) => if (kd : Int) = a then (match l[b.toNat]? with
          | some x => some ((tg (kty kd b.toNat), x) :: rest)
          | none => none) else none
        | none => none) = some st' at hp2
      cases hc : cel hp r with
      | none => rw [hc] at hp2; cases hp2
      | some e =>
        obtain ⟨kd, l⟩ := e
        rw [hc] at hp2
        dsimp only at hp2
        by_cases hk : (kd : Int) = a
        · rw [if_pos hk] at hp2
          cases hv : l[b.toNat]? with
          | none => rw [hv] at hp2; cases hp2
          | some x =>
            rw [hv] at hp2
            have hp2 := (Option.some.inj hp2).symm
            subst hp2
            unfold dcF at hd
            simp only [Bool.and_eq_true, decide_eq_true_eq, beq_iff_eq] at hd
            obtain ⟨⟨⟨ha0, ha14, hbN⟩, rfl, hdq⟩, hl⟩ := hd
            have hk14 : kd < 14 := by omega
            have hcl := clAt_of hk hk14
            obtain ⟨-, hat, -⟩ := cel_of hc
            have hwl := wld_at (rf := rf) (cA := cA) hat
            rw [ent_o (show ((kd, l) : Nat × List Int).1 < 14 from hk14)] at hwl
            rw [List.map_cons, ref_of hR hc]
            have hcw := cl_ws kd _ hcl
            by_cases hg : (os.getD 2 0).toNat = 0
            · rw [if_pos hg] at hl
              exact va_get hx hb hts hcw hown hK hP (r.toNat - 1) hwl hcl b.toNat hbN (hts _ (wq_of hl)) (fun _ h => h) (fv_at hv) (dq_of hdq) k
            · rw [if_neg hg, Bool.and_eq_true] at hl
              exact va_get hx hb hts hcw hown hK hP (r.toNat - 1) hwl hcl b.toNat hbN (hts _ (wq_of hl.1)) (fun x h => u_same (hts _ (wq_of hl.2)) x h) (fv_at hv) (dq_of hdq) k
        · rw [if_neg hk] at hp2
          cases hp2
  rw [if_neg q0] at hd hp2
  by_cases q1 : op = 31
  · rw [if_pos q1] at hd hp2
    obtain ⟨rfl, hdq⟩ := d1_of hd
    match st, hp2, hst with
    | (2, r) :: rest, hp2, hst =>
      change (if r = -1 then some ((0, (sc.length : Int)) :: rest) else if r = -2 then some ((0, 0) :: rest) else if r ≤ -100 then (match txt stxt r with
          | some l => some ((0, (l.length : Int)) :: rest)
          | none => none)
        else (match cel hp r with
        | some (kd, l) => if 20 ≤ kd then some ((0, (l.length : Int)) :: rest) else none
        | none => none)) = some st' at hp2
      by_cases r1 : r = -1
      · rw [if_pos r1] at hp2
        have hp2 := (Option.some.inj hp2).symm
        subst hp2
        obtain ⟨hbs, -, -, ⟨b0, hb1, hb2, hX, -⟩, -⟩ := hS
        rw [List.map_cons, toV_r, r1, hb1]
        exact va_slen hx hb hX (show b0 < s.heap.size by omega) (show ¬ base ≤ b0 by omega) hSS hdq k
      rw [if_neg r1] at hp2
      by_cases r2 : r = -2
      · rw [if_pos r2] at hp2
        have hp2 := (Option.some.inj hp2).symm
        subst hp2
        obtain ⟨-, -, ⟨t, ht, -, hT⟩, -⟩ := hS
        rw [List.map_cons, toV_r, r2, ht]
        exact va_tlen hx hb hT hSS rfl hdq k
      rw [if_neg r2] at hp2
      by_cases r3 : r ≤ -100
      · rw [if_pos r3] at hp2
        cases hc : txt stxt r with
        | none => rw [hc] at hp2; cases hp2
        | some l =>
          rw [hc] at hp2
          have hp2 := (Option.some.inj hp2).symm
          subst hp2
          unfold txt at hc
          rw [if_pos r3] at hc
          obtain ⟨-, -, -, -, adK, adV, hV, hk, -⟩ := hS
          have hi : (-100 - r).toNat < 23 := (List.getElem?_eq_some_iff.mp hc).1
          have e := (hk _ hi).2
          rw [show (-100 - (((-100 - r).toNat : Nat) : Int)) = r by omega] at e
          rw [List.map_cons, toV_r, e]
          have hT := (hV.1 _ hi).2.2.2
          have hl : slen.getD (-100 - r).toNat 0 = l.length := by
            unfold slen
            rw [List.getD_eq_getElem?_getD, List.getElem?_map, hc]
            rfl
          rw [hl] at hT
          exact va_tlen hx hb hT hSS rfl hdq k
      rw [if_neg r3] at hp2
      cases hc : cel hp r with
      | none => rw [hc] at hp2; cases hp2
      | some e =>
        obtain ⟨kd, l⟩ := e
        rw [hc] at hp2
        dsimp only at hp2
        by_cases hk : 20 ≤ kd
        · rw [if_pos hk] at hp2
          have hp2 := (Option.some.inj hp2).symm
          subst hp2
          obtain ⟨-, hat, -⟩ := cel_of hc
          have hwl := wld_at (rf := rf) (cA := cA) hat
          obtain ⟨x, hx2⟩ := ent_a (rf := rf) (cA := cA) (e := (kd, l)) hk
          rw [hx2] at hwl
          rw [List.map_cons, ref_of hR hc]
          have hC := (hw.at hat).2.1 (show 14 ≤ kd by omega)
          exact va_alen hx hb hK hP (r.toNat - 1) (kd - 20) hwl (ktys_at cA hk hC.2.1) rfl hdq k
        · rw [if_neg hk] at hp2
          cases hp2
  rw [if_neg q1] at hd hp2
  by_cases q2 : op = 32
  · rw [if_pos q2] at hd hp2
    match st, hp2, hst with
    | (0, i) :: (2, r) :: rest, hp2, hst =>
      change (if i < 0 then none else if r = -1 then (if a = 20 then (match sc[i.toNat]? with
        | some x => some ((0, x) :: rest)
        | none => none) else none) else if r ≤ -100 then (if a = 21 then (match txt stxt r with
        | some l => (match l[i.toNat]? with
          | some x => some ((0, x) :: rest)
          | none => none)
        | none => none) else none)
      else (match cel hp r with
      | some (kd, l) => if (kd : Int) = a ∨ (a = 21 ∧ kd = 22) ∨ (a = 24 ∧ 24 ≤ kd) then (match l[i.toNat]? with
        | some x => some ((tg (kty kd 0), x) :: rest)
        | none => none) else none
      | none => none)) = some st' at hp2
      by_cases i0 : i < 0
      · rw [if_pos i0] at hp2
        cases hp2
      rw [if_neg i0] at hp2
      have hi32 : in32 i := (hst _ List.mem_cons_self).int
      have hcl : (Int32.ofInt i).toNatClampNeg = i.toNat := cl_of (by omega) hi32
      have hin : ∀ {n : Nat}, i.toNat < n → vp_in (Int32.ofInt i) n := fun h => vp_in_of' (by omega) hi32 h
      rw [List.map_cons, List.map_cons, toV_i]
      by_cases r1 : r = -1
      · rw [if_pos r1] at hp2
        by_cases ha : a = 20
        · rw [if_pos ha] at hp2
          cases hv : sc[i.toNat]? with
          | none => rw [hv] at hp2; cases hp2
          | some x =>
            rw [hv] at hp2
            have hp2 := (Option.some.inj hp2).symm
            subst hp2
            rw [if_pos ha] at hd
            obtain ⟨rfl, hdq⟩ := d1_of hd
            obtain ⟨hbs, -, -, ⟨b0, hb1, hb2, hX, -⟩, -⟩ := hS
            rw [toV_r, r1, hb1]
            refine va_sld hx hb hX (show b0 < s.heap.size by omega) (show ¬ base ≤ b0 by omega) hSS (hin (List.getElem?_eq_some_iff.mp hv).1) hdq ?_
            rw [hcl, getD_of hv]
            exact k
        · rw [if_neg ha] at hp2
          cases hp2
      rw [if_neg r1] at hp2
      by_cases r3 : r ≤ -100
      · rw [if_pos r3] at hp2
        by_cases ha : a = 21
        · rw [if_pos ha] at hp2
          cases hc : txt stxt r with
          | none => rw [hc] at hp2; cases hp2
          | some l =>
            rw [hc] at hp2
            dsimp only at hp2
            cases hv : l[i.toNat]? with
            | none => rw [hv] at hp2; cases hp2
            | some x =>
              rw [hv] at hp2
              have hp2 := (Option.some.inj hp2).symm
              subst hp2
              rw [if_neg (by omega), if_pos ha] at hd
              obtain ⟨rfl, hdq⟩ := d1_of hd
              unfold txt at hc
              rw [if_pos r3] at hc
              obtain ⟨-, -, -, -, adK, adV, hV, hk, -⟩ := hS
              have hj : (-100 - r).toNat < 23 := (List.getElem?_eq_some_iff.mp hc).1
              have e := (hk _ hj).2
              rw [show (-100 - (((-100 - r).toNat : Nat) : Int)) = r by omega] at e
              rw [toV_r, e]
              have hT := (hV.1 _ hj).2.2.2
              have hl : slen.getD (-100 - r).toNat 0 = l.length := by
                unfold slen
                rw [List.getD_eq_getElem?_getD, List.getElem?_map, hc]
                rfl
              rw [hl] at hT
              refine va_tb hx hb hT hSS (hin (List.getElem?_eq_some_iff.mp hv).1) ?_ hdq k
              rw [hcl]
              have hby : (sbyt.getD (-100 - r).toNat []).getD i.toNat 0 = Int32.ofInt x := by
                unfold sbyt
                rw [List.getD_eq_getElem?_getD, List.getD_eq_getElem?_getD, List.getElem?_map, hc]
                show ((l.map Int32.ofInt)[i.toNat]?).getD 0 = _
                rw [List.getElem?_map, hv]
                rfl
              rw [hby]
              rfl
        · rw [if_neg ha] at hp2
          cases hp2
      rw [if_neg r3] at hp2
      cases hc : cel hp r with
      | none => rw [hc] at hp2; cases hp2
      | some e =>
        obtain ⟨kd, l⟩ := e
        rw [hc] at hp2
        dsimp only at hp2
        by_cases hk : (kd : Int) = a ∨ (a = 21 ∧ kd = 22) ∨ (a = 24 ∧ 24 ≤ kd)
        · rw [if_pos hk] at hp2
          cases hv : l[i.toNat]? with
          | none => rw [hv] at hp2; cases hp2
          | some x =>
            rw [hv] at hp2
            have hp2 := (Option.some.inj hp2).symm
            subst hp2
            obtain ⟨-, hat, -⟩ := cel_of hc
            have hwl := wld_at (rf := rf) (cA := cA) hat
            have hlt : i.toNat < l.length := (List.getElem?_eq_some_iff.mp hv).1
            rw [ref_of hR hc]
            by_cases a0 : a = 20
            · rw [if_pos a0] at hd
              obtain ⟨rfl, hdq⟩ := d1_of hd
              have hkd : kd = 20 := by omega
              subst hkd
              rw [ent_i (by simp) (by simp)] at hwl
              refine va_iald hx hb hK hP (r.toNat - 1) 0 hwl (ktys_at cA (Nat.le_refl 20) (by omega)) (hin hlt) hdq ?_
              rw [hcl, getD_of hv]
              exact k
            rw [if_neg a0] at hd
            by_cases a1 : a = 21
            · rw [if_pos a1] at hd
              obtain ⟨rfl, hdq⟩ := d1_of hd
              have hkd : kd = 21 ∨ kd = 22 := by omega
              rcases hkd with rfl | rfl
              · rw [ent_i (by simp) (by simp)] at hwl
                refine va_bald hx hb hK hP (r.toNat - 1) 1 hwl (ktys_at cA (k := 21) (by omega) (by omega)) (hin hlt) hdq ?_
                rw [hcl, getD_of hv]
                exact k
              · rw [ent_i (by simp) (by simp)] at hwl
                refine va_zald hx hb hK hP (r.toNat - 1) 2 hwl (ktys_at cA (k := 22) (by omega) (by omega)) (hin hlt) hdq ?_
                rw [hcl, getD_of hv]
                exact k
            rw [if_neg a1] at hd
            by_cases a3 : a = 23
            · rw [if_pos a3] at hd
              obtain ⟨rfl, hdq⟩ := d1_of hd
              have hkd : kd = 23 := by omega
              subst hkd
              rw [ent_l rfl] at hwl
              refine va_lald hx hb hK hP (r.toNat - 1) 3 hwl (ktys_at cA (k := 23) (by omega) (by omega)) (hin hlt) hdq ?_
              rw [hcl, getD_of hv]
              exact k
            rw [if_neg a3, Bool.and_eq_true, beq_iff_eq] at hd
            obtain ⟨a4, hd⟩ := hd
            obtain ⟨rfl, hdq⟩ := d1_of hd
            have hkd : 24 ≤ kd := by omega
            rw [ent_r hkd] at hwl
            have hC := (hw.at hat).2.1 (show 14 ≤ kd by omega)
            have hty : kty kd 0 = 2 := by
              unfold kty
              rw [if_neg (by omega), if_neg (by omega), if_neg (by omega), if_neg (by omega), if_neg (by omega)]
            rw [hty] at k
            have e2 : ∀ z : Int, toV rf (tg 2, z) = va_rf (rf z) := fun z => rfl
            rw [List.map_cons, e2, ← getD_of hv] at k
            exact W.aald (v := va_rf (rf (l.getD i.toNat 0))) (ty := aty kd) hx hb (hP (r.toNat - 1) _ hwl) ((hK.2 (kd - 20) _ (ktys_at cA (by omega) hC.2.1)).1 l.length (fun j => va_rf (rf (l.getD j 0)))) (aty_ref hkd) (fun q => by cases q) (by show ¬ (_ ∨ (arrV _ _ _).slots.size ≤ _); rw [arrV_size]; exact hin hlt) (by show (arrV _ _ _).slots[_]? = _; rw [hcl, arrV_read _ _ hlt]) rfl rfl hdq k
        · rw [if_neg hk] at hp2
          cases hp2
  rw [if_neg q2] at hd hp2
  by_cases q3 : op = 33
  · rw [if_pos q3] at hd hp2
    simp only [Bool.and_eq_true, beq_iff_eq] at hd
    obtain ⟨⟨rfl, hdq⟩, hl⟩ := hd
    match st, hp2, hst with
    | (2, r) :: rest, hp2, hst =>
      change (if r ≤ -10 ∧ -33 < r then (if b = 0 then some ((2, r - 90) :: rest) else some ((0, 0) :: rest)) else none) = some st' at hp2
      by_cases hr : r ≤ -10 ∧ -33 < r
      · rw [if_pos hr] at hp2
        obtain ⟨-, -, -, -, adK, adV, hV, hk, -⟩ := hS
        obtain ⟨i, hi⟩ : ∃ i : Nat, r = -10 - (i : Int) := ⟨(-10 - r).toNat, by omega⟩
        have hi23 : i < 23 := by omega
        obtain ⟨e1, e2⟩ := hk i hi23
        rw [List.map_cons, toV_r, hi, e1]
        by_cases b0 : b = 0
        · rw [if_pos b0] at hp2 hl
          have hp2 := (Option.some.inj hp2).symm
          subst hp2
          rw [List.map_cons, toV_r, show r - 90 = -100 - (i : Int) by omega, e2] at k
          exact vk_getf hx hb (hV.1 i hi23).2.2.1 hSS hown (hts _ (wq_of hl)) (fun _ h => h) (dq_of hdq) k
        · rw [if_neg b0] at hp2 hl
          have hp2 := (Option.some.inj hp2).symm
          subst hp2
          exact vk_getf hx hb (hV.1 i hi23).2.1 hSS hown (hts _ (wq_of hl)) (fun _ h => h) (dq_of hdq) k
      · rw [if_neg hr] at hp2
        cases hp2
  rw [if_neg q3] at hd hp2
  by_cases q4 : op = 34
  · rw [if_pos q4] at hd hp2
    simp only [Bool.and_eq_true, beq_iff_eq, decide_eq_true_eq] at hd
    obtain ⟨⟨⟨ha0, ha14⟩, rfl, hdq⟩, hl⟩ := hd
    match st, hp2, hst with
    | (2, r) :: rest, hp2, hst =>
      change (if r = 0 then some ((2, r) :: rest) else (match cel hp r with
        | some (kd, _) => if (kd : Int) = a then some ((2, r) :: rest) else none
        | none => none)) = some st' at hp2
      by_cases r0 : r = 0
      · rw [if_pos r0] at hp2
        have hp2 := (Option.some.inj hp2).symm
        subst hp2
        rw [List.map_cons, toV_r, r0, hS.2.1] at k ⊢
        exact lv_castN hx hb (dq_of hdq) k
      rw [if_neg r0] at hp2
      cases hc : cel hp r with
      | none => rw [hc] at hp2; cases hp2
      | some e =>
        obtain ⟨kd, l⟩ := e
        rw [hc] at hp2
        dsimp only at hp2
        by_cases hk : (kd : Int) = a
        · rw [if_pos hk] at hp2
          have hp2 := (Option.some.inj hp2).symm
          subst hp2
          obtain ⟨-, hat, -⟩ := cel_of hc
          have hwl := wld_at (rf := rf) (cA := cA) hat
          by_cases h20 : a = 20
          · rw [if_pos h20] at hl
            have hk20 : kd = 20 := by omega
            subst hk20
            rw [ent_i (by simp) (by simp)] at hwl
            rw [List.map_cons, ref_of hR hc] at k ⊢
            exact va_castA (nm := "[I") hx hb hown (hts _ (wq_of hl)) hP (r.toNat - 1) hwl (va_nm_int ((hK.2 0 _ (ktys_at cA (Nat.le_refl 20) (by omega))).2)) (dq_of hdq) k
          rw [if_neg h20] at hl
          by_cases h25 : a = 25
          · rw [if_pos h25] at hl
            have hk25 : kd = 25 := by omega
            subst hk25
            rw [ent_r (by simp)] at hwl
            rw [List.map_cons, ref_of hR hc] at k ⊢
            exact va_castA (nm := "[Ljava/lang/Object;") hx hb hown (hts _ (wq_of hl)) hP (r.toNat - 1) hwl (va_nmO ((hK.2 5 _ (ktys_at cA (k := 25) (by omega) (by omega))).2) rfl) (dq_of hdq) k
          rw [if_neg h25] at hl
          have hk14 : kd < 14 := by omega
          have hcl := clAt_of hk hk14
          rw [ent_o (show ((kd, l) : Nat × List Int).1 < 14 from hk14)] at hwl
          rw [List.map_cons, ref_of hR hc] at k ⊢
          exact va_castS hx hb hown (hts _ (wq_of hl)) (hK.1 kd _ hcl).2 (va_recv hK hP hcl hwl) (dq_of hdq) k
        · rw [if_neg hk] at hp2
          cases hp2
  rw [if_neg q4] at hd hp2
  by_cases q5 : op = 35
  · rw [if_pos q5] at hd hp2
    simp only [Bool.and_eq_true, beq_iff_eq] at hd
    obtain ⟨⟨rfl, hdq⟩, hw1, hw2, hw3⟩ := hd
    match st, hp2, hst with
    | (2, r) :: rest, hp2, hst =>
      change (if 0 < r ∧ wds rest ≤ 8 then some rest else none) = some st' at hp2
      by_cases r0 : 0 < r ∧ wds rest ≤ 8
      · rw [if_pos r0] at hp2
        obtain ⟨r0, hwd⟩ := r0
        have hp2 := (Option.some.inj hp2).symm
        subst hp2
        rw [List.map_cons, toV_r, adr_of hR r0 (hst _ List.mem_cons_self).rfr]
        have hcat : ((st'.map (toV rf)).map fun v => v.category).sum = wds st' := by
          unfold wds
          rw [List.map_map]
          congr 1
          apply List.map_congr_left
          intro v _
          exact toV_cat rf v
        refine W.eq rfl (W.objInit (rest := st'.map (toV rf)) hx hb hown (hts _ (wq_of hw1)) (hts _ (wq_of hw2)) (hts _ (wq_of hw3)) rfl (by rw [hml]; exact harr) rfl (dq_of hdq) hfr ?_ k)
        rw [hcat]
        show 2 * 0 + _ + _ ≤ _
        omega
      · rw [if_neg r0] at hp2
        cases hp2
  rw [if_neg q5] at hd hp2
  by_cases q6 : op = 36
  · rw [if_pos q6] at hd hp2
    match st, hp2, hst with
    | (0, y) :: (0, x) :: rest, hp2, hst =>
      change (if wds rest ≤ 8 then some ((0, mth a x y) :: rest) else none) = some st' at hp2
      by_cases hwd : wds rest ≤ 8
      · rw [if_pos hwd] at hp2
        have hp2 := (Option.some.inj hp2).symm
        subst hp2
        exact rd_math ⟨hx, hb, hml, hown, hts⟩ harr hfr hlo hcr hsr hd hwd (hst (0, x) (by simp)).int (hst (0, y) (by simp)).int k
      · rw [if_neg hwd] at hp2
        cases hp2
  rw [if_neg q6] at hd hp2
  have hcat : ∀ rest : List Vl, ((rest.map (toV rf)).map fun v => v.category).sum = wds rest := by
    intro rest
    unfold wds
    rw [List.map_map]
    congr 1
    apply List.map_congr_left
    intro v _
    exact toV_cat rf v
  by_cases q7 : op = 37
  · rw [if_pos q7] at hd hp2
    match st, hp2, hst with
    | (1, y) :: (1, x) :: rest, hp2, hst =>
      change (if wds rest ≤ 8 then some ((1, mth a x y) :: rest) else none) = some st' at hp2
      by_cases hwd : wds rest ≤ 8
      · rw [if_pos hwd] at hp2
        have hp2 := (Option.some.inj hp2).symm
        subst hp2
        exact rd_mathl ⟨hx, hb, hml, hown, hts⟩ harr hfr hlo hcr hsr hd hwd (hst (1, x) (by simp)).long (hst (1, y) (by simp)).long k
      · rw [if_neg hwd] at hp2
        cases hp2
  rw [if_neg q7] at hd hp2
  by_cases q8 : op = 38
  · rw [if_pos q8] at hd hp2
    simp only [Bool.and_eq_true, beq_iff_eq] at hd
    obtain ⟨⟨rfl, hdq⟩, hl⟩ := hd
    have hp2 := (Option.some.inj hp2).symm
    subst hp2
    obtain ⟨-, -, -, -, adK, adV, -, -, -, hZ1, hZ2, -, -⟩ := hS
    by_cases h0 : a = 0
    · rw [if_pos h0] at hl
      rw [if_pos h0, List.map_cons, toV_i] at k
      exact va_gets hx hb hZ1 hSS hown (hts _ (wq_of hl)) (fun _ h => h) (dq_of hdq) k
    · rw [if_neg h0] at hl
      rw [if_neg h0, List.map_cons, toV_r] at k
      exact va_gets hx hb hZ2 hSS hown (hts _ (wq_of hl)) (fun _ h => h) (dq_of hdq) k
  rw [if_neg q8] at hd hp2
  by_cases q9 : op = 39
  · rw [if_pos q9] at hd hp2
    obtain ⟨-, -, -, -, adK, adV, -, -, -, -, -, ⟨mi, hmi, hM⟩, hDc⟩ := hS
    by_cases h0 : a = 0
    · rw [if_pos h0] at hd hp2
      simp only [Bool.and_eq_true, beq_iff_eq] at hd
      obtain ⟨⟨rfl, hdq⟩, hl⟩ := hd
      have hp2 := (Option.some.inj hp2).symm
      subst hp2
      rw [List.map_cons, toV_r, hmi] at k
      exact va_ldcM hx hb hown (hts _ (wq_of hl)) hM (dq_of hdq) k
    · rw [if_neg h0] at hd hp2
      simp only [Bool.and_eq_true, beq_iff_eq] at hd
      obtain ⟨⟨rfl, hdq⟩, hl1, hl2, hl3, hl4⟩ := hd
      match st, hp2, hst with
      | (2, r) :: rest, hp2, hst =>
        change (match cel hp r with
          | some (kd, _) => if kd = 25 ∧ wds rest ≤ 8 then some ((2, -4) :: rest) else none
          | none => none) = some st' at hp2
        cases hc : cel hp r with
        | none => rw [hc] at hp2; cases hp2
        | some e =>
          obtain ⟨kd, l⟩ := e
          rw [hc] at hp2
          dsimp only at hp2
          by_cases hk : kd = 25 ∧ wds rest ≤ 8
          · rw [if_pos hk] at hp2
            obtain ⟨rfl, hwd⟩ := hk
            have hp2 := (Option.some.inj hp2).symm
            subst hp2
            obtain ⟨-, hat, -⟩ := cel_of hc
            have hwl := wld_at (rf := rf) (cA := cA) hat
            rw [ent_r (by simp)] at hwl
            rw [List.map_cons, toV_r, hmi] at k
            rw [List.map_cons, ref_of hR hc]
            have hnm : s.vm.findClass "[Ljava/lang/Object;" = some (cA 25) := va_nmO ((hK.2 5 _ (ktys_at cA (k := 25) (by omega) (by omega))).2) rfl
            refine va_getC hx hb (by rw [hml]; exact harr.symm) hown (hts _ (wq_of hl1)) (va_Dc.use hDc) (hts _ (wq_of hl2)) (hts _ (wq_of hl3)) (hts _ (wq_of hl4)) hM ⟨_, hP _ _ hwl, rfl, ?_⟩ hfr (by rw [hcat]; omega) (dq_of hdq) k
            rw [hnm]
            rfl
          · rw [if_neg hk] at hp2
            cases hp2
  rw [if_neg q9] at hp2
  cases hp2
end RD
end
section
/-! a heap that grows; what a cell may hold -/
def sz (hp : Hp) : Nat := (hp.map (fun e => e.2.length)).sum
theorem sz_app (h1 h2 : Hp) : sz (h1 ++ h2) = sz h1 + sz h2 := by unfold sz; rw [List.map_append, List.sum_append]
theorem sz_set {hp : Hp} {a : Nat} {e e' : Nat × List Int} (h : hp[a]? = some e) (hl : e'.2.length = e.2.length) : sz (hp.set a e') = sz hp := by
  unfold sz
  congr 1
  apply List.ext_getElem?
  intro j
  rw [List.getElem?_map, List.getElem?_map, List.getElem?_set]
  by_cases hj : a = j
  · subst hj
    have hlt := (List.getElem?_eq_some_iff.mp h).1
    simp [hlt, h, hl]
    have := (List.getElem?_eq_some_iff.mp h).2
    rw [this]
  · simp [hj]
theorem kty_le (k i : Nat) : kty k i ≤ 4 := by
  unfold kty
  by_cases h : k < 14
  · rw [if_pos h]
    have key : ∀ l ∈ knds, ∀ t ∈ l, t ≤ 4 := by decide +kernel
    have hk : k < knds.length := h
    have hm : knds.getD k [] ∈ knds := by
      rw [List.getD_eq_getElem?_getD, List.getElem?_eq_getElem hk]
      exact List.getElem_mem hk
    generalize knds.getD k [] = L at hm ⊢
    by_cases hi : i < L.length
    · refine key L hm _ ?_
      rw [List.getD_eq_getElem?_getD, List.getElem?_eq_getElem hi]
      exact List.getElem_mem hi
    · rw [List.getD_eq_getElem?_getD, List.getElem?_eq_none (by omega)]
      exact Nat.zero_le 4
  · rw [if_neg h]
    repeat' split
    all_goals omega
theorem okT_0 (n t : Nat) (h : t ≤ 4) : okT n t 0 := by
  unfold okT in32 in64
  omega
theorem okT.mono {n k t : Nat} {x : Int} (h : okT n t x) (hk : n ≤ k) : okT k t x := by
  unfold okT in32 in64 at h ⊢
  omega
theorem okC.mono {n k : Nat} {e : Nat × List Int} (h : okC n e) (hk : n ≤ k) : okC k e := ⟨h.1, h.2.1, fun i x hx => (h.2.2 i x hx).mono hk⟩
theorem okT_ref {n k i : Nat} {x : Int} (hk : 24 ≤ k) (h : okT n (kty k i) x) : x ≤ n := by
  have hty : kty k i = 2 := by
    unfold kty
    rw [if_neg (by omega), if_neg (by omega), if_neg (by omega), if_neg (by omega), if_neg (by omega)]
  rw [hty] at h
  unfold okT at h
  omega
theorem toV_ext {rf rf' : Int → Option Nat} {n : Nat} {v : Vl} (h : ∀ x : Int, x ≤ n → rf' x = rf x) (hv : okV n v) : toV rf' v = toV rf v := by
  rcases hv with ⟨h1, h2⟩ | ⟨h1, h2⟩ | ⟨h1, h2⟩
  · unfold toV
    rw [if_pos h1, if_pos h1]
  · have h0 : ¬ v.1 = 0 := by omega
    unfold toV
    rw [if_neg h0, if_neg h0, if_pos h1, if_pos h1]
  · have h0 : ¬ v.1 = 0 := by omega
    have h3 : ¬ v.1 = 1 := by omega
    unfold toV
    rw [if_neg h0, if_neg h0, if_neg h3, if_neg h3, h _ h2]
theorem toVs_ext {rf rf' : Int → Option Nat} {n : Nat} {st : List Vl} (h : ∀ x : Int, x ≤ n → rf' x = rf x) (hv : okS n st) : st.map (toV rf') = st.map (toV rf) := by
  apply List.map_congr_left
  intro v hm
  exact toV_ext h (hv v hm)
theorem Lr_ext {rf rf' : Int → Option Nat} {n : Nat} {ls : List Vl} {arr : Array Slot} (h : ∀ x : Int, x ≤ n → rf' x = rf x) (ho : okL n ls) (hL : Lr rf ls arr) : Lr rf' ls arr := by
  refine ⟨hL.1, hL.2.1, fun i v hv h9 => ?_⟩
  have := ho v (List.mem_of_getElem? hv)
  rw [toV_ext h (this.resolve_left h9)]
  exact hL.2.2 i v hv h9
theorem ent_ext {rf rf' : Int → Option Nat} {cA : Nat → ClassId} {n : Nat} {e : Nat × List Int} (h : ∀ x : Int, x ≤ n → rf' x = rf x) (ho : okC n e) : ent rf' cA e = ent rf cA e := by
  unfold ent
  split
  · congr 2
    unfold fv
    apply List.ext_getElem?
    intro i
    rw [List.getElem?_mapIdx, List.getElem?_mapIdx]
    cases hx : e.2[i]? with
    | none => rfl
    | some x =>
      show some (toV rf' _) = some (toV rf _)
      rw [toV_ext h (okV_of (ho.2.2 i x hx))]
  · split
    · rfl
    · split
      · rfl
      · rename_i h14 h23 hlt
        have e0 : (fun j => rf' (e.2.getD j 0)) = (fun j => rf (e.2.getD j 0)) := by
          funext j
          apply h
          cases hx : e.2[j]? with
          | none => rw [List.getD_eq_getElem?_getD, hx]; exact Int.natCast_nonneg n
          | some x => rw [getD_of hx]; exact okT_ref (by omega) (ho.2.2 j x hx)
        rw [e0]
theorem wld_ext {rf rf' : Int → Option Nat} {cA : Nat → ClassId} {hp : Hp} (h : ∀ x : Int, x ≤ hp.length → rf' x = rf x) (hw : wfH hp) : wld rf' cA hp = wld rf cA hp := by
  unfold wld
  apply List.ext_getElem?
  intro a
  rw [List.getElem?_mapIdx, List.getElem?_mapIdx]
  cases he : hp[a]? with
  | none => rfl
  | some e =>
    have hl := (List.getElem?_eq_some_iff.mp he).1
    show some (adr rf' a, ent rf' cA e) = some (adr rf a, ent rf cA e)
    rw [ent_ext h (hw.at he)]
    unfold adr
    rw [h _ (by omega)]
theorem wld_app {rf : Int → Option Nat} {cA : Nat → ClassId} {hp : Hp} {e : Nat × List Int} : wld rf cA (hp ++ [e]) = wld rf cA hp ++ [(adr rf hp.length, ent rf cA e)] := by
  unfold wld
  rw [List.mapIdx_append]
  simp
/-- one more reference -/
def rfx (rf : Int → Option Nat) (n q : Nat) : Int → Option Nat := fun x => if x = (n : Int) + 1 then some q else rf x
theorem rfx_old {rf : Int → Option Nat} {n q : Nat} : ∀ x : Int, x ≤ n → rfx rf n q x = rf x := fun x h => by unfold rfx; rw [if_neg (by omega)]
theorem rfx_new {rf : Int → Option Nat} {n q : Nat} : adr (rfx rf n q) n = q := by unfold adr rfx; rw [if_pos rfl]; rfl
theorem Rf_x {base : Nat} {rf : Int → Option Nat} {n q : Nat} (h : Rf base rf n) : Rf base (rfx rf n q) (n + 1) := by
  intro x h0 hn
  by_cases hx : x = (n : Int) + 1
  · exact ⟨q, by unfold rfx; rw [if_pos hx]⟩
  · obtain ⟨q', hq⟩ := h x h0 (by omega)
    exact ⟨q', by unfold rfx; rw [if_neg hx]; exact hq⟩
theorem wld_x {rf : Int → Option Nat} {cA : Nat → ClassId} {hp : Hp} {e : Nat × List Int} {q : Nat} (hw : wfH hp) (he : ent (rfx rf hp.length q) cA e = ent rf cA e) : wld (rfx rf hp.length q) cA (hp ++ [e]) = wld rf cA hp ++ [(q, ent rf cA e)] := by
  rw [wld_app, wld_ext rfx_old hw, rfx_new, he]
theorem wfH_x {hp : Hp} {e : Nat × List Int} (hw : wfH hp) (he : okC (hp.length + 1) e) : wfH (hp ++ [e]) := by
  intro x hx
  rw [List.length_append, List.length_singleton]
  rcases List.mem_append.mp hx with h | h
  · exact (hw x h).mono (Nat.le_succ _)
  · rw [List.mem_singleton.mp h]
    exact he
theorem wfH_set {hp : Hp} {a : Nat} {e : Nat × List Int} (hw : wfH hp) (he : okC hp.length e) : wfH (hp.set a e) := by
  intro x hx
  rw [List.length_set]
  rcases List.mem_or_eq_of_mem_set hx with h | h
  · exact hw x h
  · rw [h]
    exact he
theorem okC_set {n : Nat} {k i : Nat} {l : List Int} {x : Int} (h : okC n (k, l)) (hx : okT n (kty k i) x) (hk : ∀ j, 14 ≤ k → kty k j = kty k i) : okC n (k, l.set i x) := by
  refine ⟨fun h1 => by simpa using h.1 h1, fun h1 => by simpa using h.2.1 h1, fun j y hy => ?_⟩
  dsimp only at hy ⊢
  rw [List.getElem?_set] at hy
  by_cases hj : i = j
  · subst hj
    rw [if_pos rfl] at hy
    split at hy
    · cases hy
      exact hx
    · cases hy
  · rw [if_neg hj] at hy
    exact h.2.2 j y hy
theorem kty_arr {k : Nat} (h : 14 ≤ k) (i j : Nat) : kty k j = kty k i := by
  have h0 : ¬ k < 14 := by omega
  unfold kty
  rw [if_neg h0, if_neg h0]
theorem rep_at {n : Nat} {i : Nat} {x : Int} (h : (List.replicate n (0 : Int))[i]? = some x) : x = 0 := by
  rw [List.getElem?_replicate] at h
  split at h
  · cases h; rfl
  · cases h
theorem rep_getD (n j : Nat) : (List.replicate n (0 : Int)).getD j 0 = 0 := by
  rw [List.getD_eq_getElem?_getD, List.getElem?_replicate]
  split <;> rfl
theorem okC_rep {n k N : Nat} (h1 : k < 14 → N = (knds.getD k []).length) (h2 : 14 ≤ k → 20 ≤ k ∧ k ≤ 29 ∧ N ≤ 200000) : okC n (k, List.replicate N 0) := by
  refine ⟨fun h => by simpa using h1 h, fun h => by simpa using h2 h, fun i x hx => ?_⟩
  rw [rep_at hx]
  exact okT_0 _ _ (kty_le _ _)
theorem ra_uniq {U : State} {c1 c2 : ClassId} {ty : FieldType} (h1 : va_RA U c1 ty) (h2 : va_RA U c2 ty) : c1 = c2 := by
  cases ty with
  | object C =>
    obtain ⟨_, _, -, -, -, e1⟩ := h1
    obtain ⟨_, _, -, -, -, e2⟩ := h2
    exact Option.some.inj (e1.symm.trans e2)
  | _ => exact Option.some.inj (Eq.trans (Eq.symm h1) h2)
theorem cA_uniq {D : va_G} {cA : Nat → ClassId} {s : State} {k : Nat} {c' : ClassId} (hK : va_K D vwCl (ktys cA) s) (h1 : 20 ≤ k) (h2 : k ≤ 29) (hK2 : va_K D vwCl (ktys cA ++ [(c', aty k)]) s) : c' = cA k := by
  have e1 := (hK.2 (k - 20) _ (ktys_at cA h1 h2)).2
  have e2 := (hK2.2 (ktys cA).length (c', aty k) (by rw [List.getElem?_append_right (Nat.le_refl _), Nat.sub_self]; rfl)).2
  exact ra_uniq e2 e1
end
section
/-! instructions that write the heap: the machine's step -/
def tyq (t : Nat) (ty : FieldType) : Bool := match ty with
  | .int => t == 0
  | .long => t == 1
  | .boolean => t == 4
  | .byte => t == 3
  | .object _ => t == 2
  | .array _ => t == 2
  | _ => false
set_option maxRecDepth 100000 in
theorem cl_ty : ∀ (k : Nat) (q : vw_C), vwCl[k]? = some q → (∃ ty0 : Nat → FieldType, ∀ j, j < q.2.2 → parseFieldDescriptor (q.2.1 j).2.2.1 = some (ty0 j) ∧ tyq (kty k j) (ty0 j) = true) ∧ (∀ a, a < q.2.2 → ∀ b, b < q.2.2 → a ≠ b → (q.2.1 a).2.1 ≠ (q.2.1 b).2.1) ∧ q.2.2 = (knds.getD k []).length := by
  have key : ∀ (ty0 : Nat → FieldType) (k n : Nat) (T : u_T), (∀ j, j < n → parseFieldDescriptor (T j).2.2.1 = some (ty0 j)) → (∀ j, j < n → tyq (kty k j) (ty0 j) = true) → ∃ ty0 : Nat → FieldType, ∀ j, j < n → parseFieldDescriptor (T j).2.2.1 = some (ty0 j) ∧ tyq (kty k j) (ty0 j) = true := fun ty0 k n T h1 h2 => ⟨ty0, fun j hj => ⟨h1 j hj, h2 j hj⟩⟩
  intro k q h
  have hk : k < 14 := (List.getElem?_eq_some_iff.mp h).1
  match k, h with
  | 0, h => cases h; exact ⟨key tyJx4a65c 0 3 TJx4a65c tyJx4a65c_ok (by decide +kernel), nmJx4a65c, by decide⟩
  | 1, h => cases h; exact ⟨key tyX0 1 6 TX0 tyX0_ok (by decide +kernel), nmX0, by decide⟩
  | 2, h => cases h; exact ⟨key tyX1 2 10 TX1 tyX1_ok (by decide +kernel), nmX1, by decide⟩
  | 3, h => cases h; exact ⟨key tyX2 3 10 TX2 tyX2_ok (by decide +kernel), nmX2, by decide⟩
  | 4, h => cases h; exact ⟨key tyX3 4 19 TX3 tyX3_ok (by decide +kernel), nmX3, by decide⟩
  | 5, h => cases h; exact ⟨key tyX4 5 4 TX4 tyX4_ok (by decide +kernel), nmX4, by decide⟩
  | 6, h => cases h; exact ⟨key tyX5 6 7 TX5 tyX5_ok (by decide +kernel), nmX5, by decide⟩
  | 7, h => cases h; exact ⟨key tyX6 7 9 TX6 tyX6_ok (by decide +kernel), nmX6, by decide⟩
  | 8, h => cases h; exact ⟨key tyX7 8 2 TX7 tyX7_ok (by decide +kernel), nmX7, by decide⟩
  | 9, h => cases h; exact ⟨key tyX8 9 6 TX8 tyX8_ok (by decide +kernel), nmX8, by decide⟩
  | 10, h => cases h; exact ⟨key tyX9 10 3 TX9 tyX9_ok (by decide +kernel), nmX9, by decide⟩
  | 11, h => cases h; exact ⟨key tyX10 11 17 TX10 tyX10_ok (by decide +kernel), nmX10, by decide⟩
  | 12, h => cases h; exact ⟨key tyX11 12 13 TX11 tyX11_ok (by decide +kernel), nmX11, by decide⟩
  | 13, h => cases h; exact ⟨key tyX12 13 97 TX12 tyX12_ok (by decide +kernel), nmX12, by decide⟩
  | k + 14, h => omega
theorem va_rf_fits (C : String) (r : Option Nat) : fits (.object C) (va_rf r) = true ∧ narrow (.object C) (va_rf r) = va_rf r := by cases r <;> exact ⟨rfl, rfl⟩
theorem va_rf_fitsA (C : FieldType) (r : Option Nat) : fits (.array C) (va_rf r) = true ∧ narrow (.array C) (va_rf r) = va_rf r := by cases r <;> exact ⟨rfl, rfl⟩
theorem keptF_v {t : Nat} {v : Vl} {x : Int} (h : keptF t v = some x) : v = (tg t, x) ∧ (t = 4 → x = 0 ∨ x = 1) ∧ t ≠ 3 := by
  unfold keptF at h
  by_cases h1 : v.1 = tg t
  · rw [if_pos h1] at h
    by_cases h4 : t = 4
    · rw [if_pos h4] at h
      by_cases h5 : v.2 = 0 ∨ v.2 = 1
      · rw [if_pos h5] at h
        have h := Option.some.inj h
        subst h
        exact ⟨Prod.ext h1 rfl, fun _ => h5, by omega⟩
      · rw [if_neg h5] at h
        cases h
    · rw [if_neg h4] at h
      by_cases h3 : t = 3
      · rw [if_pos h3] at h
        cases h
      · rw [if_neg h3] at h
        have h := Option.some.inj h
        subst h
        exact ⟨Prod.ext h1 rfl, fun q => absurd q h4, h3⟩
  · rw [if_neg h1] at h
    cases h
theorem fit_of {rf : Int → Option Nat} {t : Nat} {x : Int} {ty : FieldType} (h : tyq t ty = true) (h4 : t = 4 → x = 0 ∨ x = 1) (h3 : t ≠ 3) : narrow ty (toV rf (tg t, x)) = toV rf (tg t, x) ∧ fits ty (toV rf (tg t, x)) = true := by
  unfold tyq at h
  cases ty with
  | int => simp only [beq_iff_eq] at h; subst h; exact ⟨rfl, rfl⟩
  | long => simp only [beq_iff_eq] at h; subst h; exact ⟨rfl, rfl⟩
  | boolean =>
    simp only [beq_iff_eq] at h
    subst h
    rcases h4 rfl with rfl | rfl <;> exact ⟨rfl, rfl⟩
  | byte => simp only [beq_iff_eq] at h; exact absurd h h3
  | object C => simp only [beq_iff_eq] at h; subst h; exact ⟨(va_rf_fits C _).2, (va_rf_fits C _).1⟩
  | array C => simp only [beq_iff_eq] at h; subst h; exact ⟨(va_rf_fitsA C _).2, (va_rf_fitsA C _).1⟩
  | _ => simp at h
theorem okT_of {n t : Nat} {x : Int} (h : okV n (tg t, x)) (h4 : t = 4 → x = 0 ∨ x = 1) (h3 : t ≠ 3) (ht : t ≤ 4) : okT n t x := by
  unfold okT
  unfold okV at h
  dsimp only at h
  have e : t = 0 ∨ t = 1 ∨ t = 2 ∨ t = 4 := by omega
  rcases e with rfl | rfl | rfl | rfl
  · simp [tg] at h
    exact Or.inl ⟨rfl, h⟩
  · simp [tg] at h
    exact Or.inr (Or.inl ⟨rfl, h⟩)
  · simp [tg] at h
    exact Or.inr (Or.inr (Or.inl ⟨rfl, h⟩))
  · exact Or.inr (Or.inr (Or.inr (Or.inr ⟨rfl, h4 rfl⟩)))
noncomputable def dcG (own mn : String) (cc : ByteArray) (pc nx : Nat) (a b : Int) (g0 g1 g2 g3 : Nat) : Bool :=
  (decide (0 ≤ a ∧ a < 14 ∧ b.toNat < (clAt a).2.2) && (nx == pc + 3 && dq cc pc (.putfield g1) 3)) &&
  (if g2 = 0 then (((clAt a).2.1 b.toNat).2.2.2 == false) && wq g0 (.fieldLink own g1 ((clAt a).2.1 b.toNat).1 ((clAt a).2.1 b.toNat).2.1 ((clAt a).2.1 b.toNat).2.2.1)
   else if g2 = 1 then ((((clAt a).2.1 b.toNat).2.2.2 == true) && decide (((clAt a).2.1 b.toNat).1 = own ∧ mn = "<init>")) && wq g0 (.fieldLink own g1 ((clAt a).2.1 b.toNat).1 ((clAt a).2.1 b.toNat).2.1 ((clAt a).2.1 b.toNat).2.2.1)
   else (((clAt a).2.1 b.toNat).2.2.2 == false) && (wq g0 (.fieldLink own g1 RJx4a65c ((clAt a).2.1 b.toNat).2.1 ((clAt a).2.1 b.toNat).2.2.1) && wq g3 (.sameField RJx4a65c ((clAt a).2.1 b.toNat).1 ((clAt a).2.1 b.toNat).2.1 ((clAt a).2.1 b.toNat).2.2.1)))
section WR
variable {p : Program} {l : Launch} {e : Env} {R : Room} {s : State} {m : MethodId} {args : Array Value} {below : List Frame} {meth : Method} {c : Code} {H : Heap} {locs : List Loc} {cells slots : Nat} {Q : State → Prop}
variable {cc : ByteArray} {nL : Nat} {own mn : String} {base : Nat} {rf : Int → Option Nat} {sc : List Int} {st st' : List Vl} {arr : Array Slot} {D : va_G} {cA : Nat → ClassId} {hp : Hp}
theorem wr_put (X : Cx p s m args c cc nL own) (hmn : meth.name = mn) (hSS : va_S (A0 base) s.heap H locs) (hK : va_K D vwCl (ktys cA) s) (hP : va_P D vwCl (wld rf cA hp) H) (hD : va_D (A0 base) (wld rf cA hp)) (hw : wfH hp) (hR : Rf base rf hp.length)
    {pc nx g0 g1 g2 g3 kd : Nat} {a b r x : Int} {lc : List Int} {v : Vl} {rest : List Vl} (hd : dcG own mn cc pc nx a b g0 g1 g2 g3 = true) (hc : cel hp r = some (kd, lc)) (hk : (kd : Int) = a) (hbl : b.toNat < lc.length) (hkf : keptF (kty kd b.toNat) v = some x) (hv : okV hp.length v)
    (k : ∀ (H' : Heap) (locs' : List Loc), va_P D vwCl (wld rf cA (hp.set (r.toNat - 1) (kd, lc.set b.toNat x))) H' → va_D (A0 base) (wld rf cA (hp.set (r.toNat - 1) (kd, lc.set b.toNat x))) → va_S (A0 base) s.heap H' locs' → wfH (hp.set (r.toNat - 1) (kd, lc.set b.toNat x)) → W p l e R s m args below meth c H' locs' cells slots Q (F0 m nx arr (rest.map (toV rf)))) : W p l e R s m args below meth c H locs cells slots Q (F0 m pc arr (toV rf v :: toV rf (2, r) :: rest.map (toV rf))) := by
  obtain ⟨hx, hb, hml, hown, hts⟩ := X
  unfold dcG at hd
  rw [Bool.and_eq_true] at hd
  obtain ⟨hd, hl⟩ := hd
  simp only [Bool.and_eq_true, decide_eq_true_eq, beq_iff_eq] at hd
  obtain ⟨⟨ha0, ha14, hbN⟩, rfl, hdq⟩ := hd
  have hk14 : kd < 14 := by omega
  have hcl := clAt_of hk hk14
  obtain ⟨-, hat, -⟩ := cel_of hc
  have hwl := wld_at (rf := rf) (cA := cA) hat
  rw [ent_o (show ((kd, lc) : Nat × List Int).1 < 14 from hk14)] at hwl
  have hcw := cl_ws kd _ hcl
  obtain ⟨⟨ty0, hty⟩, hnm, hlen⟩ := cl_ty kd _ hcl
  obtain ⟨rfl, h4, h3⟩ := keptF_v hkf
  obtain ⟨hnr, hft⟩ := fit_of (rf := rf) (hty b.toNat hbN).2 h4 h3
  rw [ref_of hR hc]
  have hfl : b.toNat < (fv rf kd lc).length := by unfold fv; rw [List.length_mapIdx]; exact hbl
  have hset : (wld rf cA hp).set (r.toNat - 1) (adr rf (r.toNat - 1), .inr (kd, (fv rf kd lc).set b.toNat (toV rf (tg (kty kd b.toNat), x)))) = wld rf cA (hp.set (r.toNat - 1) (kd, lc.set b.toNat x)) := by
    rw [fv_set, ← wld_set, ent_o (show ((kd, lc.set b.toNat x) : Nat × List Int).1 < 14 from hk14)]
  have hwf : wfH (hp.set (r.toNat - 1) (kd, lc.set b.toNat x)) := wfH_set hw (okC_set (hw.at hat) (okT_of hv h4 h3 (kty_le _ _)) (fun j h => by omega))
  have fin : ∀ (H1 : Heap) (locs1 : List Loc), va_P D vwCl ((wld rf cA hp).set (r.toNat - 1) (adr rf (r.toNat - 1), .inr (kd, (fv rf kd lc).set b.toNat (toV rf (tg (kty kd b.toNat), x))))) H1 → va_D (A0 base) ((wld rf cA hp).set (r.toNat - 1) (adr rf (r.toNat - 1), .inr (kd, (fv rf kd lc).set b.toNat (toV rf (tg (kty kd b.toNat), x))))) → va_S (A0 base) s.heap H1 locs1 → W p l e R s m args below meth c H1 locs1 cells slots Q (F0 m (pc + 3) arr (rest.map (toV rf))) := by
    intro H1 locs1 h1 h2 h3
    rw [hset] at h1 h2
    exact k H1 locs1 h1 h2 h3 hwf
  by_cases hg : g2 = 0
  · rw [if_pos hg] at hl
    simp only [Bool.and_eq_true, beq_iff_eq] at hl
    exact va_put hx hb hts hcw ty0 (fun j hj => (hty j hj).1) hnm hown hK hP hD hSS (r.toNat - 1) hwl hcl b.toNat hbN (hts _ (wq_of hl.2)) (fun _ h => h) hl.1 (hty b.toNat hbN).1 hnr hft hfl (dq_of hdq) fin
  rw [if_neg hg] at hl
  by_cases hg1 : g2 = 1
  · rw [if_pos hg1] at hl
    simp only [Bool.and_eq_true, decide_eq_true_eq, beq_iff_eq] at hl
    exact va_putF hx hb hts hcw ty0 (fun j hj => (hty j hj).1) hnm hown hK hP hD hSS (r.toNat - 1) hwl hcl b.toNat hbN (hts _ (wq_of hl.2)) (fun _ h => h) hl.1.1 (by rw [hmn]; exact hl.1.2.2) hl.1.2.1 (hty b.toNat hbN).1 hnr hft hfl (dq_of hdq) fin
  rw [if_neg hg1] at hl
  simp only [Bool.and_eq_true, beq_iff_eq] at hl
  exact va_put hx hb hts hcw ty0 (fun j hj => (hty j hj).1) hnm hown hK hP hD hSS (r.toNat - 1) hwl hcl b.toNat hbN (hts _ (wq_of hl.2.1)) (fun x h => u_same (hts _ (wq_of hl.2.2)) x h) hl.1 (hty b.toNat hbN).1 hnr hft hfl (dq_of hdq) fin
end WR
end
section
/-! arrays are written: the machine's step -/
theorem updI {l : List Int} {i : Nat} (x : Int) (h : i < l.length) : upd (fun j => Int32.ofInt (l.getD j 0)) i (Int32.ofInt x) = fun j => Int32.ofInt ((l.set i x).getD j 0) := by
  funext j
  unfold upd
  rw [List.getD_eq_getElem?_getD, List.getElem?_set]
  by_cases e : j = i
  · subst e
    simp [h]
  · rw [if_neg e, if_neg (fun q => e q.symm), ← List.getD_eq_getElem?_getD]
theorem updJ {l : List Int} {i : Nat} (x : Int) (h : i < l.length) : vp_updL (fun j => Int64.ofInt (l.getD j 0)) i (Int64.ofInt x) = fun j => Int64.ofInt ((l.set i x).getD j 0) := by
  funext j
  unfold vp_updL
  rw [List.getD_eq_getElem?_getD, List.getElem?_set]
  by_cases e : j = i
  · subst e
    simp [h]
  · rw [if_neg e, if_neg (fun q => e q.symm), ← List.getD_eq_getElem?_getD]
theorem updR {rf : Int → Option Nat} {l : List Int} {i : Nat} (x : Int) (h : i < l.length) : va_up (fun j => rf (l.getD j 0)) i (rf x) = fun j => rf ((l.set i x).getD j 0) := by
  funext j
  unfold va_up
  rw [List.getD_eq_getElem?_getD, List.getElem?_set]
  by_cases e : j = i
  · subst e
    simp [h]
  · rw [if_neg e, if_neg (fun q => e q.symm), ← List.getD_eq_getElem?_getD]
theorem cl_cast : ∀ (k : Nat) (q : vw_C), vwCl[k]? = some q → Cond.castable q.1 "java/lang/Object" ∈ lw_use := by
  intro k q h
  have hk : k < 14 := (List.getElem?_eq_some_iff.mp h).1
  match k, h with
  | 0, h => cases h; exact wq_of (i := 2192) (by decide +kernel)
  | 1, h => cases h; exact wq_of (i := 2203) (by decide +kernel)
  | 2, h => cases h; exact wq_of (i := 2197) (by decide +kernel)
  | 3, h => cases h; exact wq_of (i := 2196) (by decide +kernel)
  | 4, h => cases h; exact wq_of (i := 2201) (by decide +kernel)
  | 5, h => cases h; exact wq_of (i := 2198) (by decide +kernel)
  | 6, h => cases h; exact wq_of (i := 2202) (by decide +kernel)
  | 7, h => cases h; exact wq_of (i := 2194) (by decide +kernel)
  | 8, h => cases h; exact wq_of (i := 2193) (by decide +kernel)
  | 9, h => cases h; exact wq_of (i := 2195) (by decide +kernel)
  | 10, h => cases h; exact wq_of (i := 2189) (by decide +kernel)
  | 11, h => cases h; exact wq_of (i := 2200) (by decide +kernel)
  | 12, h => cases h; exact wq_of (i := 2191) (by decide +kernel)
  | 13, h => cases h; exact wq_of (i := 2199) (by decide +kernel)
  | k + 14, h => omega
section AS
variable {p : Program} {l : Launch} {e : Env} {R : Room} {s : State} {m : MethodId} {args : Array Value} {below : List Frame} {meth : Method} {c : Code} {H : Heap} {locs : List Loc} {cells slots : Nat} {Q : State → Prop}
variable {cc : ByteArray} {nL : Nat} {own mn : String} {base : Nat} {rf : Int → Option Nat} {sc : List Int} {st st' : List Vl} {arr : Array Slot} {D : va_G} {cA : Nat → ClassId} {hp : Hp}
noncomputable def dcA (cc : ByteArray) (pc nx : Nat) (a : Int) : Bool :=
  if a = 20 then d1 cc pc nx .iastore else if a = 21 then d1 cc pc nx .bastore else if a = 23 then d1 cc pc nx .lastore else a == 24 && d1 cc pc nx .aastore
theorem wr_ast (X : Cx p s m args c cc nL own) (hS : Stt base rf sc s) (hSS : va_S (A0 base) s.heap H locs) (hK : va_K D vwCl (ktys cA) s) (hP : va_P D vwCl (wld rf cA hp) H) (hD : va_D (A0 base) (wld rf cA hp)) (hw : wfH hp) (hR : Rf base rf hp.length)
    {pc nx kd : Nat} {a r x i : Int} {lc : List Int} {v : Vl} {rest : List Vl} (hd : dcA cc pc nx a = true) (hc : cel hp r = some (kd, lc)) (hi0 : 0 ≤ i) (hil : i.toNat < lc.length) (hk : (kd : Int) = a ∨ (a = 21 ∧ kd = 22) ∨ (a = 24 ∧ 24 ≤ kd)) (hkf : kept hp kd v = some x) (hv : okV hp.length v) (hi32 : in32 i)
    (k : ∀ (H' : Heap) (locs' : List Loc), va_P D vwCl (wld rf cA (hp.set (r.toNat - 1) (kd, lc.set i.toNat x))) H' → va_D (A0 base) (wld rf cA (hp.set (r.toNat - 1) (kd, lc.set i.toNat x))) → va_S (A0 base) s.heap H' locs' → wfH (hp.set (r.toNat - 1) (kd, lc.set i.toNat x)) → W p l e R s m args below meth c H' locs' cells slots Q (F0 m nx arr (rest.map (toV rf)))) : W p l e R s m args below meth c H locs cells slots Q (F0 m pc arr (toV rf v :: toV rf (0, i) :: toV rf (2, r) :: rest.map (toV rf))) := by
  obtain ⟨hx, hb, hml, hown, hts⟩ := X
  obtain ⟨-, hat, -⟩ := cel_of hc
  have hwl := wld_at (rf := rf) (cA := cA) hat
  rw [ref_of hR hc, toV_i]
  have hcl : (Int32.ofInt i).toNatClampNeg = i.toNat := cl_of hi0 hi32
  have hin : vp_in (Int32.ofInt i) lc.length := vp_in_of' hi0 hi32 hil
  have hC := hw.at hat
  have hA14 : 14 ≤ kd → 20 ≤ kd ∧ kd ≤ 29 := fun h => ⟨(hC.2.1 h).1, (hC.2.1 h).2.1⟩
  have wfx : ∀ y : Int, okT hp.length (kty kd i.toNat) y → wfH (hp.set (r.toNat - 1) (kd, lc.set i.toNat y)) := fun y hy => wfH_set hw (okC_set hC hy (fun j h => kty_arr h _ _))
  unfold dcA at hd
  unfold kept at hkf
  by_cases a0 : a = 20
  · rw [if_pos a0] at hd
    obtain ⟨rfl, hdq⟩ := d1_of hd
    have hkd : kd = 20 := by omega
    subst hkd
    rw [if_pos rfl] at hkf
    by_cases h1 : v.1 = 0
    · rw [if_pos h1] at hkf
      obtain ⟨t, y⟩ := v
      dsimp only at h1 hkf
      subst h1
      have hkf := Option.some.inj hkf
      subst hkf
      rw [ent_i (by simp) (by simp)] at hwl
      refine va_iast hx hb hK hP hD hSS (r.toNat - 1) 0 hwl (ktys_at cA (Nat.le_refl 20) (by omega)) hin hdq (fun H1 locs1 h1 h2 h3 => ?_)
      have hset : (wld rf cA hp).set (r.toNat - 1) (adr rf (r.toNat - 1), .inl (cA 20, lc.length, .inl (upd (fun j => Int32.ofInt (lc.getD j 0)) (Int32.ofInt i).toNatClampNeg (Int32.ofInt y)))) = wld rf cA (hp.set (r.toNat - 1) (20, lc.set i.toNat y)) := by
        rw [← wld_set, ent_i (by simp) (by simp), hcl, updI y hil, List.length_set]
      rw [hset] at h1 h2
      exact k H1 locs1 h1 h2 h3 (wfx y (Or.inl ⟨rfl, hv.int⟩))
    · rw [if_neg h1] at hkf
      cases hkf
  rw [if_neg a0] at hd
  by_cases a1 : a = 21
  · rw [if_pos a1] at hd
    obtain ⟨rfl, hdq⟩ := d1_of hd
    have hkd : kd = 21 ∨ kd = 22 := by omega
    rcases hkd with rfl | rfl
    · rw [if_neg (by decide), if_pos rfl] at hkf
      by_cases h1 : v.1 = 0
      · rw [if_pos h1] at hkf
        obtain ⟨t, y⟩ := v
        dsimp only at h1 hkf
        subst h1
        have hkf := Option.some.inj hkf
        subst hkf
        rw [ent_i (by simp) (by simp)] at hwl
        refine va_bast hx hb hK hP hD hSS (r.toNat - 1) 1 hwl (ktys_at cA (k := 21) (by omega) (by omega)) hin hdq (fun H1 locs1 h1 h2 h3 => ?_)
        have hset : (wld rf cA hp).set (r.toNat - 1) (adr rf (r.toNat - 1), .inl (cA 21, lc.length, .inl (upd (fun j => Int32.ofInt (lc.getD j 0)) (Int32.ofInt i).toNatClampNeg (vp_nar .byte (Int32.ofInt y))))) = wld rf cA (hp.set (r.toNat - 1) (21, lc.set i.toNat (i_byt y))) := by
          rw [← wld_set, ent_i (by simp) (by simp), hcl, vp_nar_byte, n_i2b, updI _ hil, List.length_set]
        rw [hset] at h1 h2
        exact k H1 locs1 h1 h2 h3 (wfx _ (Or.inr (Or.inr (Or.inr (Or.inl ⟨rfl, by unfold i_byt; omega, by unfold i_byt; omega⟩)))))
      · rw [if_neg h1] at hkf
        cases hkf
    · rw [if_neg (by decide), if_neg (by decide), if_pos rfl] at hkf
      by_cases h1 : v.1 = 0 ∧ (v.2 = 0 ∨ v.2 = 1)
      · rw [if_pos h1] at hkf
        obtain ⟨t, y⟩ := v
        dsimp only at h1 hkf
        obtain ⟨h1, h01⟩ := h1
        subst h1
        have hkf := Option.some.inj hkf
        subst hkf
        rw [ent_i (by simp) (by simp)] at hwl
        refine va_zast hx hb hK hP hD hSS (r.toNat - 1) 2 hwl (ktys_at cA (k := 22) (by omega) (by omega)) hin hdq (fun H1 locs1 h1 h2 h3 => ?_)
        have hnz : vp_nar .boolean (Int32.ofInt y) = Int32.ofInt y := by rcases h01 with rfl | rfl <;> rfl
        have hset : (wld rf cA hp).set (r.toNat - 1) (adr rf (r.toNat - 1), .inl (cA 22, lc.length, .inl (upd (fun j => Int32.ofInt (lc.getD j 0)) (Int32.ofInt i).toNatClampNeg (vp_nar .boolean (Int32.ofInt y))))) = wld rf cA (hp.set (r.toNat - 1) (22, lc.set i.toNat y)) := by
          rw [← wld_set, ent_i (by simp) (by simp), hcl, hnz, updI _ hil, List.length_set]
        rw [hset] at h1 h2
        exact k H1 locs1 h1 h2 h3 (wfx _ (Or.inr (Or.inr (Or.inr (Or.inr ⟨rfl, h01⟩)))))
      · rw [if_neg h1] at hkf
        cases hkf
  rw [if_neg a1] at hd
  by_cases a3 : a = 23
  · rw [if_pos a3] at hd
    obtain ⟨rfl, hdq⟩ := d1_of hd
    have hkd : kd = 23 := by omega
    subst hkd
    rw [if_neg (by decide), if_neg (by decide), if_neg (by decide), if_pos rfl] at hkf
    by_cases h1 : v.1 = 1
    · rw [if_pos h1] at hkf
      obtain ⟨t, y⟩ := v
      dsimp only at h1 hkf
      subst h1
      have hkf := Option.some.inj hkf
      subst hkf
      rw [ent_l rfl] at hwl
      refine va_last hx hb hK hP hD hSS (r.toNat - 1) 3 hwl (ktys_at cA (k := 23) (by omega) (by omega)) hin hdq (fun H1 locs1 h1 h2 h3 => ?_)
      have hset : (wld rf cA hp).set (r.toNat - 1) (adr rf (r.toNat - 1), .inl (cA 23, lc.length, .inr (.inl (vp_updL (fun j => Int64.ofInt (lc.getD j 0)) (Int32.ofInt i).toNatClampNeg (Int64.ofInt y))))) = wld rf cA (hp.set (r.toNat - 1) (23, lc.set i.toNat y)) := by
        rw [← wld_set, ent_l rfl, hcl, updJ y hil, List.length_set]
      rw [hset] at h1 h2
      exact k H1 locs1 h1 h2 h3 (wfx y (Or.inr (Or.inl ⟨rfl, hv.long⟩)))
    · rw [if_neg h1] at hkf
      cases hkf
  rw [if_neg a3, Bool.and_eq_true, beq_iff_eq] at hd
  obtain ⟨rfl, hd⟩ := hd
  obtain ⟨rfl, hdq⟩ := d1_of hd
  have hkd : 24 ≤ kd := by omega
  rw [if_neg (by omega), if_neg (by omega), if_neg (by omega), if_neg (by omega)] at hkf
  rw [ent_r hkd] at hwl
  have fin : ∀ (y : Int) (H1 : Heap) (locs1 : List Loc), y ≤ hp.length → va_P D vwCl ((wld rf cA hp).set (r.toNat - 1) (adr rf (r.toNat - 1), .inl (cA kd, lc.length, .inr (.inr (.inr (.inr (va_up (fun j => rf (lc.getD j 0)) (Int32.ofInt i).toNatClampNeg (rf y)))))))) H1 → va_D (A0 base) ((wld rf cA hp).set (r.toNat - 1) (adr rf (r.toNat - 1), .inl (cA kd, lc.length, .inr (.inr (.inr (.inr (va_up (fun j => rf (lc.getD j 0)) (Int32.ofInt i).toNatClampNeg (rf y)))))))) → va_S (A0 base) s.heap H1 locs1 → x = y → W p l e R s m args below meth c H1 locs1 cells slots Q (F0 m (pc + 1) arr (rest.map (toV rf))) := by
    intro y H1 locs1 hy h1 h2 h3 hxy
    subst hxy
    have hset : (wld rf cA hp).set (r.toNat - 1) (adr rf (r.toNat - 1), .inl (cA kd, lc.length, .inr (.inr (.inr (.inr (va_up (fun j => rf (lc.getD j 0)) (Int32.ofInt i).toNatClampNeg (rf x))))))) = wld rf cA (hp.set (r.toNat - 1) (kd, lc.set i.toNat x)) := by
      rw [← wld_set, ent_r (show 24 ≤ ((kd, lc.set i.toNat x) : Nat × List Int).1 from hkd), hcl, updR x hil, List.length_set]
    rw [hset] at h1 h2
    have hty : kty kd i.toNat = 2 := by
      unfold kty
      rw [if_neg (by omega), if_neg (by omega), if_neg (by omega), if_neg (by omega), if_neg (by omega)]
    exact k H1 locs1 h1 h2 h3 (wfx x (by rw [hty]; exact Or.inr (Or.inr (Or.inl ⟨rfl, hy⟩))))
  by_cases k4 : kd = 24
  · subst k4
    rw [if_pos rfl] at hkf
    by_cases h1 : v.1 = 2
    · rw [if_pos h1] at hkf
      obtain ⟨t, y⟩ := v
      dsimp only at h1 hkf
      subst h1
      cases hcy : cel hp y with
      | none => rw [hcy] at hkf; cases hkf
      | some q =>
        obtain ⟨kq, lq⟩ := q
        rw [hcy] at hkf
        dsimp only at hkf
        by_cases hq : kq = 10
        · rw [if_pos hq] at hkf
          have hkf := Option.some.inj hkf
          subst hq
          obtain ⟨-, haty, hyn⟩ := cel_of hcy
          have hwy := wld_at (rf := rf) (cA := cA) haty
          rw [ent_o (by simp)] at hwy
          rw [ref_of hR hcy]
          refine va_astq hx hb hK hP hD hSS (r.toNat - 1) 4 (y.toNat - 1) 10 (r := (RX9, TX9, 3)) hwl (ktys_at cA (k := 24) (by omega) (by omega)) hwy rfl hin hdq (fun H1 locs1 h1 h2 h3 => fin y H1 locs1 hyn ?_ ?_ h3 hkf.symm)
          · rw [adr_of hR (cel_of hcy).1 hyn]; exact h1
          · rw [adr_of hR (cel_of hcy).1 hyn]; exact h2
        · rw [if_neg hq] at hkf
          cases hkf
    · rw [if_neg h1] at hkf
      cases hkf
  rw [if_neg k4] at hkf
  by_cases k5 : kd = 25
  · subst k5
    rw [if_pos rfl] at hkf
    by_cases h1 : v.1 = 2
    · rw [if_pos h1] at hkf
      obtain ⟨t, y⟩ := v
      dsimp only at h1 hkf
      subst h1
      by_cases hy0 : y = 0
      · rw [if_pos hy0] at hkf
        have hkf := Option.some.inj hkf
        have hr0 : rf 0 = none := hS.2.1
        rw [toV_r, hy0, hr0]
        refine va_astqN hx hb hK hP hD hSS (r.toNat - 1) 5 hwl (ktys_at cA (k := 25) (by omega) (by omega)) hin hdq (fun H1 locs1 h1 h2 h3 => fin 0 H1 locs1 (Int.natCast_nonneg _) ?_ ?_ h3 hkf.symm)
        · rw [hr0]; exact h1
        · rw [hr0]; exact h2
      · rw [if_neg hy0] at hkf
        cases hcy : cel hp y with
        | none => rw [hcy] at hkf; cases hkf
        | some q =>
          obtain ⟨kq, lq⟩ := q
          rw [hcy] at hkf
          dsimp only at hkf
          by_cases hq : kq < 14
          · rw [if_pos hq] at hkf
            have hkf := Option.some.inj hkf
            obtain ⟨-, haty, hyn⟩ := cel_of hcy
            have hwy := wld_at (rf := rf) (cA := cA) haty
            rw [ent_o (show ((kq, lq) : Nat × List Int).1 < 14 from hq)] at hwy
            have hclq := clAt_of (k := kq) rfl hq
            rw [ref_of hR hcy]
            refine va_astqO hx hb hK hP hD hSS (r.toNat - 1) 5 (y.toNat - 1) kq (E := "java/lang/Object") hwl (ktys_at cA (k := 25) (by omega) (by omega)) (va_Nw.of rfl (hts _ (cl_cast kq _ hclq))) hwy hclq hin hdq (fun H1 locs1 h1 h2 h3 => fin y H1 locs1 hyn ?_ ?_ h3 hkf.symm)
            · rw [adr_of hR (cel_of hcy).1 hyn]; exact h1
            · rw [adr_of hR (cel_of hcy).1 hyn]; exact h2
          · rw [if_neg hq] at hkf
            cases hkf
    · rw [if_neg h1] at hkf
      cases hkf
  rw [if_neg k5] at hkf
  by_cases k8 : kd = 28
  · subst k8
    rw [if_pos rfl] at hkf
    by_cases h1 : v.1 = 2 ∧ v.2 ≤ -10 ∧ -33 < v.2
    · rw [if_pos h1] at hkf
      obtain ⟨t, y⟩ := v
      dsimp only at h1 hkf
      obtain ⟨h1, hy1, hy2⟩ := h1
      subst h1
      have hkf := Option.some.inj hkf
      obtain ⟨-, -, -, -, adK, adV, hV, hk, -⟩ := hS
      obtain ⟨j, hj⟩ : ∃ j : Nat, y = -10 - (j : Int) := ⟨(-10 - y).toNat, by omega⟩
      have hj23 : j < 23 := by omega
      have e1 := (hk j hj23).1
      rw [← hj] at e1
      rw [toV_r, e1]
      obtain ⟨cell, g1, g2, g3⟩ := vk_recv hV hj23 hSS
      have hany : va_Any "java/lang/String" s H (adK j) := by
        obtain ⟨kC, hkC, -⟩ := Vm.findClass_spec g3
        refine ⟨cell, g1, g2, ⟨kC, hkC⟩, fun comp hcomp => ?_⟩
        cases hcomp.symm.trans g3
        exact va_asg _ _
      refine va_astqM hx hb hK hP hD hSS (r.toNat - 1) 8 hwl (ktys_at cA (k := 28) (by omega) (by omega)) hany hin hdq (fun H1 locs1 h1 h2 h3 => fin y H1 locs1 (by omega) ?_ ?_ h3 hkf.symm)
      · rw [e1]; exact h1
      · rw [e1]; exact h2
    · rw [if_neg h1] at hkf
      cases hkf
  rw [if_neg k8] at hkf
  cases hkf
end AS
end
section
/-! cells are made, copied: the machine's step -/
/-- how it goes on behind an instruction that may have made cells -/
def KW (p : Program) (l : Launch) (e : Env) (R : Room) (s : State) (m : MethodId) (args : Array Value) (below : List Frame) (meth : Method) (c : Code) (base : Nat) (D : va_G) (cA : Nat → ClassId) (rf : Int → Option Nat) (hp hp' : Hp) (cells slots : Nat) (Q : State → Prop) (nx : Nat) (arr : Array Slot) (st' : List Vl) : Prop :=
  ∀ (rf' : Int → Option Nat) (H' : Heap) (locs' : List Loc) (cells' slots' : Nat), (∀ x : Int, x ≤ hp.length → rf' x = rf x) → va_P D vwCl (wld rf' cA hp') H' → va_D (A0 base) (wld rf' cA hp') → va_S (A0 base) s.heap H' locs' → wfH hp' → Rf base rf' hp'.length → cells' = cells + (hp'.length - hp.length) → slots' = slots + (sz hp' - sz hp) → W p l e R s m args below meth c H' locs' cells' slots' Q (F0 m nx arr (st'.map (toV rf')))
noncomputable def dcN (own : String) (cc : ByteArray) (pc nx : Nat) (a b : Int) (g0 g1 g2 g3 : Nat) : Bool :=
  (decide (0 ≤ a ∧ a < 14 ∧ b.toNat = (clAt a).2.2) && (nx == pc + 3 && dq cc pc (.new g1) 3)) &&
  (wq g0 (.classLink own g1 (clAt a).1) && (wq g2 (.instantiable (clAt a).1 (clAt a).2.2) && wq g3 (.initialized (clAt a).1)))
def atq (a : Int) : ArrayType := if a = 20 then .int else if a = 21 then .byte else if a = 22 then .boolean else .long
noncomputable def dcM (cc : ByteArray) (pc nx : Nat) (a : Int) (g0 : Nat) : Bool :=
  decide (a = 20 ∨ a = 21 ∨ a = 22 ∨ a = 23) && ((nx == pc + 2 && dq cc pc (.newarray (atq a)) 2) && wq g0 (.arrayClass (newarray.typeOf (atq a))))
def anq (a : Int) : String := if a = 24 then "WheelLand$Sheet" else if a = 25 then "java/lang/Object" else "java/lang/String"
noncomputable def dcQ (own : String) (cc : ByteArray) (pc nx : Nat) (a : Int) (g0 g1 g2 : Nat) : Bool :=
  decide (a = 24 ∨ a = 25 ∨ a = 28) && ((nx == pc + 3 && dq cc pc (.anewarray g1) 3) && wq g0 (.classLink own g1 (anq a)) && wq g2 (.arrayOver (.object (anq a))))
theorem dfl_of {rf : Int → Option Nat} {t : Nat} {ty : FieldType} (h0 : rf 0 = none) (h : tyq t ty = true) : defaultValue ty = toV rf (tg t, 0) := by
  unfold tyq at h
  cases ty with
  | int => simp only [beq_iff_eq] at h; subst h; rfl
  | long => simp only [beq_iff_eq] at h; subst h; rfl
  | boolean => simp only [beq_iff_eq] at h; subst h; rfl
  | byte => simp only [beq_iff_eq] at h; subst h; rfl
  | object C =>
    simp only [beq_iff_eq] at h; subst h
    show Value.null = va_rf (rf 0)
    rw [h0]
    rfl
  | array C =>
    simp only [beq_iff_eq] at h; subst h
    show Value.null = va_rf (rf 0)
    rw [h0]
    rfl
  | _ => simp at h
section AL
variable {p : Program} {l : Launch} {e : Env} {R : Room} {s : State} {m : MethodId} {args : Array Value} {below : List Frame} {meth : Method} {c : Code} {H : Heap} {locs : List Loc} {cells slots : Nat} {Q : State → Prop}
variable {cc : ByteArray} {nL : Nat} {own mn : String} {base : Nat} {rf : Int → Option Nat} {sc : List Int} {st st' : List Vl} {arr : Array Slot} {D : va_G} {cA : Nat → ClassId} {hp : Hp}
theorem new_end1 {x : Nat × List Int} {q pc : Nat} {H1 : Heap} {rest : List Vl} (hw : wfH hp) (hR : Rf base rf hp.length) (hx : okC hp.length x) (hrest : okS hp.length rest)
    (h1 : va_P D vwCl (wld rf cA hp ++ [(q, ent rf cA x)]) H1) (h2 : va_D (A0 base) (wld rf cA hp ++ [(q, ent rf cA x)])) (h3 : va_S (A0 base) s.heap H1 locs)
    (k : KW p l e R s m args below meth c base D cA rf hp (hp ++ [x]) cells slots Q pc arr ((2, ((hp.length + 1 : Nat) : Int)) :: rest)) : W p l e R s m args below meth c H1 locs (cells + 1) (slots + x.2.length) Q (F0 m pc arr (.ref q :: rest.map (toV rf))) := by
  have he : ent (rfx rf hp.length q) cA x = ent rf cA x := ent_ext rfx_old hx
  rw [← wld_x hw he] at h1 h2
  have hlen : (hp ++ [x]).length = hp.length + 1 := by simp
  have hsz : sz (hp ++ [x]) = sz hp + x.2.length := by rw [sz_app]; simp [sz]
  have k2 := k (rfx rf hp.length q) H1 locs (cells + 1) (slots + x.2.length) rfx_old h1 h2 h3 (wfH_x hw (hx.mono (Nat.le_succ _))) (by rw [hlen]; exact Rf_x hR) (by rw [hlen]; omega) (by rw [hsz]; omega)
  have e1 : toV (rfx rf hp.length q) (2, ((hp.length + 1 : Nat) : Int)) = .ref q := by
    show va_rf (rfx rf hp.length q ((hp.length + 1 : Nat) : Int)) = _
    unfold rfx
    rw [if_pos (by omega)]
    rfl
  rw [List.map_cons, e1, toVs_ext rfx_old hrest] at k2
  exact k2
theorem wr_new (X : Cx p s m args c cc nL own) (h0 : rf 0 = none) (hbs : base ≤ s.heap.size) (hSS : va_S (A0 base) s.heap H locs) (hK : va_K D vwCl (ktys cA) s) (hP : va_P D vwCl (wld rf cA hp) H) (hD : va_D (A0 base) (wld rf cA hp)) (hw : wfH hp) (hR : Rf base rf hp.length)
    {pc nx g0 g1 g2 g3 : Nat} {a b : Int} {rest : List Vl} (hd : dcN own cc pc nx a b g0 g1 g2 g3 = true) (hrest : okS hp.length rest) (hcells : cells + 1 ≤ R.cells) (hslots : slots + b.toNat ≤ R.slots)
    (k : KW p l e R s m args below meth c base D cA rf hp (hp ++ [(a.toNat, List.replicate b.toNat 0)]) cells slots Q nx arr ((2, ((hp.length + 1 : Nat) : Int)) :: rest)) : W p l e R s m args below meth c H locs cells slots Q (F0 m pc arr (rest.map (toV rf))) := by
  obtain ⟨hx, hb, hml, hown, hts⟩ := X
  unfold dcN at hd
  simp only [Bool.and_eq_true, decide_eq_true_eq, beq_iff_eq] at hd
  obtain ⟨⟨⟨ha0, ha14, hbN⟩, rfl, hdq⟩, hl1, hl2, hl3⟩ := hd
  have hk14 : a.toNat < 14 := by omega
  have hcl := clAt_of (k := a.toNat) (a := a) (by omega) hk14
  obtain ⟨⟨ty0, hty⟩, hnm, hlen⟩ := cl_ty a.toNat _ hcl
  have hok : okC hp.length (a.toNat, List.replicate b.toNat 0) := okC_rep (fun _ => by rw [hbN]; exact hlen) (fun h => by omega)
  have hent : ent rf cA (a.toNat, List.replicate b.toNat 0) = .inr (a.toNat, fv rf a.toNat (List.replicate b.toNat 0)) := ent_o hk14
  refine va_new hx hb hts (cl_ws a.toNat _ hcl) ty0 (fun j hj => (hty j hj).1) hown (hts _ (wq_of hl1)) (hts _ (wq_of hl2)) (hts _ (wq_of hl3)) hK hP hD hSS (fun q hq => Nat.le_trans hbs hq) hcl (fs := fv rf a.toNat (List.replicate b.toNat 0)) (fun j hj => ?_) hcells (by rw [← hbN]; exact hslots) (dq_of hdq) (fun q H1 h1 h2 h3 => ?_)
  · rw [dfl_of h0 (hty j hj).2]
    unfold vp_V
    rw [List.getD_eq_getElem?_getD, fv_at (x := 0) (by rw [List.getElem?_replicate, if_pos (by rw [hbN]; exact hj)])]
    rfl
  · rw [← hent] at h1 h2
    have := new_end1 hw hR hok hrest h1 h2 h3 k
    rw [List.length_replicate, hbN] at this
    exact this
theorem wr_newa (X : Cx p s m args c cc nL own) (hbs : base ≤ s.heap.size) (hSS : va_S (A0 base) s.heap H locs) (hK : va_K D vwCl (ktys cA) s) (hP : va_P D vwCl (wld rf cA hp) H) (hD : va_D (A0 base) (wld rf cA hp)) (hw : wfH hp) (hR : Rf base rf hp.length)
    {pc nx g0 : Nat} {a n : Int} {rest : List Vl} (hd : dcM cc pc nx a g0 = true) (hn0 : 0 ≤ n) (hn : n ≤ 100000) (hrest : okS hp.length rest) (hcells : cells + 1 ≤ R.cells) (hslots : slots + n.toNat ≤ R.slots)
    (k : KW p l e R s m args below meth c base D cA rf hp (hp ++ [(a.toNat, List.replicate n.toNat 0)]) cells slots Q nx arr ((2, ((hp.length + 1 : Nat) : Int)) :: rest)) : W p l e R s m args below meth c H locs cells slots Q (F0 m pc arr (toV rf (0, n) :: rest.map (toV rf))) := by
  obtain ⟨hx, hb, hml, hown, hts⟩ := X
  unfold dcM at hd
  simp only [Bool.and_eq_true, decide_eq_true_eq, beq_iff_eq] at hd
  obtain ⟨ha, ⟨rfl, hdq⟩, hl⟩ := hd
  have hn32 : in32 n := by unfold in32; omega
  have hnn : ¬ Int32.ofInt n < 0 := by
    show ¬ Int32.ofInt n < Int32.ofInt 0
    rw [n_lt hn32 (by unfold in32; omega)]
    omega
  have hcl : (Int32.ofInt n).toNatClampNeg = n.toNat := cl_of hn0 hn32
  have hok : okC hp.length (a.toNat, List.replicate n.toNat 0) := okC_rep (fun h => by omega) (fun h => by omega)
  rw [toV_i]
  have fz : (fun j => Int32.ofInt ((List.replicate n.toNat (0 : Int)).getD j 0)) = fun _ => 0 := by funext j; rw [rep_getD]; rfl
  have fzl : (fun j => Int64.ofInt ((List.replicate n.toNat (0 : Int)).getD j 0)) = fun _ => 0 := by funext j; rw [rep_getD]; rfl
  have fin : ∀ (x : vp_A) (q : Nat) (c' : ClassId) (H1 : Heap), ent rf cA (a.toNat, List.replicate n.toNat 0) = .inl (cA a.toNat, x) → va_K D vwCl (ktys cA ++ [(c', aty a.toNat)]) s → va_P D vwCl (wld rf cA hp ++ [(q, .inl (c', x))]) H1 → va_D (A0 base) (wld rf cA hp ++ [(q, .inl (c', x))]) → va_S (A0 base) s.heap H1 locs → W p l e R s m args below meth c H1 locs (cells + 1) (slots + n.toNat) Q (F0 m (pc + 2) arr (.ref q :: rest.map (toV rf))) := by
    intro x q c' H1 hx2 hK2 h1 h2 h3
    rw [cA_uniq hK (by omega) (by omega) hK2] at h1 h2
    rw [← hx2] at h1 h2
    have := new_end1 hw hR hok hrest h1 h2 h3 k
    rw [List.length_replicate] at this
    exact this
  have hA : ∀ q, s.heap.size ≤ q → A0 base q := fun q hq => Nat.le_trans hbs hq
  rcases ha with rfl | rfl | rfl | rfl
  · refine va_newa (atype := .int) hx hb (hts _ (wq_of hl)) rfl hK hP hD hSS hA (a0 := (n.toNat, .inl (fun _ => 0))) (fun _ => rfl) hnn hcl (by show n.toNat * 4 ≤ _; omega) hcells hslots (dq_of hdq) (fun q c' H1 h0 h1 h2 h3 => fin _ q c' H1 ?_ h0 h1 h2 h3)
    rw [ent_i (by simp) (by simp), List.length_replicate, fz]
  · refine va_newa (atype := .byte) hx hb (hts _ (wq_of hl)) rfl hK hP hD hSS hA (a0 := (n.toNat, .inl (fun _ => 0))) (fun _ => rfl) hnn hcl (by show n.toNat * 1 ≤ _; omega) hcells hslots (dq_of hdq) (fun q c' H1 h0 h1 h2 h3 => fin _ q c' H1 ?_ h0 h1 h2 h3)
    rw [ent_i (by simp) (by simp), List.length_replicate, fz]
  · refine va_newa (atype := .boolean) hx hb (hts _ (wq_of hl)) rfl hK hP hD hSS hA (a0 := (n.toNat, .inl (fun _ => 0))) (fun _ => rfl) hnn hcl (by show n.toNat * 1 ≤ _; omega) hcells hslots (dq_of hdq) (fun q c' H1 h0 h1 h2 h3 => fin _ q c' H1 ?_ h0 h1 h2 h3)
    rw [ent_i (by simp) (by simp), List.length_replicate, fz]
  · refine va_newa (atype := .long) hx hb (hts _ (wq_of hl)) rfl hK hP hD hSS hA (a0 := (n.toNat, .inr (.inl (fun _ => 0)))) (fun _ => rfl) hnn hcl (by show n.toNat * 8 ≤ _; omega) hcells hslots (dq_of hdq) (fun q c' H1 h0 h1 h2 h3 => fin _ q c' H1 ?_ h0 h1 h2 h3)
    rw [ent_l rfl, List.length_replicate, fzl]
theorem wr_newq (X : Cx p s m args c cc nL own) (h0 : rf 0 = none) (hbs : base ≤ s.heap.size) (hSS : va_S (A0 base) s.heap H locs) (hK : va_K D vwCl (ktys cA) s) (hP : va_P D vwCl (wld rf cA hp) H) (hD : va_D (A0 base) (wld rf cA hp)) (hw : wfH hp) (hR : Rf base rf hp.length)
    {pc nx g0 g1 g2 : Nat} {a n : Int} {rest : List Vl} (hd : dcQ own cc pc nx a g0 g1 g2 = true) (hn0 : 0 ≤ n) (hn : n ≤ 100000) (hrest : okS hp.length rest) (hcells : cells + 1 ≤ R.cells) (hslots : slots + n.toNat ≤ R.slots)
    (k : KW p l e R s m args below meth c base D cA rf hp (hp ++ [(a.toNat, List.replicate n.toNat 0)]) cells slots Q nx arr ((2, ((hp.length + 1 : Nat) : Int)) :: rest)) : W p l e R s m args below meth c H locs cells slots Q (F0 m pc arr (toV rf (0, n) :: rest.map (toV rf))) := by
  obtain ⟨hx, hb, hml, hown, hts⟩ := X
  unfold dcQ at hd
  simp only [Bool.and_eq_true, decide_eq_true_eq, beq_iff_eq, Bool.or_eq_true] at hd
  obtain ⟨ha, ⟨⟨rfl, hdq⟩, hl⟩, ho⟩ := hd
  have hn32 : in32 n := by unfold in32; omega
  have hnn : ¬ Int32.ofInt n < 0 := by
    show ¬ Int32.ofInt n < Int32.ofInt 0
    rw [n_lt hn32 (by unfold in32; omega)]
    omega
  have hcl : (Int32.ofInt n).toNatClampNeg = n.toNat := cl_of hn0 hn32
  have hok : okC hp.length (a.toNat, List.replicate n.toNat 0) := okC_rep (fun h => by omega) (fun h => by omega)
  rw [toV_i]
  have fz : (fun j => rf ((List.replicate n.toNat (0 : Int)).getD j 0)) = fun _ => none := by funext j; rw [rep_getD]; exact h0
  have haty : aty a.toNat = .object (anq a) := by rcases ha with rfl | rfl | rfl <;> rfl
  have hA : ∀ q, s.heap.size ≤ q → A0 base q := fun q hq => Nat.le_trans hbs hq
  have hlk : (Cond.classLink own g1 (anq a)).before args s = true := hts _ (wq_of hl)
  refine va_newq hx hb hown hlk (va_AO.of (hts _ (wq_of ho))) hK hP hD hSS hA hnn hcl (by omega) hcells hslots (dq_of hdq) (fun q c' H1 hk2 h1 h2 h3 => ?_)
  rw [← haty] at hk2
  rw [cA_uniq hK (by omega) (by omega) hk2] at h1 h2
  have he : ent rf cA (a.toNat, List.replicate n.toNat 0) = .inl (cA a.toNat, n.toNat, .inr (.inr (.inr (.inr (fun _ => none))))) := by
    rw [ent_r (show 24 ≤ a.toNat by omega), List.length_replicate, fz]
  rw [← he] at h1 h2
  have := new_end1 hw hR hok hrest h1 h2 h3 k
  rw [List.length_replicate] at this
  exact this
theorem cpyL_len {f g : List Int} {sp dp n : Nat} (h1 : sp + n ≤ f.length) (h2 : dp + n ≤ g.length) : (cpyL f g sp dp n).length = g.length := by
  unfold cpyL
  simp only [List.length_append, List.length_take, List.length_drop]
  omega
theorem cpyL_at {f g : List Int} {sp dp n : Nat} (h1 : sp + n ≤ f.length) (h2 : dp + n ≤ g.length) (j : Nat) : (cpyL f g sp dp n)[j]? = if dp ≤ j ∧ j < dp + n then f[sp + (j - dp)]? else g[j]? := by
  unfold cpyL
  by_cases hj : j < dp
  · rw [List.getElem?_append_left (by rw [List.length_take]; omega), List.getElem?_take, if_pos hj, if_neg (by omega)]
  · rw [List.getElem?_append_right (by rw [List.length_take]; omega), List.length_take, show min dp g.length = dp by omega]
    by_cases hj2 : j < dp + n
    · rw [List.getElem?_append_left (by rw [List.length_take, List.length_drop]; omega), List.getElem?_take, if_pos (by omega), List.getElem?_drop, if_pos (by omega)]
    · rw [List.getElem?_append_right (by rw [List.length_take, List.length_drop]; omega), List.length_take, List.length_drop, List.getElem?_drop, if_neg (by omega)]
      congr 1
      omega
noncomputable def dcY (own : String) (cc : ByteArray) (pc nx : Nat) (g0 g1 g2 g3 g4 : Nat) : Bool :=
  (nx == pc + 3 && dq cc pc (.invokestatic g1) 3) && (wq g0 (.methodLink own g1 arraycopyName) && (wq g2 (.native arraycopyName) && (wq g3 (.static arraycopyName) && wq g4 (.initialized "java/lang/System"))))
theorem wr_copy (X : Cx p s m args c cc nL own) (hSS : va_S (A0 base) s.heap H locs) (hK : va_K D vwCl (ktys cA) s) (hP : va_P D vwCl (wld rf cA hp) H) (hD : va_D (A0 base) (wld rf cA hp)) (hw : wfH hp) (hR : Rf base rf hp.length) (harr : arr.size = nL) (hfr : 1 ≤ R.frames) (hlo : 64 ≤ R.locals)
    {pc nx g0 g1 g2 g3 g4 : Nat} {sp dp n rs rd : Int} {lsrc ld : List Int} {rest : List Vl} (hd : dcY own cc pc nx g0 g1 g2 g3 g4 = true) (hcs : cel hp rs = some (20, lsrc)) (hcd : cel hp rd = some (20, ld)) (hn0 : 0 ≤ n) (hd0 : 0 ≤ dp) (hs0 : 0 ≤ sp) (h4 : sp + n ≤ lsrc.length) (h5 : dp + n ≤ ld.length) (hwd : wds rest ≤ 8)
    (hi1 : in32 sp) (hi2 : in32 dp) (hi3 : in32 n)
    (k : ∀ (H' : Heap) (locs' : List Loc), va_P D vwCl (wld rf cA (hp.set (rd.toNat - 1) (20, cpyL lsrc ld sp.toNat dp.toNat n.toNat))) H' → va_D (A0 base) (wld rf cA (hp.set (rd.toNat - 1) (20, cpyL lsrc ld sp.toNat dp.toNat n.toNat))) → va_S (A0 base) s.heap H' locs' → wfH (hp.set (rd.toNat - 1) (20, cpyL lsrc ld sp.toNat dp.toNat n.toNat)) → W p l e R s m args below meth c H' locs' cells slots Q (F0 m nx arr (rest.map (toV rf)))) : W p l e R s m args below meth c H locs cells slots Q (F0 m pc arr (toV rf (0, n) :: toV rf (0, dp) :: toV rf (2, rd) :: toV rf (0, sp) :: toV rf (2, rs) :: rest.map (toV rf))) := by
  obtain ⟨hx, hb, hml, hown, hts⟩ := X
  unfold dcY at hd
  simp only [Bool.and_eq_true, beq_iff_eq] at hd
  obtain ⟨⟨rfl, hdq⟩, hl1, hl2, hl3, hl4⟩ := hd
  obtain ⟨-, hats, -⟩ := cel_of hcs
  obtain ⟨-, hatd, -⟩ := cel_of hcd
  have hws := wld_at (rf := rf) (cA := cA) hats
  have hwd2 := wld_at (rf := rf) (cA := cA) hatd
  rw [ent_i (by simp) (by simp)] at hws hwd2
  rw [ref_of hR hcs, ref_of hR hcd, toV_i, toV_i, toV_i]
  have nn : ∀ z : Int, 0 ≤ z → in32 z → ¬ Int32.ofInt z < 0 := by
    intro z hz hz2
    show ¬ Int32.ofInt z < Int32.ofInt 0
    rw [n_lt hz2 (by unfold in32; omega)]
    omega
  have c1 := cl_of hs0 hi1
  have c2 := cl_of hd0 hi2
  have c3 := cl_of hn0 hi3
  have hcat : ((rest.map (toV rf)).map fun v => v.category).sum = wds rest := by
    unfold wds
    rw [List.map_map]
    congr 1
    apply List.map_congr_left
    intro v _
    exact toV_cat rf v
  have hCs := hw.at hats
  have hCd := hw.at hatd
  refine va_copyi hx hb (by rw [hml]; exact harr.symm) hown (hts _ (wq_of hl1)) (hts _ (wq_of hl2)) (hts _ (wq_of hl3)) (hts _ (wq_of hl4)) hK hP hD hSS (rs.toNat - 1) (rd.toNat - 1) 0 0 hws hwd2 (ktys_at cA (Nat.le_refl 20) (by omega)) (ktys_at cA (Nat.le_refl 20) (by omega)) rfl (nn _ hs0 hi1) (nn _ hd0 hi2) (nn _ hn0 hi3) (by rw [c1, c3]; dsimp only; omega) (by rw [c2, c3]; dsimp only; omega) (fun _ _ => rfl) hfr ?_ (dq_of hdq) (fun H1 locs1 h1 h2 h3 => ?_)
  · rw [hcat]
    have : nativeFrameWords "java/lang/System" "arraycopy" 5 + 11 ≤ 40 := by decide
    omega
  · rw [c1, c2, c3] at h1 h2
    have hl : (cpyL lsrc ld sp.toNat dp.toNat n.toNat).length = ld.length := cpyL_len (by omega) (by omega)
    have hf : va_cpy (fun j => Int32.ofInt (lsrc.getD j 0)) (fun j => Int32.ofInt (ld.getD j 0)) sp.toNat dp.toNat n.toNat = fun j => Int32.ofInt ((cpyL lsrc ld sp.toNat dp.toNat n.toNat).getD j 0) := by
      funext j
      unfold va_cpy
      rw [List.getD_eq_getElem?_getD (l := cpyL _ _ _ _ _), cpyL_at (by omega) (by omega)]
      by_cases hj : dp.toNat ≤ j ∧ j < dp.toNat + n.toNat
      · rw [if_pos hj, if_pos hj, ← List.getD_eq_getElem?_getD]
      · rw [if_neg hj, if_neg hj, ← List.getD_eq_getElem?_getD]
    have hset : (wld rf cA hp).set (rd.toNat - 1) (adr rf (rd.toNat - 1), .inl (cA 20, ld.length, .inl (va_cpy (fun j => Int32.ofInt (lsrc.getD j 0)) (fun j => Int32.ofInt (ld.getD j 0)) sp.toNat dp.toNat n.toNat))) = wld rf cA (hp.set (rd.toNat - 1) (20, cpyL lsrc ld sp.toNat dp.toNat n.toNat)) := by
      rw [← wld_set, ent_i (by simp) (by simp), hl, hf]
    rw [hset] at h1 h2
    refine k H1 locs1 h1 h2 h3 (wfH_set hw ⟨fun h => by simp at h, fun h => ⟨by simp, by simp, by rw [hl]; exact (hCd.2.1 h).2.2⟩, fun j y hy => ?_⟩)
    dsimp only at hy ⊢
    rw [cpyL_at (by omega) (by omega)] at hy
    split at hy
    · have := hCs.2.2 _ y hy
      exact this
    · exact hCd.2.2 j y hy
theorem xl_cast {args : Array Value} {s : State} {C E : String} (h : (Cond.castable C E).before args s = true) {comp c0 : ClassId} (hcomp : s.vm.findClass E = some comp) (hc0 : s.vm.findClass C = some c0) : s.vm.assignable c0 comp = true := by
  obtain ⟨c1, t1, f1, f2, f3⟩ := Cond.castable_spec h
  rw [hc0] at f1
  cases f1
  rw [hcomp] at f2
  cases f2
  exact f3
theorem oneK_of {hp : Hp} {l : List Int} {sp n : Nat} (h : oneK hp l sp n = true) : ∃ k, k < 14 ∧ ∀ i, i < n → l.getD (sp + i) 0 = 0 ∨ ∃ lx, cel hp (l.getD (sp + i) 0) = some (k, lx) := by
  unfold oneK at h
  rw [List.any_eq_true] at h
  obtain ⟨k, hk, h⟩ := h
  refine ⟨k, List.mem_range.mp hk, fun i hi => ?_⟩
  rw [List.all_eq_true] at h
  have h := h i (List.mem_range.mpr hi)
  rw [Bool.or_eq_true, beq_iff_eq] at h
  rcases h with h | h
  · exact Or.inl h
  · right
    cases hc : cel hp (l.getD (sp + i) 0) with
    | none => rw [hc] at h; cases h
    | some e =>
      obtain ⟨kd, lx⟩ := e
      rw [hc] at h
      dsimp only at h
      rw [beq_iff_eq] at h
      subst h
      exact ⟨lx, rfl⟩
theorem wr_copyq (X : Cx p s m args c cc nL own) (h0 : rf 0 = none) (hSS : va_S (A0 base) s.heap H locs) (hK : va_K D vwCl (ktys cA) s) (hP : va_P D vwCl (wld rf cA hp) H) (hD : va_D (A0 base) (wld rf cA hp)) (hw : wfH hp) (hR : Rf base rf hp.length) (harr : arr.size = nL) (hfr : 1 ≤ R.frames) (hlo : 64 ≤ R.locals)
    {pc nx g0 g1 g2 g3 g4 : Nat} {sp dp n rs rd : Int} {lsrc ld : List Int} {rest : List Vl} (hd : dcY own cc pc nx g0 g1 g2 g3 g4 = true) (hcs : cel hp rs = some (25, lsrc)) (hcd : cel hp rd = some (25, ld)) (h1k : oneK hp lsrc sp.toNat n.toNat = true) (hn0 : 0 ≤ n) (hd0 : 0 ≤ dp) (hs0 : 0 ≤ sp) (h4 : sp + n ≤ lsrc.length) (h5 : dp + n ≤ ld.length) (hwd : wds rest ≤ 8)
    (hi1 : in32 sp) (hi2 : in32 dp) (hi3 : in32 n)
    (k : ∀ (H' : Heap) (locs' : List Loc), va_P D vwCl (wld rf cA (hp.set (rd.toNat - 1) (25, cpyL lsrc ld sp.toNat dp.toNat n.toNat))) H' → va_D (A0 base) (wld rf cA (hp.set (rd.toNat - 1) (25, cpyL lsrc ld sp.toNat dp.toNat n.toNat))) → va_S (A0 base) s.heap H' locs' → wfH (hp.set (rd.toNat - 1) (25, cpyL lsrc ld sp.toNat dp.toNat n.toNat)) → W p l e R s m args below meth c H' locs' cells slots Q (F0 m nx arr (rest.map (toV rf)))) : W p l e R s m args below meth c H locs cells slots Q (F0 m pc arr (toV rf (0, n) :: toV rf (0, dp) :: toV rf (2, rd) :: toV rf (0, sp) :: toV rf (2, rs) :: rest.map (toV rf))) := by
  obtain ⟨hx, hb, hml, hown, hts⟩ := X
  unfold dcY at hd
  simp only [Bool.and_eq_true, beq_iff_eq] at hd
  obtain ⟨⟨rfl, hdq⟩, hl1, hl2, hl3, hl4⟩ := hd
  obtain ⟨-, hats, -⟩ := cel_of hcs
  obtain ⟨-, hatd, -⟩ := cel_of hcd
  have hws := wld_at (rf := rf) (cA := cA) hats
  have hwd2 := wld_at (rf := rf) (cA := cA) hatd
  rw [ent_r (by simp)] at hws hwd2
  rw [ref_of hR hcs, ref_of hR hcd, toV_i, toV_i, toV_i]
  have nn : ∀ z : Int, 0 ≤ z → in32 z → ¬ Int32.ofInt z < 0 := by
    intro z hz hz2
    show ¬ Int32.ofInt z < Int32.ofInt 0
    rw [n_lt hz2 (by unfold in32; omega)]
    omega
  have c1 := cl_of hs0 hi1
  have c2 := cl_of hd0 hi2
  have c3 := cl_of hn0 hi3
  have hcat : ((rest.map (toV rf)).map fun v => v.category).sum = wds rest := by
    unfold wds
    rw [List.map_map]
    congr 1
    apply List.map_congr_left
    intro v _
    exact toV_cat rf v
  have hCs := hw.at hats
  have hCd := hw.at hatd
  obtain ⟨kk, hkk, hone⟩ := oneK_of h1k
  have hclk := clAt_of (k := kk) rfl hkk
  refine va_copyq (C := (clAt (kk : Int)).1) hx hb (by rw [hml]; exact harr.symm) hown (hts _ (wq_of hl1)) (hts _ (wq_of hl2)) (hts _ (wq_of hl3)) (hts _ (wq_of hl4)) hK hP hD hSS (rs.toNat - 1) (rd.toNat - 1) 5 5 hws hwd2 (ktys_at cA (k := 25) (by omega) (by omega)) (ktys_at cA (k := 25) (by omega) (by omega)) (nn _ hs0 hi1) (nn _ hd0 hi2) (nn _ hn0 hi3) (by rw [c1, c3]; dsimp only; omega) (by rw [c2, c3]; dsimp only; omega) ?_ ?_ hfr ?_ (dq_of hdq) (fun H1 locs1 h1 h2 h3 => ?_)
  · intro i hi y hy
    rw [c3] at hi
    rw [c1] at hy
    rcases hone i hi with e0 | ⟨lx, hlx⟩
    · dsimp only at hy
      rw [e0, h0] at hy
      cases hy
    · dsimp only at hy
      rw [adr_of hR (cel_of hlx).1 (cel_of hlx).2.2] at hy
      have hy := Option.some.inj hy
      subst hy
      have hwx := wld_at (rf := rf) (cA := cA) (cel_of hlx).2.1
      rw [ent_o (show ((kk, lx) : Nat × List Int).1 < 14 from hkk)] at hwx
      exact va_recv hK hP hclk hwx
  · intro comp c0 hcomp hc0
    exact xl_cast (hts _ (cl_cast kk _ hclk)) hcomp hc0
  · rw [hcat]
    have : nativeFrameWords "java/lang/System" "arraycopy" 5 + 11 ≤ 40 := by decide
    omega
  · rw [c1, c2, c3] at h1 h2
    have hl : (cpyL lsrc ld sp.toNat dp.toNat n.toNat).length = ld.length := cpyL_len (by omega) (by omega)
    have hf : va_cpy (fun j => rf (lsrc.getD j 0)) (fun j => rf (ld.getD j 0)) sp.toNat dp.toNat n.toNat = fun j => rf ((cpyL lsrc ld sp.toNat dp.toNat n.toNat).getD j 0) := by
      funext j
      unfold va_cpy
      rw [List.getD_eq_getElem?_getD (l := cpyL _ _ _ _ _), cpyL_at (by omega) (by omega)]
      by_cases hj : dp.toNat ≤ j ∧ j < dp.toNat + n.toNat
      · rw [if_pos hj, if_pos hj, ← List.getD_eq_getElem?_getD]
      · rw [if_neg hj, if_neg hj, ← List.getD_eq_getElem?_getD]
    have hset : (wld rf cA hp).set (rd.toNat - 1) (adr rf (rd.toNat - 1), .inl (cA 25, ld.length, .inr (.inr (.inr (.inr (va_cpy (fun j => rf (lsrc.getD j 0)) (fun j => rf (ld.getD j 0)) sp.toNat dp.toNat n.toNat)))))) = wld rf cA (hp.set (rd.toNat - 1) (25, cpyL lsrc ld sp.toNat dp.toNat n.toNat)) := by
      rw [← wld_set, ent_r (by simp), hl, hf]
    rw [hset] at h1 h2
    refine k H1 locs1 h1 h2 h3 (wfH_set hw ⟨fun h => by simp at h, fun h => ⟨by simp, by simp, by rw [hl]; exact (hCd.2.1 h).2.2⟩, fun j y hy => ?_⟩)
    dsimp only at hy ⊢
    rw [cpyL_at (by omega) (by omega)] at hy
    split at hy
    · have := hCs.2.2 _ y hy
      exact this
    · exact hCd.2.2 j y hy
end AL
end
section
/-! new int[n][m][k]: the machine's step -/
/-- the outermost row, when i of its places are filled -/
def o3 (c : ClassId) (N h0 M : Nat) : Nat → Cell
  | 0 => { cls := c, slots := Array.replicate N .null, vm := .none }
  | i + 1 => (o3 c N h0 M i).setSlot i (.ref (h0 + 1 + i * (M + 1)))
def f3 (s : State) (c3 c2 c1 : ClassId) (N M K : Nat) (dv : Value) : Nat → State
  | 0 => s.pushCell (o3 c3 N s.heap.size M 0)
  | i + 1 => (Jvm.Free.Multi.fill (f3 s c3 c2 c1 N M K dv i) c2 c1 M K dv M).setCell s.heap.size (o3 c3 N s.heap.size M (i + 1))
theorem o3_facts (c : ClassId) (N h0 M : Nat) : ∀ i, (o3 c N h0 M i).cls = c ∧ (o3 c N h0 M i).vm = .none ∧ (o3 c N h0 M i).slots.size = N
  | 0 => ⟨rfl, rfl, by simp [o3]⟩
  | i + 1 => by
    obtain ⟨a, b, d⟩ := o3_facts c N h0 M i
    exact ⟨by simp [o3, Cell.setSlot, a], by simp [o3, Cell.setSlot, b], by simp [o3, Cell.setSlot, d]⟩
theorem f3_facts (s : State) (c3 c2 c1 : ClassId) (N M K : Nat) (dv : Value) : ∀ i, (f3 s c3 c2 c1 N M K dv i).heap.size = s.heap.size + 1 + i * (M + 1) ∧ (f3 s c3 c2 c1 N M K dv i).heap[s.heap.size]? = some (o3 c3 N s.heap.size M i) ∧
    (f3 s c3 c2 c1 N M K dv i).vm = s.vm ∧ (f3 s c3 c2 c1 N M K dv i).slotsUsed = s.slotsUsed + N + i * (M + M * K)
  | 0 => ⟨by simp [f3], by simp [f3], rfl, by simp [f3, o3]⟩
  | i + 1 => by
    obtain ⟨a, b, d, u⟩ := f3_facts s c3 c2 c1 N M K dv i
    obtain ⟨a2, b2, d2, u2⟩ := Jvm.Free.Multi.fill_facts (f3 s c3 c2 c1 N M K dv i) c2 c1 M K dv M
    have hlt : s.heap.size < (f3 s c3 c2 c1 N M K dv i).heap.size := by omega
    have hold := Jvm.Free.Multi.fill_old (f3 s c3 c2 c1 N M K dv i) c2 c1 M K dv hlt M
    have hb' : (Jvm.Free.Multi.fill (f3 s c3 c2 c1 N M K dv i) c2 c1 M K dv M).heap[s.heap.size]? = some (o3 c3 N s.heap.size M i) := by rw [hold]; exact b
    refine ⟨?_, State.heap_setCell_self hb', ?_, ?_⟩
    · show ((Jvm.Free.Multi.fill (f3 s c3 c2 c1 N M K dv i) c2 c1 M K dv M).setCell s.heap.size _).heap.size = _
      rw [size_setCell, a2, a, Nat.succ_mul]
      omega
    · show ((Jvm.Free.Multi.fill (f3 s c3 c2 c1 N M K dv i) c2 c1 M K dv M).setCell s.heap.size _).vm = _
      show (Jvm.Free.Multi.fill (f3 s c3 c2 c1 N M K dv i) c2 c1 M K dv M).vm = _
      rw [d2, d]
    · show (Jvm.Free.Multi.fill (f3 s c3 c2 c1 N M K dv i) c2 c1 M K dv M).slotsUsed = _
      rw [u2, u, Nat.succ_mul]
      omega
theorem f3_old (s : State) (c3 c2 c1 : ClassId) (N M K : Nat) (dv : Value) {a : Addr} (ha : a < s.heap.size) : ∀ i, (f3 s c3 c2 c1 N M K dv i).heap[a]? = s.heap[a]?
  | 0 => State.heap_pushCell_of_lt _ _ ha
  | i + 1 => by
    have f1 := (f3_facts s c3 c2 c1 N M K dv i).1
    have hlt : a < (f3 s c3 c2 c1 N M K dv i).heap.size := Nat.lt_of_lt_of_le ha (by rw [f1, Nat.add_assoc]; exact Nat.le_add_right _ _)
    show ((Jvm.Free.Multi.fill (f3 s c3 c2 c1 N M K dv i) c2 c1 M K dv M).setCell s.heap.size _).heap[a]? = _
    rw [State.heap_setCell_other (Nat.ne_of_gt ha), Jvm.Free.Multi.fill_old _ c2 c1 M K dv hlt M]
    exact f3_old s c3 c2 c1 N M K dv ha i
/-- the middle rows and the inner ones -/
theorem f3_in (s : State) (c3 c2 c1 : ClassId) (N M K : Nat) (dv : Value) : ∀ i j, j < i →
    (f3 s c3 c2 c1 N M K dv i).heap[s.heap.size + 1 + j * (M + 1)]? = some (Jvm.Free.Multi.outerC c2 M (s.heap.size + 1 + j * (M + 1)) M) ∧
    ∀ t, t < M → (f3 s c3 c2 c1 N M K dv i).heap[s.heap.size + 1 + j * (M + 1) + 1 + t]? = some (Jvm.Free.Multi.innerC c1 K dv)
  | 0, _, h => absurd h (Nat.not_lt_zero _)
  | i + 1, j, h => by
    have f1 := (f3_facts s c3 c2 c1 N M K dv i).1
    obtain ⟨a2, b2, d2, u2⟩ := Jvm.Free.Multi.fill_facts (f3 s c3 c2 c1 N M K dv i) c2 c1 M K dv M
    have key : ∀ a : Nat, s.heap.size < a → (f3 s c3 c2 c1 N M K dv (i + 1)).heap[a]? = (Jvm.Free.Multi.fill (f3 s c3 c2 c1 N M K dv i) c2 c1 M K dv M).heap[a]? := fun a ha => by
      show ((Jvm.Free.Multi.fill (f3 s c3 c2 c1 N M K dv i) c2 c1 M K dv M).setCell s.heap.size _).heap[a]? = _
      rw [State.heap_setCell_other (show s.heap.size ≠ a by omega)]
    rcases Nat.lt_or_ge j i with hj | hj
    · have hjm : j * (M + 1) + (M + 1) ≤ i * (M + 1) := by
        have := Nat.mul_le_mul_right (M + 1) (show j + 1 ≤ i from hj)
        rw [Nat.succ_mul] at this
        exact this
      obtain ⟨g1, g2⟩ := f3_in s c3 c2 c1 N M K dv i j hj
      refine ⟨?_, fun t ht => ?_⟩
      · have hb1 : s.heap.size + 1 + j * (M + 1) < (f3 s c3 c2 c1 N M K dv i).heap.size := by
          rw [f1]
          generalize j * (M + 1) = u at hjm ⊢
          generalize i * (M + 1) = w at hjm ⊢
          omega
        rw [key _ (by omega), Jvm.Free.Multi.fill_old _ c2 c1 M K dv hb1 M]
        exact g1
      · have hb1 : s.heap.size + 1 + j * (M + 1) + 1 + t < (f3 s c3 c2 c1 N M K dv i).heap.size := by
          rw [f1]
          generalize j * (M + 1) = u at hjm ⊢
          generalize i * (M + 1) = w at hjm ⊢
          omega
        rw [key _ (by omega), Jvm.Free.Multi.fill_old _ c2 c1 M K dv hb1 M]
        exact g2 t ht
    · have e : j = i := by omega
      subst e
      rw [f1] at b2
      refine ⟨?_, fun t ht => ?_⟩
      · rw [key _ (by omega)]
        exact b2
      · rw [key _ (by omega)]
        have := Jvm.Free.Multi.fill_inner (f3 s c3 c2 c1 N M K dv j) c2 c1 M K dv M t ht
        rw [f1] at this
        exact this
theorem f3_setTop (s : State) (f : JFrame) (c3 c2 c1 : ClassId) (N M K : Nat) (dv : Value) : ∀ i, f3 (s.setTop f) c3 c2 c1 N M K dv i = (f3 s c3 c2 c1 N M K dv i).setTop f
  | 0 => rfl
  | i + 1 => by simp only [f3, f3_setTop s f c3 c2 c1 N M K dv i, Jvm.Free.Multi.fill_setTop, State.heap_setTop, State.setCell_setTop]
section M3
variable {E : CtlPost} {e : Env} {d : Bool} {acts : List Action} {s : State}
theorem wp_make3 {c3 c2 c1 cc : ClassId} {k3 k2 k1 : Class} {t3 t2 type : FieldType} {n m q : Int32} (hk3 : s.vm.classes[c3]? = some k3) (hkind3 : k3.kind = .array c2 t3) (href3 : t3.isReference = true)
    (hk2 : s.vm.classes[c2]? = some k2) (hkind2 : k2.kind = .array c1 t2) (href2 : t2.isReference = true) (hk1 : s.vm.classes[c1]? = some k1) (hkind1 : k1.kind = .array cc type) (hn : ¬ n < 0) (hm : ¬ m < 0) (hq0 : ¬ q < 0)
    (hl1 : ¬ n.toNatClampNeg > e.platform.arrayLengthLimit) (hh1 : ¬ n.toNatClampNeg * componentBytes t3 > e.platform.maxHeapBytes)
    (hl2 : ¬ m.toNatClampNeg > e.platform.arrayLengthLimit) (hh2 : ¬ m.toNatClampNeg * componentBytes t2 > e.platform.maxHeapBytes)
    (hl3 : ¬ q.toNatClampNeg > e.platform.arrayLengthLimit) (hh3 : ¬ q.toNatClampNeg * componentBytes type > e.platform.maxHeapBytes)
    (hdf : fits type (defaultValue type) = true) (hdd : (defaultValue type).isDefault = true)
    (hc : s.heap.size + 1 + n.toNatClampNeg * (m.toNatClampNeg + 1) ≤ e.platform.maxCells) (hs : s.slotsUsed + n.toNatClampNeg + n.toNatClampNeg * (m.toNatClampNeg + m.toNatClampNeg * q.toNatClampNeg) ≤ e.platform.maxSlots)
    {Q : Addr → Pre} (hq : ∀ d' acts', Q s.heap.size d' acts' (f3 s c3 c2 c1 n.toNatClampNeg m.toNatClampNeg q.toNatClampNeg (defaultValue type) n.toNatClampNeg)) :
    wp (multianewarray.make c3 [n, m, q]) Q E e d acts s := by
  have hfind : ([m, q].find? (· < 0)) = none := by simp [hm, hq0]
  rw [multianewarray.make]
  simp only [wp_bind', W.ite, hn, if_false, wp_pure', W.theClass, hk3, hkind3, Option.some.injEq, exists_eq_left']
  refine Jvm.Free.Multi.wp_newArray hk3 hkind3 hl1 hh1 (Jvm.Free.Multi.refFits href3 _ (Or.inl rfl)) rfl (by have := Nat.zero_le (n.toNatClampNeg * (m.toNatClampNeg + 1)); omega) (by have := Nat.zero_le (n.toNatClampNeg * (m.toNatClampNeg + m.toNatClampNeg * q.toNatClampNeg)); omega) ?_
  simp only [hfind]
  rw [ite_self, wp_bind', Std.Legacy.Range.forIn_eq_forIn_range']
  have hsz : ([:n.toNatClampNeg] : Std.Legacy.Range).size = n.toNatClampNeg := by simp [Std.Legacy.Range.size]
  rw [hsz]
  generalize hN : n.toNatClampNeg = N at *
  show wp (forIn (List.range' 0 N 1) PUnit.unit _) _ E e d acts _
  refine wp_forIn_inv (fun rest s' => ∃ i, i ≤ N ∧ rest = List.range' i (N - i) ∧ s' = f3 s c3 c2 c1 N m.toNatClampNeg q.toNatClampNeg (defaultValue type) i) _ _ ⟨0, Nat.zero_le _, rfl, rfl⟩ ?_ ?_
  · rintro x rest s' d' acts' Q' ⟨i, hi, hl, rfl⟩ hnext
    have hlt : i < N := by
      rcases Nat.lt_or_ge i N with h | h
      · exact h
      · rw [show N - i = 0 from by omega] at hl; simp at hl
    obtain ⟨rfl, hrest⟩ : x = i ∧ rest = List.range' (i + 1) (N - (i + 1)) := by
      rw [show N - i = (N - (i + 1)) + 1 from by omega, List.range'_succ] at hl
      exact ⟨(List.cons.inj hl).1, (List.cons.inj hl).2⟩
    obtain ⟨g1, g2, g3, g4⟩ := f3_facts s c3 c2 c1 N m.toNatClampNeg q.toNatClampNeg (defaultValue type) x
    obtain ⟨p1, p2, p3⟩ := o3_facts c3 N s.heap.size m.toNatClampNeg x
    have hmul : x * (m.toNatClampNeg + 1) + (m.toNatClampNeg + 1) ≤ N * (m.toNatClampNeg + 1) := by
      have := Nat.mul_le_mul_right (m.toNatClampNeg + 1) (show x + 1 ≤ N from hlt)
      rw [Nat.succ_mul] at this; exact this
    have hmul2 : x * (m.toNatClampNeg + m.toNatClampNeg * q.toNatClampNeg) + (m.toNatClampNeg + m.toNatClampNeg * q.toNatClampNeg) ≤ N * (m.toNatClampNeg + m.toNatClampNeg * q.toNatClampNeg) := by
      have := Nat.mul_le_mul_right (m.toNatClampNeg + m.toNatClampNeg * q.toNatClampNeg) (show x + 1 ≤ N from hlt)
      rw [Nat.succ_mul] at this; exact this
    simp only [wp_bind']
    refine Jvm.Free.Multi.wp_make2 (k := k2) (kc := k1) (comp := c1) (cc := cc) (t0 := t2) (type := type) (by rw [g3]; exact hk2) hkind2 href2 (by rw [g3]; exact hk1) hkind1 hm hq0 hl2 hh2 hl3 hh3 hdf hdd (by rw [g1]; omega) (by rw [g4]; omega) (fun d2 acts2 => ?_)
    obtain ⟨a2, b2, v2, u2⟩ := Jvm.Free.Multi.fill_facts (f3 s c3 c2 c1 N m.toNatClampNeg q.toNatClampNeg (defaultValue type) x) c2 c1 m.toNatClampNeg q.toNatClampNeg (defaultValue type) m.toNatClampNeg
    have hlt0 : s.heap.size < (f3 s c3 c2 c1 N m.toNatClampNeg q.toNatClampNeg (defaultValue type) x).heap.size := by rw [g1]; omega
    simp only [wp_bind', W.writeLoc, wp_pure']
    refine ⟨o3 c3 N s.heap.size m.toNatClampNeg x, by rw [Jvm.Free.Multi.fill_old _ _ _ _ _ _ hlt0]; exact g2, by rw [p2]; simp, by rw [p3]; exact hlt, ?_, hnext _ _ _ ⟨x + 1, hlt, hrest, ?_⟩⟩
    · rw [p1, p2]
      simp [State.fitsSlot, State.slotType?, v2, g3, hk3, hkind3, Jvm.Free.Multi.refFits href3 _ (Or.inr ⟨_, rfl⟩)]
    · rw [g1]; rfl
  · rintro s' d' acts' ⟨i, hi, hl, rfl⟩
    have hiN : i = N := by
      rcases Nat.lt_or_ge i N with h | h
      · rw [show N - i = (N - (i + 1)) + 1 from by omega, List.range'_succ] at hl; cases hl
      · omega
    subst hiN
    simp only [wp_pure']
    exact hq _ _
end M3
section S3
variable {p : Program} {l : Launch} {e : Env} {R : Room} {s : State} {m : MethodId} {args : Array Value} {below : List Frame} {meth : Method} {c : Code} {T : State} {locs : List Loc} {cells slots : Nat}
theorem filled3 (X : Stand p l e R s m args below meth c T locs cells slots) (c3 c2 c1 : ClassId) (N M K : Nat) (dv : Value) :
    ∀ i, Stand p l e R s m args below meth c (f3 T c3 c2 c1 N M K dv i) locs (cells + 1 + i * (M + 1)) (slots + N + i * (M + M * K))
  | 0 => by
    have h := X.pushed (o3 c3 N T.heap.size M 0)
    rw [(o3_facts c3 N T.heap.size M 0).2.2] at h
    simpa [f3] using h
  | i + 1 => by
    have Xi := filled3 X c3 c2 c1 N M K dv i
    obtain ⟨g1, g2, g3, g4⟩ := f3_facts T c3 c2 c1 N M K dv i
    have hlt0 : T.heap.size < (f3 T c3 c2 c1 N M K dv i).heap.size := by rw [g1]; omega
    have Xf := Xi.filled c2 c1 M K dv M
    have hcell : (Jvm.Free.Multi.fill (f3 T c3 c2 c1 N M K dv i) c2 c1 M K dv M).heap[T.heap.size]? = some (o3 c3 N T.heap.size M i) := by rw [Jvm.Free.Multi.fill_old _ _ _ _ _ _ hlt0]; exact g2
    have h := Xf.stored hcell i (.ref (T.heap.size + 1 + i * (M + 1)))
    have e3 : slots + N + (i + 1) * (M + M * K) = slots + N + i * (M + M * K) + M + M * K := by rw [Nat.succ_mul]; omega
    have e4 : cells + 1 + (i + 1) * (M + 1) = cells + 1 + i * (M + 1) + 1 + M := by rw [Nat.succ_mul]; omega
    rw [e3, e4]
    rw [List.append_assoc] at h
    refine h.dropFresh (fun x hx => ?_)
    rcases List.mem_append.mp hx with hx | hx
    · obtain ⟨j, -, rfl⟩ := List.mem_map.mp hx
      exact Xi.heapGrown
    · rw [List.mem_singleton.mp hx]
      exact X.heapGrown
theorem multianewarray3 (X : Stand p l e R s m args below meth c T locs cells slots) (hexec : p.tables.exec = Jvm.exec) {own : String} {index : Nat} {ty : FieldType}
    (hown : s.vm.findClass own = some m.cls) (hclink : (Cond.classLink own index ("[" ++ (FieldType.array (.array ty)).toString)).before args s = true)
    (hover3 : (Cond.arrayOver (.array (.array ty))).before args s = true) (hover2 : (Cond.arrayOver (.array ty)).before args s = true) (harr : (Cond.arrayClass ty).before args s = true)
    {g : JFrame} (hg : g.method = m) (hdg : decode c.code g.pc = .ok (.multianewarray index 3, 4)) {n k q : Int32} {rest : List Value} (hstack : g.stack = .int q :: .int k :: .int n :: rest)
    (hn : ¬ n < 0) (hk : ¬ k < 0) (hq : ¬ q < 0) (hb1 : n.toNatClampNeg * 4 ≤ 536870912) (hb2 : k.toNatClampNeg * 4 ≤ 536870912) (hb3 : q.toNatClampNeg * componentBytes ty ≤ 536870912) (hb4 : q.toNatClampNeg ≤ 536870912)
    (hdf : fits ty (defaultValue ty) = true) (hdd : (defaultValue ty).isDefault = true)
    (hcells : cells + (1 + n.toNatClampNeg * (k.toNatClampNeg + 1)) ≤ R.cells) (hslots : slots + (n.toNatClampNeg + n.toNatClampNeg * (k.toNatClampNeg + k.toNatClampNeg * q.toNatClampNeg)) ≤ R.slots) :
    ∃ (vm₁ : Vm) (c3 c2 c1 : ClassId), s.vm.findClass ("[" ++ (FieldType.array (.array ty)).toString) = some c3 ∧ s.vm.findClass (FieldType.array (.array ty)).toString = some c2 ∧ s.vm.findClass (FieldType.array ty).toString = some c1 ∧
      Stand p l e R s m args below meth c (f3 (T.setVm vm₁) c3 c2 c1 n.toNatClampNeg k.toNatClampNeg q.toNatClampNeg (defaultValue ty) n.toNatClampNeg) locs (cells + 1 + n.toNatClampNeg * (k.toNatClampNeg + 1)) (slots + n.toNatClampNeg + n.toNatClampNeg * (k.toNatClampNeg + k.toNatClampNeg * q.toNatClampNeg)) ∧
      ∀ target, Steps p.tables e below ((f3 (T.setVm vm₁) c3 c2 c1 n.toNatClampNeg k.toNatClampNeg q.toNatClampNeg (defaultValue ty) n.toNatClampNeg).setTop { g with pc := g.pc + 4, stack := .ref T.heap.size :: rest }) target →
        Steps p.tables e below (T.setTop g) target := by
  subst hg
  have hpl : e.platform.magicAccessors = ({} : Platform).magicAccessors := by rw [X.admits.platform]
  obtain ⟨c2, c3, kA, hc2, -, hkA, hkindA, hnameA⟩ := arrayOverA_spec hover3
  obtain ⟨c1, c2', kB, hc1, -, hkB, hkindB, hnameB⟩ := arrayOverA_spec hover2
  obtain ⟨c1', kC, cc, hc1', hkC, hkindC⟩ := Cond.arrayClass_spec harr
  have e1 : c1' = c1 := Option.some.inj (hc1'.symm.trans hc1)
  subst e1
  have e2 : c2' = c2 := Option.some.inj (hnameB.symm.trans hc2)
  subst e2
  obtain ⟨c0, hfc0, hcl⟩ := Cond.classLink_spec hown hclink e.platform hpl
  cases hnameA.symm.trans hfc0
  obtain ⟨hg₁, hwarm₁, hready₁⟩ := State.classEntry (e := e) X.warmed hcl
  generalize T.vm.noted g.method.cls index (.cls c3) = vm₁ at hg₁ hwarm₁ hready₁
  have hal : s.vm.Alike vm₁ := hwarm₁.alike
  obtain ⟨kA₁, hkA₁, heA⟩ := hal.2.2 _ _ hkA
  obtain ⟨kB₁, hkB₁, heB⟩ := hal.2.2 _ _ hkB
  obtain ⟨kC₁, hkC₁, heC⟩ := hal.2.2 _ _ hkC
  have hkindA₁ : kA₁.kind = .array c2' (.array (.array ty)) := by rw [heA]; exact hkindA
  have hkindB₁ : kB₁.kind = .array c1' (.array ty) := by rw [heB]; exact hkindB
  have hkindC₁ : kC₁.kind = .array cc ty := by rw [heC]; exact hkindC
  have X₁ := X.noted hwarm₁
  obtain ⟨hr1, hr2⟩ := X.roomAbove hcells hslots
  refine ⟨vm₁, c3, c2', c1', hnameA, hc2, hc1, filled3 X₁ c3 c2' c1' _ _ _ _ _, fun target hrest => ?_⟩
  have hl1 : ¬ n.toNatClampNeg > e.platform.arrayLengthLimit := by rw [Launch.admits_arrayLengthLimit X.admits]; omega
  have hh1 : ¬ n.toNatClampNeg * componentBytes (.array (.array ty)) > e.platform.maxHeapBytes := by
    rw [Launch.admits_maxHeapBytes X.admits]; show ¬ n.toNatClampNeg * 4 > 536870912; omega
  have hl2 : ¬ k.toNatClampNeg > e.platform.arrayLengthLimit := by rw [Launch.admits_arrayLengthLimit X.admits]; omega
  have hh2 : ¬ k.toNatClampNeg * componentBytes (.array ty) > e.platform.maxHeapBytes := by
    rw [Launch.admits_maxHeapBytes X.admits]; show ¬ k.toNatClampNeg * 4 > 536870912; omega
  have hl3 : ¬ q.toNatClampNeg > e.platform.arrayLengthLimit := by rw [Launch.admits_arrayLengthLimit X.admits]; omega
  have hh3 : ¬ q.toNatClampNeg * componentBytes ty > e.platform.maxHeapBytes := by rw [Launch.admits_maxHeapBytes X.admits]; omega
  jvm_step X.here [hexec, hdg]
  simp only [multianewarray.sem, wp_bind', W.resolveClassAt_links (State.method?_setTop g X.here.top) hg₁]
  rw [W.popN, if_neg (by decide)]
  refine ⟨g, State.topJava?_setTop' (s := T.setVm vm₁) g X.here.top, [.int n, .int k, .int q], rest, rfl, hstack, ?_⟩
  simp only [List.mapM_cons, List.mapM_nil, wp_bind', wp_pure']
  refine wp_make3 (k3 := kA₁) (k2 := kB₁) (k1 := kC₁) (c2 := c2') (c1 := c1') (cc := cc) (t3 := .array (.array ty)) (t2 := .array ty) (type := ty) hkA₁ hkindA₁ rfl hkB₁ hkindB₁ rfl hkC₁ hkindC₁ hn hk hq hl1 hh1 hl2 hh2 hl3 hh3 hdf hdd (by show T.heap.size + 1 + _ ≤ _; omega) (by show T.slotsUsed + _ + _ ≤ _; omega) (fun d' acts' => ?_)
  have XF := filled3 X₁ c3 c2' c1' n.toNatClampNeg k.toNatClampNeg q.toNatClampNeg (defaultValue ty) n.toNatClampNeg
  have eS : ((T.setTop g).setVm vm₁).setTop { g with stack := rest } = (T.setVm vm₁).setTop { g with stack := rest } := by
    show ((T.setVm vm₁).setTop g).setTop _ = _
    rw [State.setTop_setTop]
  rw [eS, f3_setTop]
  simp only [wp_bind', W.mark, W.pushRef, State.topJava?_setTop' _ XF.here.top, Option.some.injEq, exists_eq_left', State.setTop_setTop, State.heap_setTop]
  intro acts
  simp [jvm, XF.here.top]
  exact hrest
end S3
end
section
/-! many new arrays at once: worlds and steps -/
def rfm (rf : Int → Option Nat) (n0 h0 w : Nat) : Int → Option Nat := fun x => if (n0 : Int) < x ∧ x ≤ n0 + w then some (h0 + (x - n0 - 1).toNat) else rf x
theorem rfm_old {rf : Int → Option Nat} {n0 h0 w : Nat} : ∀ x : Int, x ≤ n0 → rfm rf n0 h0 w x = rf x := fun x h => by unfold rfm; rw [if_neg (by omega)]
theorem rfm_new {rf : Int → Option Nat} {n0 h0 w i : Nat} (h : i < w) : rfm rf n0 h0 w (((n0 + i : Nat) : Int) + 1) = some (h0 + i) := by
  unfold rfm
  rw [if_pos (by omega)]
  congr 2
  omega
theorem arrV_congr {c : ClassId} {N : Nat} {f g : Nat → Value} (h : ∀ j, j < N → f j = g j) : arrV c N f = arrV c N g := by
  unfold arrV
  congr 2
  funext j
  exact h j.1 j.2
theorem o3_arr (c : ClassId) (N h0 M : Nat) : ∀ i : Nat, o3 c N h0 M i = arrV c N (fun j => if j < i then .ref (h0 + 1 + j * (M + 1)) else .null)
  | 0 => by
    show ({ cls := c, slots := Array.replicate N .null, vm := .none } : Cell) = _
    rw [arrV_new]
    refine congrArg (arrV c N) (funext fun j => ?_)
    simp
  | i + 1 => by
    show (o3 c N h0 M i).setSlot i (.ref (h0 + 1 + i * (M + 1))) = _
    rw [o3_arr c N h0 M i, arrV_store]
    refine congrArg (arrV c N) (funext fun j => ?_)
    by_cases e : j = i
    · subst e
      simp [updV]
    · by_cases h : j < i
      · simp [updV, e, h, Nat.lt_succ_of_lt h]
      · simp [updV, e, h, show ¬ j < i + 1 by omega]
theorem oC_arr (c : ClassId) (N h0 : Nat) : ∀ i : Nat, Jvm.Free.Multi.outerC c N h0 i = arrV c N (fun j => if j < i then .ref (h0 + 1 + j) else .null)
  | 0 => by
    show ({ cls := c, slots := Array.replicate N .null, vm := .none } : Cell) = _
    rw [arrV_new]
    refine congrArg (arrV c N) (funext fun j => ?_)
    simp
  | i + 1 => by
    show (Jvm.Free.Multi.outerC c N h0 i).setSlot i (.ref (h0 + 1 + i)) = _
    rw [oC_arr c N h0 i, arrV_store]
    refine congrArg (arrV c N) (funext fun j => ?_)
    by_cases e : j = i
    · subst e
      simp [updV]
    · by_cases h : j < i
      · simp [updV, e, h, Nat.lt_succ_of_lt h]
      · simp [updV, e, h, show ¬ j < i + 1 by omega]
theorem refs_at {s n st j : Nat} (h : j < n) : (refsFrom s n st).getD j 0 = ((s + st * j + 1 : Nat) : Int) := by
  unfold refsFrom
  rw [List.getD_eq_getElem?_getD, List.getElem?_map, List.getElem?_range h]
  rfl
theorem refs_len (s n st : Nat) : (refsFrom s n st).length = n := by unfold refsFrom; simp
theorem refs_in {s n st i : Nat} {x : Int} (h : (refsFrom s n st)[i]? = some x) : i < n ∧ x = ((s + st * i + 1 : Nat) : Int) := by
  have hl := (List.getElem?_eq_some_iff.mp h).1
  rw [refs_len] at hl
  refine ⟨hl, ?_⟩
  have := refs_at (s := s) (st := st) hl
  rw [getD_of h] at this
  exact this
/-- uniform blocks -/
theorem blk_at {α : Type} (f : Nat → List α) (L : Nat) (hf : ∀ i, (f i).length = L) : ∀ (n i t : Nat), i < n → t < L → ((List.range n).flatMap f)[i * L + t]? = (f i)[t]?
  | 0, i, t, h, _ => absurd h (Nat.not_lt_zero _)
  | n + 1, i, t, h, ht => by
    have hlen : ((List.range n).flatMap f).length = n * L := by
      clear h
      induction n with
      | zero => simp
      | succ k ih => rw [List.range_succ, List.flatMap_append, List.length_append, ih, Nat.succ_mul]; simp [hf]
    rw [List.range_succ, List.flatMap_append]
    by_cases hi : i < n
    · have : i * L + t < n * L := by
        have := Nat.mul_le_mul_right L (show i + 1 ≤ n from hi)
        rw [Nat.succ_mul] at this
        omega
      rw [List.getElem?_append_left (by rw [hlen]; exact this)]
      exact blk_at f L hf n i t hi ht
    · have e : i = n := by omega
      subst e
      rw [List.getElem?_append_right (by rw [hlen]; omega), hlen]
      simp
theorem blk_len {α : Type} (f : Nat → List α) (L : Nat) (hf : ∀ i, (f i).length = L) (n : Nat) : ((List.range n).flatMap f).length = n * L := by
  induction n with
  | zero => simp
  | succ k ih => rw [List.range_succ, List.flatMap_append, List.length_append, ih, Nat.succ_mul]; simp [hf]
theorem va_at_lt {D : va_G} {cl : List vw_C} {q : Nat × va_E} {H : Heap} (h : va_at D cl q H) : q.1 < H.size := h.lt
theorem ext_world {base : Nat} {rf : Int → Option Nat} {cA : Nat → ClassId} {D : va_G} {hp es : Hp} {H H' : Heap} (hP : va_P D vwCl (wld rf cA hp) H) (hD : va_D (A0 base) (wld rf cA hp)) (hw : wfH hp) (hR : Rf base rf hp.length) (hbH : base ≤ H.size)
    (hold : ∀ a : Nat, a < H.size → H'[a]? = H[a]?) (hok : ∀ e ∈ es, okC (hp.length + es.length) e)
    (hnew : ∀ (i : Nat) (e : Nat × List Int), es[i]? = some e → ∃ x : vp_A, ent (rfm rf hp.length H.size es.length) cA e = .inl (cA e.1, x) ∧ H'[H.size + i]? = some (vp_cell (cA e.1) x)) :
    va_P D vwCl (wld (rfm rf hp.length H.size es.length) cA (hp ++ es)) H' ∧ va_D (A0 base) (wld (rfm rf hp.length H.size es.length) cA (hp ++ es)) ∧ wfH (hp ++ es) ∧ Rf base (rfm rf hp.length H.size es.length) (hp ++ es).length := by
  have hext : wld (rfm rf hp.length H.size es.length) cA hp = wld rf cA hp := wld_ext rfm_old hw
  have hlow : ∀ (k : Nat), k < hp.length → (wld (rfm rf hp.length H.size es.length) cA (hp ++ es))[k]? = (wld rf cA hp)[k]? := by
    intro k hk
    rw [← hext]
    unfold wld
    rw [List.getElem?_mapIdx, List.getElem?_mapIdx, List.getElem?_append_left hk]
  have hhigh : ∀ (i : Nat) (e : Nat × List Int), es[i]? = some e → (wld (rfm rf hp.length H.size es.length) cA (hp ++ es))[hp.length + i]? = some (H.size + i, ent (rfm rf hp.length H.size es.length) cA e) := by
    intro i e he
    have hi := (List.getElem?_eq_some_iff.mp he).1
    have h1 : (hp ++ es)[hp.length + i]? = some e := by
      rw [List.getElem?_append_right (by omega), show hp.length + i - hp.length = i by omega]
      exact he
    rw [wld_at h1]
    unfold adr
    rw [rfm_new hi]
    rfl
  have hsplit : ∀ (k : Nat) (q : Nat × va_E), (wld (rfm rf hp.length H.size es.length) cA (hp ++ es))[k]? = some q → (k < hp.length ∧ (wld rf cA hp)[k]? = some q ∧ q.1 < H.size) ∨ ∃ (i : Nat) (e : Nat × List Int), k = hp.length + i ∧ es[i]? = some e ∧ q = (H.size + i, ent (rfm rf hp.length H.size es.length) cA e) := by
    intro k q hq
    by_cases hk : k < hp.length
    · rw [hlow k hk] at hq
      exact Or.inl ⟨hk, hq, va_at_lt (hP k q hq)⟩
    · have hl := (List.getElem?_eq_some_iff.mp hq).1
      rw [wld_len, List.length_append] at hl
      have hi : k - hp.length < es.length := by omega
      have he : es[k - hp.length]? = some es[k - hp.length] := List.getElem?_eq_getElem hi
      refine Or.inr ⟨k - hp.length, es[k - hp.length], by omega, he, ?_⟩
      have := hhigh _ _ he
      rw [show hp.length + (k - hp.length) = k by omega, hq] at this
      exact Option.some.inj this
  refine ⟨fun k q hq => ?_, ⟨fun i j x y hx hy hxy => ?_, fun k q hq => ?_⟩, ?_, ?_⟩
  · rcases hsplit k q hq with ⟨hk, h1, h2⟩ | ⟨i, e, rfl, he, rfl⟩
    · exact (hP k q h1).kept (hold q.1 h2)
    · obtain ⟨x, hx1, hx2⟩ := hnew i e he
      rw [hx1]
      exact hx2
  · rcases hsplit i x hx with ⟨hi, h1, h2⟩ | ⟨i', e, rfl, he, rfl⟩
    · rcases hsplit j y hy with ⟨hj, g1, g2⟩ | ⟨j', e', rfl, he', rfl⟩
      · exact hD.1 i j x y h1 g1 hxy
      · dsimp only at hxy
        omega
    · rcases hsplit j y hy with ⟨hj, g1, g2⟩ | ⟨j', e', rfl, he', rfl⟩
      · dsimp only at hxy
        omega
      · dsimp only at hxy
        omega
  · rcases hsplit k q hq with ⟨hk, h1, h2⟩ | ⟨i, e, rfl, he, rfl⟩
    · exact hD.2 k q h1
    · show base ≤ H.size + i
      omega
  · intro e he
    rw [List.length_append]
    rcases List.mem_append.mp he with h | h
    · exact (hw e h).mono (by omega)
    · exact hok e h
  · intro x h0 hn
    rw [List.length_append] at hn
    by_cases hx : x ≤ hp.length
    · obtain ⟨q, hq⟩ := hR x h0 hx
      exact ⟨q, by rw [rfm_old x hx]; exact hq⟩
    · exact ⟨_, by unfold rfm; rw [if_pos (by omega)]⟩
end
section
/-! new int[n][m], new int[n][m][k] over the worlds -/
def mty (a : Int) : FieldType := if a = 26 then .int else .boolean
noncomputable def dcR2 (own : String) (cc : ByteArray) (pc nx : Nat) (a b : Int) (g0 g1 g2 g3 : Nat) : Bool :=
  decide ((a = 26 ∧ b = 20) ∨ (a = 29 ∧ b = 22)) && ((nx == pc + 4 && dq cc pc (.multianewarray g1 2) 4) && (wq g0 (.classLink own g1 ("[" ++ (FieldType.array (mty a)).toString)) && (wq g2 (.arrayOver (.array (mty a))) && wq g3 (.arrayClass (mty a)))))
noncomputable def dcR3 (own : String) (cc : ByteArray) (pc nx : Nat) (a b : Int) (g0 g1 g2 g3 g4 : Nat) : Bool :=
  decide (a = 27 ∧ b = 26) && ((nx == pc + 4 && dq cc pc (.multianewarray g1 3) 4) && (wq g0 (.classLink own g1 ("[" ++ (FieldType.array (.array .int)).toString)) && (wq g2 (.arrayOver (.array (.array .int))) && (wq g3 (.arrayOver (.array .int)) && wq g4 (.arrayClass .int)))))
theorem sz_rep (n : Nat) (x : Nat × List Int) : sz (List.replicate n x) = n * x.2.length := by
  unfold sz
  rw [List.map_replicate, List.sum_replicate_nat]
theorem sz_cons (x : Nat × List Int) (h : Hp) : sz (x :: h) = x.2.length + sz h := by unfold sz; simp
section MS
variable {p : Program} {l : Launch} {e : Env} {R : Room} {s : State} {m : MethodId} {args : Array Value} {below : List Frame} {meth : Method} {c : Code} {H : Heap} {locs : List Loc} {cells slots : Nat} {Q : State → Prop}
variable {cc : ByteArray} {nL : Nat} {own mn : String} {base : Nat} {rf : Int → Option Nat} {sc : List Int} {st st' : List Vl} {arr : Array Slot} {D : va_G} {cA : Nat → ClassId} {hp : Hp}
theorem n_nn {z : Int} (hz : 0 ≤ z) (hz2 : in32 z) : ¬ Int32.ofInt z < 0 := by
  show ¬ Int32.ofInt z < Int32.ofInt 0
  rw [n_lt hz2 (by unfold in32; omega)]
  omega
theorem wr_mna2 (X : Cx p s m args c cc nL own) (h0 : rf 0 = none) (hbs : base ≤ s.heap.size) (hSS : va_S (A0 base) s.heap H locs) (hK : va_K D vwCl (ktys cA) s) (hP : va_P D vwCl (wld rf cA hp) H) (hD : va_D (A0 base) (wld rf cA hp)) (hw : wfH hp) (hR : Rf base rf hp.length)
    {pc nx g0 g1 g2 g3 : Nat} {a b n k : Int} {rest : List Vl} (hd : dcR2 own cc pc nx a b g0 g1 g2 g3 = true) (hn0 : 0 ≤ n) (hn : n ≤ 1000) (hk0 : 0 ≤ k) (hkk : k ≤ 1000) (hrest : okS hp.length rest) (hcells : cells + (1 + n.toNat) ≤ R.cells) (hslots : slots + (n.toNat + n.toNat * k.toNat) ≤ R.slots)
    (K : KW p l e R s m args below meth c base D cA rf hp (hp ++ (a.toNat, refsFrom (hp.length + 1) n.toNat 1) :: List.replicate n.toNat (b.toNat, List.replicate k.toNat 0)) cells slots Q nx arr ((2, ((hp.length + 1 : Nat) : Int)) :: rest)) : W p l e R s m args below meth c H locs cells slots Q (F0 m pc arr (toV rf (0, k) :: toV rf (0, n) :: rest.map (toV rf))) := by
  obtain ⟨hx, hb, hml, hown, hts⟩ := X
  unfold dcR2 at hd
  simp only [Bool.and_eq_true, decide_eq_true_eq, beq_iff_eq] at hd
  obtain ⟨hab, ⟨rfl, hdq⟩, hl1, hl2, hl3⟩ := hd
  have hn32 : in32 n := by unfold in32; omega
  have hk32 : in32 k := by unfold in32; omega
  have c1 := cl_of hn0 hn32
  have c2 := cl_of hk0 hk32
  rw [toV_i, toV_i]
  have hbH : base ≤ H.size := Nat.le_trans hbs hSS.1
  intro T hT Xs
  have hty : fits (mty a) (defaultValue (mty a)) = true ∧ (defaultValue (mty a)).isDefault = true ∧ componentBytes (mty a) ≤ 4 := by
    rcases hab with ⟨rfl, -⟩ | ⟨rfl, -⟩ <;> exact ⟨rfl, rfl, by decide⟩
  have hb2 : k.toNat * componentBytes (mty a) ≤ 536870912 := Nat.le_trans (Nat.mul_le_mul (show k.toNat ≤ 1000 by omega) hty.2.2) (by decide)
  obtain ⟨vm₁, cO, comp, -, fA, fC, hO, -, X', step⟩ := Xs.multianewarray2F hx hown (hts _ (wq_of hl1)) (hts _ (wq_of hl2)) (hts _ (wq_of hl3)) (g := F0 m pc arr (.int (Int32.ofInt k) :: .int (Int32.ofInt n) :: rest.map (toV rf))) rfl (by rw [hb]; exact dq_of hdq) rfl (n_nn hn0 hn32) (n_nn hk0 hk32) (by rw [c1]; omega) (by rw [c2]; exact hb2) (by rw [c2]; omega) hty.1 hty.2.1 (by rw [c1]; exact hcells) (by rw [c1, c2]; exact hslots)
  rw [c1, c2] at X' step
  have ecO : cO = cA a.toNat := by
    rcases hab with ⟨rfl, -⟩ | ⟨rfl, -⟩
    · exact Option.some.inj (fA.symm.trans (hK.2 (26 - 20) _ (ktys_at cA (k := 26) (by omega) (by omega))).2)
    · exact Option.some.inj (fA.symm.trans (hK.2 (29 - 20) _ (ktys_at cA (k := 29) (by omega) (by omega))).2)
  have ecC : comp = cA b.toNat := by
    rcases hab with ⟨rfl, rfl⟩ | ⟨rfl, rfl⟩
    · exact Option.some.inj (fC.symm.trans (hK.2 (20 - 20) _ (ktys_at cA (k := 20) (by omega) (by omega))).2)
    · exact Option.some.inj (fC.symm.trans (hK.2 (22 - 20) _ (ktys_at cA (k := 22) (by omega) (by omega))).2)
  subst ecO ecC
  generalize hF : Jvm.Free.Multi.fill (T.setVm vm₁) (cA a.toNat) (cA b.toNat) n.toNat k.toNat (defaultValue (mty a)) n.toNat = F at X' step
  have hTh : (T.setVm vm₁).heap = H := hT
  obtain ⟨f1, f2, -, -⟩ := Jvm.Free.Multi.fill_facts (T.setVm vm₁) (cA a.toNat) (cA b.toNat) n.toNat k.toNat (defaultValue (mty a)) n.toNat
  rw [hF, hTh] at f1 f2
  have hold : ∀ x : Nat, x < H.size → F.heap[x]? = H[x]? := fun x hx => by
    have := Jvm.Free.Multi.fill_old (T.setVm vm₁) (cA a.toNat) (cA b.toNat) n.toNat k.toNat (defaultValue (mty a)) (a := x) (by rw [hTh]; exact hx) n.toNat
    rw [hF, hTh] at this
    exact this
  have hrow : ∀ j : Nat, j < n.toNat → F.heap[H.size + 1 + j]? = some (Jvm.Free.Multi.innerC (cA b.toNat) k.toNat (defaultValue (mty a))) := fun j hj => by
    have := Jvm.Free.Multi.fill_inner (T.setVm vm₁) (cA a.toNat) (cA b.toNat) n.toNat k.toNat (defaultValue (mty a)) n.toNat j hj
    rw [hF, hTh] at this
    exact this
  generalize hes : ((a.toNat, refsFrom (hp.length + 1) n.toNat 1) :: List.replicate n.toNat (b.toNat, List.replicate k.toNat 0) : Hp) = es at K
  have hel : es.length = 1 + n.toNat := by rw [← hes]; simp; omega
  have hat : ∀ (i : Nat) (x : Nat × List Int), es[i]? = some x → (i = 0 ∧ x = (a.toNat, refsFrom (hp.length + 1) n.toNat 1)) ∨ ∃ j, i = j + 1 ∧ j < n.toNat ∧ x = (b.toNat, List.replicate k.toNat 0) := by
    intro i x hx
    rw [← hes] at hx
    cases i with
    | zero => exact Or.inl ⟨rfl, (Option.some.inj hx).symm⟩
    | succ j =>
      rw [List.getElem?_cons_succ, List.getElem?_replicate] at hx
      by_cases hj : j < n.toNat
      · rw [if_pos hj] at hx
        exact Or.inr ⟨j, rfl, hj, (Option.some.inj hx).symm⟩
      · rw [if_neg hj] at hx
        cases hx
  have hA1 : 24 ≤ a.toNat ∧ a.toNat ≤ 29 := by omega
  have hB1 : b.toNat = 20 ∨ b.toNat = 22 := by omega
  have key := ext_world (es := es) hP hD hw hR hbH hold (fun x hx => ?_) (fun i x hx => ?_)
  · obtain ⟨k1, k2, k3, k4⟩ := key
    have hlen : (hp ++ es).length - hp.length = 1 + n.toNat := by rw [List.length_append, hel]; omega
    have hsz : sz (hp ++ es) - sz hp = n.toNat + n.toNat * k.toNat := by
      rw [sz_app, ← hes, sz_cons, sz_rep, refs_len, List.length_replicate]
      omega
    have hSS' : va_S (A0 base) s.heap F.heap locs := ⟨by rw [f1]; have := hSS.1; omega, fun q h1 h2 => by rw [hold q (Nat.lt_of_lt_of_le h1 hSS.1)]; exact hSS.2.1 q h1 h2, hSS.2.2⟩
    have Wk := K (rfm rf hp.length H.size es.length) F.heap locs (cells + 1 + n.toNat) (slots + n.toNat + n.toNat * k.toNat) rfm_old k1 k2 hSS' k3 k4 (by rw [hlen]; omega) (by rw [hsz]; omega)
    have e1 : toV (rfm rf hp.length H.size es.length) (2, ((hp.length + 1 : Nat) : Int)) = .ref H.size := by
      show va_rf (rfm rf hp.length H.size es.length ((hp.length + 1 : Nat) : Int)) = _
      have := rfm_new (rf := rf) (n0 := hp.length) (h0 := H.size) (w := es.length) (i := 0) (by omega)
      rw [show ((hp.length + 1 : Nat) : Int) = ((hp.length + 0 : Nat) : Int) + 1 by omega, this]
      rfl
    rw [List.map_cons, e1, toVs_ext rfm_old hrest] at Wk
    obtain ⟨t, a1, b1⟩ := Wk F rfl X'
    refine ⟨t, step t ?_, b1⟩
    have eT : T.heap.size = H.size := by rw [hT]
    rw [eT]
    exact a1
  · obtain ⟨i, hi⟩ := List.mem_iff_getElem?.mp hx
    rcases hat i x hi with ⟨-, rfl⟩ | ⟨j, -, -, rfl⟩
    · refine ⟨fun h => by dsimp only at h; omega, fun h => ⟨by dsimp only; omega, by dsimp only; omega, by rw [refs_len]; omega⟩, fun i x hx => ?_⟩
      obtain ⟨h1, rfl⟩ := refs_in hx
      have hty2 : kty a.toNat i = 2 := by
        unfold kty
        rw [if_neg (by omega), if_neg (by omega), if_neg (by omega), if_neg (by omega), if_neg (by omega)]
      dsimp only
      rw [hty2, hel]
      exact Or.inr (Or.inr (Or.inl ⟨rfl, by omega⟩))
    · exact okC_rep (fun h => by omega) (fun h => by omega)
  · rcases hat i x hx with ⟨rfl, rfl⟩ | ⟨j, rfl, hj, rfl⟩
    · refine ⟨_, ent_r hA1.1, ?_⟩
      show F.heap[H.size]? = _
      rw [f2, oC_arr]
      show some (arrV _ _ _) = some (vp_cell _ ((refsFrom (hp.length + 1) n.toNat 1).length, .inr (.inr (.inr (.inr _)))))
      rw [vp_cell_q, refs_len]
      congr 1
      refine arrV_congr (fun j hj => ?_)
      rw [if_pos hj, refs_at hj]
      have := rfm_new (rf := rf) (n0 := hp.length) (h0 := H.size) (w := es.length) (i := 1 + j) (by omega)
      rw [show ((hp.length + 1 + 1 * j + 1 : Nat) : Int) = ((hp.length + (1 + j) : Nat) : Int) + 1 by omega, this]
      show Value.ref (H.size + 1 + j) = Value.ref (H.size + (1 + j))
      rw [Nat.add_assoc]
    · have hr := hrow j hj
      rw [show H.size + (j + 1) = H.size + 1 + j by omega]
      refine ⟨_, ent_i (show 14 ≤ b.toNat by omega) (show b.toNat < 23 by omega), ?_⟩
      rw [hr]
      have fz : (fun j => Int32.ofInt ((List.replicate k.toNat (0 : Int)).getD j 0)) = fun _ => 0 := by funext j; rw [rep_getD]; rfl
      show some _ = some (vp_cell _ ((List.replicate k.toNat (0 : Int)).length, .inl _))
      rw [fz, List.length_replicate, vp_cell_i]
      congr 1
      unfold Jvm.Free.Multi.innerC
      rw [arrV_new]
      rcases hab with ⟨rfl, -⟩ | ⟨rfl, -⟩ <;> rfl
theorem wr_mna3 (X : Cx p s m args c cc nL own) (h0 : rf 0 = none) (hbs : base ≤ s.heap.size) (hSS : va_S (A0 base) s.heap H locs) (hK : va_K D vwCl (ktys cA) s) (hP : va_P D vwCl (wld rf cA hp) H) (hD : va_D (A0 base) (wld rf cA hp)) (hw : wfH hp) (hR : Rf base rf hp.length)
    {pc nx g0 g1 g2 g3 g4 : Nat} {a b n k q : Int} {rest : List Vl} (hd : dcR3 own cc pc nx a b g0 g1 g2 g3 g4 = true) (hn0 : 0 ≤ n) (hn : n ≤ 1000) (hk0 : 0 ≤ k) (hkk : k ≤ 1000) (hq0 : 0 ≤ q) (hqq : q ≤ 1000) (hrest : okS hp.length rest) (hcells : cells + (1 + n.toNat * (k.toNat + 1)) ≤ R.cells) (hslots : slots + (n.toNat + n.toNat * (k.toNat + k.toNat * q.toNat)) ≤ R.slots)
    (K : KW p l e R s m args below meth c base D cA rf hp (hp ++ (a.toNat, refsFrom (hp.length + 1) n.toNat (k.toNat + 1)) :: (List.range n.toNat).flatMap (fun i => (b.toNat, refsFrom (hp.length + 2 + (k.toNat + 1) * i) k.toNat 1) :: List.replicate k.toNat (20, List.replicate q.toNat 0))) cells slots Q nx arr ((2, ((hp.length + 1 : Nat) : Int)) :: rest)) : W p l e R s m args below meth c H locs cells slots Q (F0 m pc arr (toV rf (0, q) :: toV rf (0, k) :: toV rf (0, n) :: rest.map (toV rf))) := by
  obtain ⟨hx, hb, hml, hown, hts⟩ := X
  unfold dcR3 at hd
  simp only [Bool.and_eq_true, decide_eq_true_eq, beq_iff_eq] at hd
  obtain ⟨⟨rfl, rfl⟩, ⟨rfl, hdq⟩, hl1, hl2, hl3, hl4⟩ := hd
  have hn32 : in32 n := by unfold in32; omega
  have hk32 : in32 k := by unfold in32; omega
  have hq32 : in32 q := by unfold in32; omega
  have c1 := cl_of hn0 hn32
  have c2 := cl_of hk0 hk32
  have c3 := cl_of hq0 hq32
  rw [toV_i, toV_i, toV_i]
  have hbH : base ≤ H.size := Nat.le_trans hbs hSS.1
  intro T hT Xs
  obtain ⟨vm₁, x3, x2, x1, fA, fB, fC, X', step⟩ := multianewarray3 Xs hx (ty := .int) hown (hts _ (wq_of hl1)) (hts _ (wq_of hl2)) (hts _ (wq_of hl3)) (hts _ (wq_of hl4)) (g := F0 m pc arr (.int (Int32.ofInt q) :: .int (Int32.ofInt k) :: .int (Int32.ofInt n) :: rest.map (toV rf))) rfl (by rw [hb]; exact dq_of hdq) rfl (n_nn hn0 hn32) (n_nn hk0 hk32) (n_nn hq0 hq32) (by rw [c1]; omega) (by rw [c2]; omega) (by rw [c3]; show q.toNat * 4 ≤ _; omega) (by rw [c3]; omega) rfl rfl (by rw [c1, c2]; exact hcells) (by rw [c1, c2, c3]; exact hslots)
  rw [c1, c2, c3] at X' step
  have e3 : x3 = cA 27 := Option.some.inj (fA.symm.trans (hK.2 (27 - 20) _ (ktys_at cA (k := 27) (by omega) (by omega))).2)
  have e2 : x2 = cA 26 := Option.some.inj (fB.symm.trans (hK.2 (26 - 20) _ (ktys_at cA (k := 26) (by omega) (by omega))).2)
  have e1 : x1 = cA 20 := Option.some.inj (fC.symm.trans (hK.2 (20 - 20) _ (ktys_at cA (k := 20) (by omega) (by omega))).2)
  subst e3 e2 e1
  have hN : n.toNat ≤ 1000 := by omega
  have hMM : k.toNat ≤ 1000 := by omega
  have hLL : q.toNat ≤ 1000 := by omega
  generalize n.toNat = N at *
  generalize k.toNat = M at *
  generalize q.toNat = L at *
  generalize hF : f3 (T.setVm vm₁) (cA 27) (cA 26) (cA 20) N M L (defaultValue .int) N = F at X' step
  have hTh : (T.setVm vm₁).heap = H := hT
  obtain ⟨f1, f2, -, -⟩ := f3_facts (T.setVm vm₁) (cA 27) (cA 26) (cA 20) N M L (defaultValue .int) N
  rw [hF, hTh] at f1 f2
  have hold : ∀ x : Nat, x < H.size → F.heap[x]? = H[x]? := fun x hx => by
    have := f3_old (T.setVm vm₁) (cA 27) (cA 26) (cA 20) N M L (defaultValue .int) (a := x) (by rw [hTh]; exact hx) N
    rw [hF, hTh] at this
    exact this
  have hin : ∀ i : Nat, i < N → F.heap[H.size + 1 + i * (M + 1)]? = some (Jvm.Free.Multi.outerC (cA 26) M (H.size + 1 + i * (M + 1)) M) ∧ ∀ t, t < M → F.heap[H.size + 1 + i * (M + 1) + 1 + t]? = some (Jvm.Free.Multi.innerC (cA 20) L (defaultValue .int)) := fun i hi => by
    have := f3_in (T.setVm vm₁) (cA 27) (cA 26) (cA 20) N M L (defaultValue .int) N i hi
    rw [hF, hTh] at this
    exact this
  let blk : Nat → Hp := fun i => (26, refsFrom (hp.length + 2 + (M + 1) * i) M 1) :: List.replicate M (20, List.replicate L 0)
  have hblk : ∀ i, (blk i).length = M + 1 := fun i => by simp [blk]
  have K2 : KW p l e R s m args below meth c base D cA rf hp (hp ++ (((27, refsFrom (hp.length + 1) N (M + 1)) :: (List.range N).flatMap blk : Hp))) cells slots Q (pc + 4) arr ((2, ((hp.length + 1 : Nat) : Int)) :: rest) := K
  clear K
  generalize hes : ((27, refsFrom (hp.length + 1) N (M + 1)) :: (List.range N).flatMap blk : Hp) = es at K2
  have hel : es.length = 1 + N * (M + 1) := by rw [← hes, List.length_cons, blk_len blk (M + 1) hblk]; omega
  have hat : ∀ (i : Nat) (x : Nat × List Int), es[i]? = some x → (i = 0 ∧ x = (27, refsFrom (hp.length + 1) N (M + 1))) ∨ (∃ j, i = 1 + j * (M + 1) ∧ j < N ∧ x = (26, refsFrom (hp.length + 2 + (M + 1) * j) M 1)) ∨ ∃ j t, i = 1 + j * (M + 1) + 1 + t ∧ j < N ∧ t < M ∧ x = (20, List.replicate L 0) := by
    intro i x hx
    have hil := (List.getElem?_eq_some_iff.mp hx).1
    rw [hel] at hil
    rw [← hes] at hx
    cases i with
    | zero => exact Or.inl ⟨rfl, (Option.some.inj hx).symm⟩
    | succ i =>
      rw [List.getElem?_cons_succ] at hx
      have hM : 0 < M + 1 := Nat.succ_pos M
      have hj : i / (M + 1) < N := (Nat.div_lt_iff_lt_mul hM).mpr (by omega)
      have ht : i % (M + 1) < M + 1 := Nat.mod_lt _ hM
      have hi : i = i / (M + 1) * (M + 1) + i % (M + 1) := by
        have := Nat.div_add_mod i (M + 1)
        rw [Nat.mul_comm] at this
        exact this.symm
      generalize i / (M + 1) = j at hj hi
      generalize i % (M + 1) = t at ht hi
      rw [hi, blk_at blk (M + 1) hblk N j t hj ht] at hx
      cases t with
      | zero => exact Or.inr (Or.inl ⟨j, by omega, hj, (Option.some.inj hx).symm⟩)
      | succ t =>
        have hx2 : (List.replicate M ((20, List.replicate L 0) : Nat × List Int))[t]? = some x := hx
        rw [List.getElem?_replicate, if_pos (by omega)] at hx2
        exact Or.inr (Or.inr ⟨j, t, by omega, hj, by omega, (Option.some.inj hx2).symm⟩)
  have hjm : ∀ j, j < N → j * (M + 1) + (M + 1) ≤ N * (M + 1) := fun j hj => by
    have := Nat.mul_le_mul_right (M + 1) (show j + 1 ≤ N from hj)
    rw [Nat.succ_mul] at this
    exact this
  have key := ext_world (es := es) hP hD hw hR hbH hold (fun x hx => ?_) (fun i x hx => ?_)
  · obtain ⟨k1, k2, k3, k4⟩ := key
    have hlen : (hp ++ es).length - hp.length = 1 + N * (M + 1) := by rw [List.length_append, hel]; omega
    have hsb : ∀ n, sz ((List.range n).flatMap blk) = n * (M + M * L) := by
      intro n
      induction n with
      | zero => simp [sz]
      | succ n ih =>
        rw [List.range_succ, List.flatMap_append, sz_app, ih, Nat.succ_mul]
        congr 1
        simp [blk, sz_cons, sz_rep, refs_len]
    have hsz : sz (hp ++ es) - sz hp = N + N * (M + M * L) := by
      rw [sz_app, ← hes, sz_cons, hsb, refs_len]
      omega
    have hSS' : va_S (A0 base) s.heap F.heap locs := ⟨by rw [f1]; have := hSS.1; omega, fun q h1 h2 => by rw [hold q (Nat.lt_of_lt_of_le h1 hSS.1)]; exact hSS.2.1 q h1 h2, hSS.2.2⟩
    have Wk := K2 (rfm rf hp.length H.size es.length) F.heap locs (cells + 1 + N * (M + 1)) (slots + N + N * (M + M * L)) rfm_old k1 k2 hSS' k3 k4 (by rw [hlen]; omega) (by rw [hsz]; omega)
    have e1 : toV (rfm rf hp.length H.size es.length) (2, ((hp.length + 1 : Nat) : Int)) = .ref H.size := by
      show va_rf (rfm rf hp.length H.size es.length ((hp.length + 1 : Nat) : Int)) = _
      have := rfm_new (rf := rf) (n0 := hp.length) (h0 := H.size) (w := es.length) (i := 0) (by omega)
      rw [show ((hp.length + 1 : Nat) : Int) = ((hp.length + 0 : Nat) : Int) + 1 by omega, this]
      rfl
    rw [List.map_cons, e1, toVs_ext rfm_old hrest] at Wk
    obtain ⟨t, a1, b1⟩ := Wk F rfl X'
    refine ⟨t, step t ?_, b1⟩
    have eT : T.heap.size = H.size := by rw [hT]
    rw [eT]
    exact a1
  · obtain ⟨i, hi⟩ := List.mem_iff_getElem?.mp hx
    rcases hat i x hi with ⟨-, rfl⟩ | ⟨j, -, hj, rfl⟩ | ⟨j, t, -, -, -, rfl⟩
    · refine ⟨fun h => by simp at h, fun h => ⟨by simp, by simp, by rw [refs_len]; omega⟩, fun i x hx => ?_⟩
      obtain ⟨h1, rfl⟩ := refs_in hx
      have := hjm i h1
      rw [Nat.mul_comm] at this
      rw [hel]
      exact Or.inr (Or.inr (Or.inl ⟨rfl, by omega⟩))
    · refine ⟨fun h => by simp at h, fun h => ⟨by simp, by simp, by rw [refs_len]; omega⟩, fun i x hx => ?_⟩
      obtain ⟨h1, rfl⟩ := refs_in hx
      have := hjm j hj
      rw [Nat.mul_comm] at this
      rw [hel]
      exact Or.inr (Or.inr (Or.inl ⟨rfl, by omega⟩))
    · exact okC_rep (fun h => by simp at h) (fun h => ⟨by simp, by simp, by omega⟩)
  · rcases hat i x hx with ⟨rfl, rfl⟩ | ⟨j, rfl, hj, rfl⟩ | ⟨j, t, rfl, hj, ht, rfl⟩
    · refine ⟨_, ent_r (by simp), ?_⟩
      show F.heap[H.size]? = _
      rw [f2, o3_arr]
      show some (arrV _ _ _) = some (vp_cell _ ((refsFrom (hp.length + 1) N (M + 1)).length, .inr (.inr (.inr (.inr _)))))
      rw [vp_cell_q, refs_len]
      congr 1
      refine arrV_congr (fun j hj => ?_)
      have hm := hjm j hj
      rw [if_pos hj, refs_at hj]
      have := rfm_new (rf := rf) (n0 := hp.length) (h0 := H.size) (w := es.length) (i := 1 + j * (M + 1)) (by omega)
      rw [show ((hp.length + 1 + (M + 1) * j + 1 : Nat) : Int) = ((hp.length + (1 + j * (M + 1)) : Nat) : Int) + 1 by rw [Nat.mul_comm (M + 1) j]; omega, this]
      show Value.ref (H.size + 1 + j * (M + 1)) = Value.ref (H.size + (1 + j * (M + 1)))
      rw [Nat.add_assoc]
    · have hm := hjm j hj
      refine ⟨_, ent_r (by simp), ?_⟩
      rw [← Nat.add_assoc, (hin j hj).1, oC_arr]
      show some (arrV _ _ _) = some (vp_cell _ ((refsFrom (hp.length + 2 + (M + 1) * j) M 1).length, .inr (.inr (.inr (.inr _)))))
      rw [vp_cell_q, refs_len]
      congr 1
      refine arrV_congr (fun t ht => ?_)
      rw [if_pos ht, refs_at ht]
      have := rfm_new (rf := rf) (n0 := hp.length) (h0 := H.size) (w := es.length) (i := 1 + j * (M + 1) + 1 + t) (by omega)
      rw [show ((hp.length + 2 + (M + 1) * j + 1 * t + 1 : Nat) : Int) = ((hp.length + (1 + j * (M + 1) + 1 + t) : Nat) : Int) + 1 by rw [Nat.mul_comm (M + 1) j]; omega, this]
      show Value.ref (H.size + 1 + j * (M + 1) + 1 + t) = Value.ref (H.size + (1 + j * (M + 1) + 1 + t))
      congr 1
      simp only [Nat.add_assoc]
    · refine ⟨_, ent_i (by simp) (by simp), ?_⟩
      rw [show H.size + (1 + j * (M + 1) + 1 + t) = H.size + 1 + j * (M + 1) + 1 + t by simp only [Nat.add_assoc], (hin j hj).2 t ht]
      have fz : (fun j => Int32.ofInt ((List.replicate L (0 : Int)).getD j 0)) = fun _ => 0 := by funext j; rw [rep_getD]; rfl
      show some _ = some (vp_cell _ ((List.replicate L (0 : Int)).length, .inl _))
      rw [fz, List.length_replicate, vp_cell_i]
      congr 1
      unfold Jvm.Free.Multi.innerC
      rw [arrV_new]
      rfl
end MS
end
section
/-! all instructions that write the heap -/
abbrev clN : MethodName := ⟨"java/lang/Object", "clone", "()Ljava/lang/Object;"⟩
abbrev clI : MethodName := ⟨"[I", "clone", "()Ljava/lang/Object;"⟩
noncomputable def dcZ (own : String) (cc : ByteArray) (pc nx : Nat) (g0 g1 g2 g3 g4 g5 g6 : Nat) : Bool :=
  (nx == pc + 3 && dq cc pc (.invokevirtual g1) 3) && (wq g0 (.methodLink own g1 clI) && (wq g2 (.sameMethod "[I" "java/lang/Object" "clone" "()Ljava/lang/Object;") && (wq g3 (.native clN) && (wq g4 (.instanceMethod clN) && (wq g5 (.selects "[I" clI clN) && wq g6 (.castable "[I" "java/lang/Cloneable"))))))
section CLZ
variable {p : Program} {l : Launch} {e : Env} {R : Room} {s : State} {m : MethodId} {args : Array Value} {below : List Frame} {meth : Method} {c : Code} {H : Heap} {locs : List Loc} {cells slots : Nat} {Q : State → Prop}
variable {cc : ByteArray} {nL : Nat} {own : String} {base : Nat} {rf : Int → Option Nat} {arr : Array Slot} {D : va_G} {cA : Nat → ClassId} {hp : Hp}
theorem wr_clone (X : Cx p s m args c cc nL own) (hbs : base ≤ s.heap.size) (hSS : va_S (A0 base) s.heap H locs) (hK : va_K D vwCl (ktys cA) s) (hP : va_P D vwCl (wld rf cA hp) H) (hD : va_D (A0 base) (wld rf cA hp)) (hw : wfH hp) (hR : Rf base rf hp.length) (harr : arr.size = nL) (hfr : 1 ≤ R.frames) (hlo : 64 ≤ R.locals)
    {pc nx g0 g1 g2 g3 g4 g5 g6 : Nat} {rs : Int} {lsrc : List Int} {rest : List Vl} (hd : dcZ own cc pc nx g0 g1 g2 g3 g4 g5 g6 = true) (hcs : cel hp rs = some (20, lsrc)) (hwd : wds rest ≤ 8) (hrest : okS hp.length rest) (hcells : cells + 1 ≤ R.cells) (hslots : slots + lsrc.length ≤ R.slots)
    (k : KW p l e R s m args below meth c base D cA rf hp (hp ++ [(20, lsrc)]) cells slots Q nx arr ((2, ((hp.length + 1 : Nat) : Int)) :: rest)) : W p l e R s m args below meth c H locs cells slots Q (F0 m pc arr (toV rf (2, rs) :: rest.map (toV rf))) := by
  obtain ⟨hx, hb, hml, hown, hts⟩ := X
  unfold dcZ at hd
  simp only [Bool.and_eq_true, beq_iff_eq] at hd
  obtain ⟨⟨rfl, hdq⟩, hl0, hl2, hl3, hl4, hl5, hl6⟩ := hd
  obtain ⟨-, hats, -⟩ := cel_of hcs
  have hws := wld_at (rf := rf) (cA := cA) hats
  have hok : okC hp.length (20, lsrc) := hw.at hats
  rw [ent_i (by simp) (by simp)] at hws
  rw [ref_of hR hcs]
  have hcat : ((rest.map (toV rf)).map fun v => v.category).sum = wds rest := by
    unfold wds
    rw [List.map_map]
    congr 1
    apply List.map_congr_left
    intro v _
    exact toV_cat rf v
  have hA : ∀ q, s.heap.size ≤ q → A0 base q := fun q hq => Nat.le_trans hbs hq
  refine va_clone (ad := "[I") (ty := .int) hx hb (by rw [hml]; exact harr.symm) hown (hts _ (wq_of hl0)) (hts _ (wq_of hl2)) (hts _ (wq_of hl3)) (hts _ (wq_of hl4)) (hts _ (wq_of hl5)) (va_Nw.of rfl (hts _ (wq_of hl6))) hK hP hD hSS hA (rs.toNat - 1) 0 hws (ktys_at cA (Nat.le_refl 20) (by omega)) (va_nm_int ((hK.2 0 _ (ktys_at cA (Nat.le_refl 20) (by omega))).2)) ?_ hfr ?_ hcells hslots (dq_of hdq) (fun q H1 h0 h1 h2 h3 => ?_)
  · intro i v hv
    obtain ⟨hi, hv⟩ := Array.getElem?_eq_some_iff.mp hv
    have hv : (vp_cell (cA 20) (lsrc.length, .inl (fun j => Int32.ofInt (lsrc.getD j 0)))).slots[i] = v := hv
    simp only [vp_cell, arrV, Array.getElem_ofFn] at hv
    rw [← hv]
    rfl
  · rw [hcat]
    omega
  · have hx2 : ent rf cA (20, lsrc) = .inl (cA 20, lsrc.length, .inl (fun j => Int32.ofInt (lsrc.getD j 0))) := ent_i (by simp) (by simp)
    rw [← hx2] at h1 h2
    exact new_end1 hw hR hok hrest h1 h2 h3 k
end CLZ
noncomputable def dcX (own mn : String) (cc : ByteArray) (pc op nx : Nat) (a b : Int) (os : List Int) : Bool :=
  if op = 40 then dcG own mn cc pc nx a b (os.getD 0 0).toNat (os.getD 1 0).toNat (os.getD 2 0).toNat (os.getD 3 0).toNat
  else if op = 41 then dcA cc pc nx a
  else if op = 42 then dcN own cc pc nx a b (os.getD 0 0).toNat (os.getD 1 0).toNat (os.getD 2 0).toNat (os.getD 3 0).toNat
  else if op = 43 then dcM cc pc nx a (os.getD 0 0).toNat
  else if op = 44 then dcQ own cc pc nx a (os.getD 0 0).toNat (os.getD 1 0).toNat (os.getD 2 0).toNat
  else if op = 45 then dcR2 own cc pc nx a b (os.getD 0 0).toNat (os.getD 1 0).toNat (os.getD 2 0).toNat (os.getD 3 0).toNat
  else if op = 46 then dcR3 own cc pc nx a b (os.getD 0 0).toNat (os.getD 1 0).toNat (os.getD 2 0).toNat (os.getD 3 0).toNat (os.getD 4 0).toNat
  else if op = 47 then dcY own cc pc nx (os.getD 0 0).toNat (os.getD 1 0).toNat (os.getD 2 0).toNat (os.getD 3 0).toNat (os.getD 4 0).toNat
  else if op = 48 then dcZ own cc pc nx (os.getD 0 0).toNat (os.getD 1 0).toNat (os.getD 2 0).toNat (os.getD 3 0).toNat (os.getD 4 0).toNat (os.getD 5 0).toNat (os.getD 6 0).toNat
  else false
section WX
variable {p : Program} {l : Launch} {e : Env} {R : Room} {s : State} {m : MethodId} {args : Array Value} {below : List Frame} {meth : Method} {c : Code} {H : Heap} {locs : List Loc} {cells slots : Nat} {Q : State → Prop}
variable {cc : ByteArray} {nL : Nat} {own mn : String} {base : Nat} {rf : Int → Option Nat} {sc : List Int} {st st' : List Vl} {arr : Array Slot} {D : va_G} {cA : Nat → ClassId} {hp hp' : Hp}
theorem sz_x (hp : Hp) (k N : Nat) : sz (hp ++ [(k, List.replicate N 0)]) - sz hp = N := by
  rw [sz_app]
  simp [sz]
theorem snd_wst (X : Cx p s m args c cc nL own) (hmn : meth.name = mn) (hS : Stt base rf sc s) (hSS : va_S (A0 base) s.heap H locs) (hK : va_K D vwCl (ktys cA) s) (hP : va_P D vwCl (wld rf cA hp) H) (hD : va_D (A0 base) (wld rf cA hp)) (hw : wfH hp) (hR : Rf base rf hp.length)
    (harr : arr.size = nL) (hfr : 1 ≤ R.frames) (hlo : 64 ≤ R.locals) {pc op nx : Nat} {a b : Int} {os : List Int} (hd : dcX own mn cc pc op nx a b os = true) (hw2 : wst op a b hp st = some (hp', st')) (hst : okS hp.length st) (hcells : cells + (hp'.length - hp.length) ≤ R.cells) (hslots : slots + (sz hp' - sz hp) ≤ R.slots)
    (K : KW p l e R s m args below meth c base D cA rf hp hp' cells slots Q nx arr st') : W p l e R s m args below meth c H locs cells slots Q (F0 m pc arr (st.map (toV rf))) := by
  have hbs := hS.1
  have h0 := hS.2.1
  unfold dcX at hd
  unfold wst at hw2
  have same : ∀ (a : Nat) (x y : Nat × List Int), hp[a]? = some x → y.2.length = x.2.length → hp' = hp.set a y → ∀ (H' : Heap) (locs' : List Loc), va_P D vwCl (wld rf cA (hp.set a y)) H' → va_D (A0 base) (wld rf cA (hp.set a y)) → va_S (A0 base) s.heap H' locs' → wfH (hp.set a y) → W p l e R s m args below meth c H' locs' cells slots Q (F0 m nx arr (st'.map (toV rf))) := by
    intro a x y hx hl he H' locs' h1 h2 h3 h4
    subst he
    exact K rf H' locs' cells slots (fun _ _ => rfl) h1 h2 h3 h4 (by rw [List.length_set]; exact hR) (by rw [List.length_set]; omega) (by rw [sz_set hx hl]; omega)
  by_cases q0 : op = 40
  · rw [if_pos q0] at hd hw2
    match st, hw2, hst with
    | v :: (2, r) :: rest, hw2, hst =>
      change (match cel hp r with
        | some (kd, l) => if (kd : Int) = a ∧ b.toNat < l.length then (match keptF (kty kd b.toNat) v with
          | some x => some (hp.set (r.toNat - 1) (kd, l.set b.toNat x), rest)
          | none => none) else none
        | none => none) = some (hp', st') at hw2
      cases hc : cel hp r with
      | none => rw [hc] at hw2; cases hw2
      | some q =>
        obtain ⟨kd, lc⟩ := q
        rw [hc] at hw2
        dsimp only at hw2
        by_cases hk : (kd : Int) = a ∧ b.toNat < lc.length
        · rw [if_pos hk] at hw2
          cases hkf : keptF (kty kd b.toNat) v with
          | none => rw [hkf] at hw2; cases hw2
          | some x =>
            rw [hkf] at hw2
            have hw2 := Prod.ext_iff.mp (Option.some.inj hw2)
            obtain ⟨e1, e2⟩ := hw2
            dsimp only at e1 e2
            subst e2
            exact wr_put X hmn hSS hK hP hD hw hR hd hc hk.1 hk.2 hkf (hst _ List.mem_cons_self) (same _ _ _ (cel_of hc).2.1 (by simp) e1.symm)
        · rw [if_neg hk] at hw2
          cases hw2
  rw [if_neg q0] at hd hw2
  by_cases q1 : op = 41
  · rw [if_pos q1] at hd hw2
    match st, hw2, hst with
    | v :: (0, i) :: (2, r) :: rest, hw2, hst =>
      change (match cel hp r with
        | some (kd, l) => if 0 ≤ i ∧ i.toNat < l.length ∧ ((kd : Int) = a ∨ (a = 21 ∧ kd = 22) ∨ (a = 24 ∧ 24 ≤ kd)) then (match kept hp kd v with
          | some x => some (hp.set (r.toNat - 1) (kd, l.set i.toNat x), rest)
          | none => none) else none
        | none => none) = some (hp', st') at hw2
      cases hc : cel hp r with
      | none => rw [hc] at hw2; cases hw2
      | some q =>
        obtain ⟨kd, lc⟩ := q
        rw [hc] at hw2
        dsimp only at hw2
        by_cases hk : 0 ≤ i ∧ i.toNat < lc.length ∧ ((kd : Int) = a ∨ (a = 21 ∧ kd = 22) ∨ (a = 24 ∧ 24 ≤ kd))
        · rw [if_pos hk] at hw2
          cases hkf : kept hp kd v with
          | none => rw [hkf] at hw2; cases hw2
          | some x =>
            rw [hkf] at hw2
            have hw2 := Prod.ext_iff.mp (Option.some.inj hw2)
            obtain ⟨e1, e2⟩ := hw2
            dsimp only at e1 e2
            subst e2
            exact wr_ast X hS hSS hK hP hD hw hR hd hc hk.1 hk.2.1 hk.2.2 hkf (hst _ List.mem_cons_self) (hst _ (List.mem_cons_of_mem _ List.mem_cons_self)).int (same _ _ _ (cel_of hc).2.1 (by simp) e1.symm)
        · rw [if_neg hk] at hw2
          cases hw2
  rw [if_neg q1] at hd hw2
  by_cases q2 : op = 42
  · rw [if_pos q2] at hd hw2
    have hw2 := Prod.ext_iff.mp (Option.some.inj hw2)
    obtain ⟨e1, e2⟩ := hw2
    dsimp only at e1 e2
    subst e1 e2
    rw [sz_x] at hslots
    exact wr_new X h0 hbs hSS hK hP hD hw hR hd hst (by simpa using hcells) hslots K
  rw [if_neg q2] at hd hw2
  by_cases q3 : op = 43
  · rw [if_pos q3] at hd hw2
    match st, hw2, hst with
    | (0, n) :: rest, hw2, hst =>
      change (if 0 ≤ n ∧ n ≤ 100000 then some (hp ++ [(a.toNat, List.replicate n.toNat 0)], (2, ((hp.length + 1 : Nat) : Int)) :: rest) else none) = some (hp', st') at hw2
      by_cases hn : 0 ≤ n ∧ n ≤ 100000
      · rw [if_pos hn] at hw2
        have hw2 := Prod.ext_iff.mp (Option.some.inj hw2)
        obtain ⟨e1, e2⟩ := hw2
        dsimp only at e1 e2
        subst e1 e2
        rw [sz_x] at hslots
        exact wr_newa X hbs hSS hK hP hD hw hR hd hn.1 hn.2 (fun v hv => hst v (List.mem_cons_of_mem _ hv)) (by simpa using hcells) hslots K
      · rw [if_neg hn] at hw2
        cases hw2
  rw [if_neg q3] at hd hw2
  by_cases q4 : op = 44
  · rw [if_pos q4] at hd hw2
    match st, hw2, hst with
    | (0, n) :: rest, hw2, hst =>
      change (if 0 ≤ n ∧ n ≤ 100000 then some (hp ++ [(a.toNat, List.replicate n.toNat 0)], (2, ((hp.length + 1 : Nat) : Int)) :: rest) else none) = some (hp', st') at hw2
      by_cases hn : 0 ≤ n ∧ n ≤ 100000
      · rw [if_pos hn] at hw2
        have hw2 := Prod.ext_iff.mp (Option.some.inj hw2)
        obtain ⟨e1, e2⟩ := hw2
        dsimp only at e1 e2
        subst e1 e2
        rw [sz_x] at hslots
        exact wr_newq X h0 hbs hSS hK hP hD hw hR hd hn.1 hn.2 (fun v hv => hst v (List.mem_cons_of_mem _ hv)) (by simpa using hcells) hslots K
      · rw [if_neg hn] at hw2
        cases hw2
  rw [if_neg q4] at hd hw2
  by_cases q5 : op = 45
  · rw [if_pos q5] at hd hw2
    match st, hw2, hst with
    | (0, k) :: (0, n) :: rest, hw2, hst =>
      change (if 0 ≤ n ∧ n ≤ 1000 ∧ 0 ≤ k ∧ k ≤ 1000 then some (hp ++ (a.toNat, refsFrom (hp.length + 1) n.toNat 1) :: List.replicate n.toNat (b.toNat, List.replicate k.toNat 0), (2, ((hp.length + 1 : Nat) : Int)) :: rest) else none) = some (hp', st') at hw2
      by_cases hn : 0 ≤ n ∧ n ≤ 1000 ∧ 0 ≤ k ∧ k ≤ 1000
      · rw [if_pos hn] at hw2
        have hw2 := Prod.ext_iff.mp (Option.some.inj hw2)
        obtain ⟨e1, e2⟩ := hw2
        dsimp only at e1 e2
        subst e1 e2
        refine wr_mna2 X h0 hbs hSS hK hP hD hw hR hd hn.1 hn.2.1 hn.2.2.1 hn.2.2.2 (fun v hv => hst v (List.mem_cons_of_mem _ (List.mem_cons_of_mem _ hv))) ?_ ?_ K
        · rw [List.length_append, List.length_cons, List.length_replicate] at hcells
          omega
        · rw [sz_app, sz_cons, sz_rep, refs_len, List.length_replicate] at hslots
          omega
      · rw [if_neg hn] at hw2
        cases hw2
  rw [if_neg q5] at hd hw2
  by_cases q6 : op = 46
  · rw [if_pos q6] at hd hw2
    match st, hw2, hst with
    | (0, q) :: (0, k) :: (0, n) :: rest, hw2, hst =>
      change (if 0 ≤ n ∧ n ≤ 1000 ∧ 0 ≤ k ∧ k ≤ 1000 ∧ 0 ≤ q ∧ q ≤ 1000 then some (hp ++ (a.toNat, refsFrom (hp.length + 1) n.toNat (k.toNat + 1)) :: (List.range n.toNat).flatMap (fun i => (b.toNat, refsFrom (hp.length + 2 + (k.toNat + 1) * i) k.toNat 1) :: List.replicate k.toNat (20, List.replicate q.toNat 0)), (2, ((hp.length + 1 : Nat) : Int)) :: rest) else none) = some (hp', st') at hw2
      by_cases hn : 0 ≤ n ∧ n ≤ 1000 ∧ 0 ≤ k ∧ k ≤ 1000 ∧ 0 ≤ q ∧ q ≤ 1000
      · rw [if_pos hn] at hw2
        have hw2 := Prod.ext_iff.mp (Option.some.inj hw2)
        obtain ⟨e1, e2⟩ := hw2
        dsimp only at e1 e2
        subst e1 e2
        refine wr_mna3 X h0 hbs hSS hK hP hD hw hR hd hn.1 hn.2.1 hn.2.2.1 hn.2.2.2.1 hn.2.2.2.2.1 hn.2.2.2.2.2 (fun v hv => hst v (List.mem_cons_of_mem _ (List.mem_cons_of_mem _ (List.mem_cons_of_mem _ hv)))) ?_ ?_ K
        · rw [List.length_append, List.length_cons, blk_len _ (k.toNat + 1) (fun i => by simp)] at hcells
          omega
        · have hsb : ∀ n, sz ((List.range n).flatMap (fun i => ((b.toNat, refsFrom (hp.length + 2 + (k.toNat + 1) * i) k.toNat 1) : Nat × List Int) :: List.replicate k.toNat (20, List.replicate q.toNat 0))) = n * (k.toNat + k.toNat * q.toNat) := by
            intro n
            induction n with
            | zero => simp [sz]
            | succ n ih =>
              rw [List.range_succ, List.flatMap_append, sz_app, ih, Nat.succ_mul]
              congr 1
              simp [sz_cons, sz_rep, refs_len]
          rw [sz_app, sz_cons, hsb, refs_len] at hslots
          omega
      · rw [if_neg hn] at hw2
        cases hw2
  rw [if_neg q6] at hd hw2
  by_cases q7 : op = 47
  · rw [if_pos q7] at hd hw2
    match st, hw2, hst with
    | (0, n) :: (0, dp) :: (2, d) :: (0, sp) :: (2, r) :: rest, hw2, hst =>
      change (match cel hp r, cel hp d with
        | some (ks, ls), some (kd, ld) => if ((ks = 20 ∧ kd = 20) ∨ (ks = 25 ∧ kd = 25 ∧ oneK hp ls sp.toNat n.toNat = true)) ∧ wds rest ≤ 8 ∧ 0 ≤ n ∧ 0 ≤ dp ∧ 0 ≤ sp ∧ sp + n ≤ ls.length ∧ dp + n ≤ ld.length then
            some (hp.set (d.toNat - 1) (kd, cpyL ls ld sp.toNat dp.toNat n.toNat), rest) else none
        | _, _ => none) = some (hp', st') at hw2
      cases hcs : cel hp r with
      | none => rw [hcs] at hw2; cases hw2
      | some qs =>
        cases hcd : cel hp d with
        | none => rw [hcs, hcd] at hw2; cases hw2
        | some qd =>
          obtain ⟨ks, lsrc⟩ := qs
          obtain ⟨kd, ld⟩ := qd
          rw [hcs, hcd] at hw2
          dsimp only at hw2
          by_cases hk : ((ks = 20 ∧ kd = 20) ∨ (ks = 25 ∧ kd = 25 ∧ oneK hp lsrc sp.toNat n.toNat = true)) ∧ wds rest ≤ 8 ∧ 0 ≤ n ∧ 0 ≤ dp ∧ 0 ≤ sp ∧ sp + n ≤ lsrc.length ∧ dp + n ≤ ld.length
          · rw [if_pos hk] at hw2
            obtain ⟨hkk, k1, k2, k3, k4, k5, k6⟩ := hk
            have hw2 := Prod.ext_iff.mp (Option.some.inj hw2)
            obtain ⟨e1, e2⟩ := hw2
            dsimp only at e1 e2
            subst e2
            have m1 := hst (0, n) (by simp)
            have m2 := hst (0, dp) (by simp)
            have m3 := hst (0, sp) (by simp)
            rcases hkk with ⟨rfl, rfl⟩ | ⟨rfl, rfl, hone⟩
            · exact wr_copy X hSS hK hP hD hw hR harr hfr hlo hd hcs hcd k2 k3 k4 k5 k6 k1 m3.int m2.int m1.int (same _ _ _ (cel_of hcd).2.1 (cpyL_len (by omega) (by omega)) e1.symm)
            · exact wr_copyq X h0 hSS hK hP hD hw hR harr hfr hlo hd hcs hcd hone k2 k3 k4 k5 k6 k1 m3.int m2.int m1.int (same _ _ _ (cel_of hcd).2.1 (cpyL_len (by omega) (by omega)) e1.symm)
          · rw [if_neg hk] at hw2
            cases hw2
  rw [if_neg q7] at hd hw2
  by_cases q8 : op = 48
  · rw [if_pos q8] at hd hw2
    match st, hw2, hst with
    | (2, r) :: rest, hw2, hst =>
      change (match cel hp r with
        | some (kd, l) => if kd = 20 ∧ wds rest ≤ 8 then some (hp ++ [(kd, l)], (2, ((hp.length + 1 : Nat) : Int)) :: rest) else none
        | none => none) = some (hp', st') at hw2
      cases hc : cel hp r with
      | none => rw [hc] at hw2; cases hw2
      | some q =>
        obtain ⟨kd, lc⟩ := q
        rw [hc] at hw2
        dsimp only at hw2
        by_cases hk : kd = 20 ∧ wds rest ≤ 8
        · rw [if_pos hk] at hw2
          obtain ⟨rfl, k1⟩ := hk
          have hw2 := Prod.ext_iff.mp (Option.some.inj hw2)
          obtain ⟨e1, e2⟩ := hw2
          dsimp only at e1 e2
          subst e1 e2
          have hsz : sz (hp ++ [(20, lc)]) - sz hp = lc.length := by
            rw [sz_app]
            simp [sz]
          rw [hsz] at hslots
          exact wr_clone X hbs hSS hK hP hD hw hR harr hfr hlo hd hc k1 (fun v hv => hst v (List.mem_cons_of_mem _ hv)) (by simpa using hcells) hslots K
        · rw [if_neg hk] at hw2
          cases hw2
  rw [if_neg q8] at hd
  cases hd
end WX
end
section
/-! values stay in their ranges -/
theorem shr_in {x : Int} (hx : in32 x) (y : Int) : in32 (i_shr x y) := by
  unfold i_shr
  unfold in32 at *
  have hp : (0 : Int) < 2 ^ (y % 32).toNat := Int.pow_pos (by decide)
  generalize (2 : Int) ^ (y % 32).toNat = d at hp
  rcases (show x < 0 ∨ 0 ≤ x by omega) with h0 | h0
  · have h1 : x / d < 0 := Int.ediv_neg_of_neg_of_pos h0 hp
    have h2 : x ≤ x / d := (Int.le_ediv_iff_mul_le hp).mpr (by
      have := Int.mul_le_mul_of_nonpos_left (show x ≤ 0 by omega) (show (1 : Int) ≤ d by omega)
      omega)
    omega
  · have h1 : 0 ≤ x / d := Int.ediv_nonneg h0 (by omega)
    have h2 : x / d ≤ x := Int.ediv_le_self d h0
    omega
theorem ibin_in {k : Nat} {x y z : Int} (hx : in32 x) (h : ibin k x y = some z) : in32 z := by
  unfold ibin i_and i_or i_xor i_shl i_ushr at h
  repeat' split at h
  all_goals first
    | (simp at h; done)
    | (have h := Option.some.inj h; subst h; first | exact w32_in _ | exact tmod_in hx | exact shr_in hx _)
theorem lbin_in {k : Nat} {x y z : Int} (h : lbin k x y = some z) : in64 z := by
  unfold lbin l_and l_or at h
  repeat' split at h
  all_goals first
    | (simp at h; done)
    | (have h := Option.some.inj h; subst h; exact w64_in _)
theorem okS_cons {n : Nat} {v : Vl} {st : List Vl} (hv : okV n v) (h : okS n st) : okS n (v :: st) := fun x hx => by
  rcases List.mem_cons.mp hx with rfl | hx
  · exact hv
  · exact h x hx
theorem okS_tl {n : Nat} {v : Vl} {st : List Vl} (h : okS n (v :: st)) : okS n st := fun x hx => h x (List.mem_cons_of_mem _ hx)
theorem okS_hd {n : Nat} {v : Vl} {st : List Vl} (h : okS n (v :: st)) : okV n v := h v List.mem_cons_self
theorem dcK_ok {own : String} {cc : ByteArray} {pc nx g0 g1 g2 n : Nat} {a b : Int} (hd : dcK own cc pc nx a b g0 g1 g2 = true) : okV n (b.toNat, a) := by
  unfold dcK at hd
  by_cases q0 : g0 = 0
  · simp only [if_pos q0, Bool.and_eq_true, decide_eq_true_eq, beq_iff_eq] at hd
    obtain ⟨⟨rfl, -, -⟩, hr⟩ := hd
    exact okV_i (by unfold in32; omega)
  rw [if_neg q0] at hd
  by_cases q1 : g0 = 1
  · simp only [if_pos q1, Bool.and_eq_true, decide_eq_true_eq, beq_iff_eq] at hd
    obtain ⟨⟨rfl, -, -⟩, hr⟩ := hd
    exact okV_i (by unfold in32; omega)
  rw [if_neg q1] at hd
  by_cases q2 : g0 = 2
  · simp only [if_pos q2, Bool.and_eq_true, decide_eq_true_eq, beq_iff_eq] at hd
    obtain ⟨⟨rfl, -, -⟩, hr⟩ := hd
    exact okV_i (by unfold in32; omega)
  rw [if_neg q2] at hd
  by_cases q3 : g0 = 3
  · simp only [if_pos q3, Bool.and_eq_true, decide_eq_true_eq, beq_iff_eq] at hd
    obtain ⟨⟨rfl, -, -⟩, -, hr⟩ := hd
    exact okV_i hr
  rw [if_neg q3] at hd
  by_cases q4 : g0 = 4
  · simp only [if_pos q4, Bool.and_eq_true, decide_eq_true_eq, beq_iff_eq] at hd
    obtain ⟨⟨rfl, -, -⟩, -, hr⟩ := hd
    exact okV_i hr
  rw [if_neg q4] at hd
  by_cases q5 : g0 = 5
  · simp only [if_pos q5, Bool.and_eq_true, decide_eq_true_eq, beq_iff_eq] at hd
    obtain ⟨⟨rfl, -, -⟩, hr⟩ := hd
    exact okV_l (by unfold in64; omega)
  rw [if_neg q5] at hd
  by_cases q6 : g0 = 6
  · simp only [if_pos q6, Bool.and_eq_true, decide_eq_true_eq, beq_iff_eq] at hd
    obtain ⟨⟨rfl, -, -⟩, -, hr⟩ := hd
    exact okV_l hr
  rw [if_neg q6] at hd
  by_cases q7 : g0 = 7
  · simp only [if_pos q7, Bool.and_eq_true, decide_eq_true_eq, beq_iff_eq] at hd
    obtain ⟨⟨rfl, -, -⟩, rfl⟩ := hd
    exact okV_r (by omega)
  rw [if_neg q7] at hd
  by_cases q8 : g0 = 8
  · rw [if_pos q8] at hd
    simp only [Bool.and_eq_true, decide_eq_true_eq, beq_iff_eq] at hd
    obtain ⟨⟨rfl, -, -⟩, rfl, -⟩ := hd
    exact okV_r (by omega)
  rw [if_neg q8] at hd
  by_cases q10 : g0 = 10
  · rw [if_pos q10] at hd
    simp only [Bool.and_eq_true, decide_eq_true_eq, beq_iff_eq] at hd
    obtain ⟨⟨rfl, -, -⟩, rfl, -⟩ := hd
    exact okV_r (by omega)
  rw [if_neg q10] at hd
  by_cases q9 : g0 = 9
  · simp only [if_pos q9, Bool.and_eq_true, decide_eq_true_eq, beq_iff_eq] at hd
    obtain ⟨⟨rfl, -, -⟩, ⟨rfl, -⟩, -⟩ := hd
    exact okV_r (by omega)
  · rw [if_neg q9] at hd
    cases hd
theorem pst_ok {own : String} {cc : ByteArray} {pc op nx n : Nat} {a b : Int} {os : List Int} {ls st ls' st' : List Vl} (hd : dcP own cc pc op nx a b os = true) (hp : pst op a b ls st = some (ls', st')) (hl : okL n ls) (hs : okS n st) : okL n ls' ∧ okS n st' ∧ ls'.length = ls.length := by
  unfold pst at hp
  unfold dcP at hd
  by_cases h0 : op = 0
  · rw [if_pos h0] at hp hd
    cases hp
    exact ⟨hl, okS_cons (dcK_ok hd) hs, rfl⟩
  rw [if_neg h0] at hp hd
  by_cases h1 : op = 1
  · rw [if_pos h1] at hp hd
    have hd2 := (dcV_of hd).2
    cases hv : ls[a.toNat]? with
    | none => rw [hv] at hp; cases hp
    | some v =>
      rw [hv] at hp
      dsimp only at hp
      by_cases hb2 : v.1 = b.toNat
      · rw [if_pos hb2] at hp
        cases hp
        have h9 : v.1 ≠ 9 := by omega
        exact ⟨hl, okS_cons ((hl v (List.mem_of_getElem? hv)).resolve_left h9) hs, rfl⟩
      · rw [if_neg hb2] at hp
        cases hp
  rw [if_neg h1] at hp hd
  by_cases h2 : op = 2
  · rw [if_pos h2] at hp
    cases st with
    | nil => cases hp
    | cons v r =>
      dsimp only at hp
      by_cases hb2 : v.1 = b.toNat ∧ a.toNat + (if v.1 = 1 then 1 else 0) < ls.length
      · rw [if_pos hb2] at hp
        cases hp
        exact ⟨okL_store hl (okS_hd hs), okS_tl hs, storeL_len _ _ _⟩
      · rw [if_neg hb2] at hp
        cases hp
  rw [if_neg h2] at hp
  by_cases h3 : op = 3
  · rw [if_pos h3] at hp
    cases hv : ls[a.toNat]? with
    | none => rw [hv] at hp; cases hp
    | some v =>
      rw [hv] at hp
      dsimp only at hp
      by_cases hv0 : v.1 = 0
      · rw [if_pos hv0] at hp
        cases hp
        exact ⟨okL_store hl (okV_i (w32_in _)), hs, storeL_len _ _ _⟩
      · rw [if_neg hv0] at hp
        cases hp
  rw [if_neg h3] at hp
  by_cases h4 : op = 4
  · rw [if_pos h4] at hp
    match st, hp, hs with
    | (0, y) :: (0, x) :: r, hp, hs =>
      change (match ibin a.toNat x y with | some z => some (ls, (0, z) :: r) | none => none) = some (ls', st') at hp
      cases hz : ibin a.toNat x y with
      | none => rw [hz] at hp; cases hp
      | some z =>
        rw [hz] at hp
        cases hp
        exact ⟨hl, okS_cons (okV_i (ibin_in (okS_hd (okS_tl hs)).int hz)) (okS_tl (okS_tl hs)), rfl⟩
  rw [if_neg h4] at hp
  by_cases h5 : op = 5
  · rw [if_pos h5] at hp
    match st, hp, hs with
    | (1, y) :: (1, x) :: r, hp, hs =>
      change (match lbin a.toNat x y with | some z => some (ls, (1, z) :: r) | none => none) = some (ls', st') at hp
      cases hz : lbin a.toNat x y with
      | none => rw [hz] at hp; cases hp
      | some z =>
        rw [hz] at hp
        cases hp
        exact ⟨hl, okS_cons (okV_l (lbin_in hz)) (okS_tl (okS_tl hs)), rfl⟩
  rw [if_neg h5] at hp
  by_cases h6 : op = 6
  · rw [if_pos h6] at hp
    match st, hp, hs with
    | (0, x) :: r, hp, hs =>
      cases hp
      exact ⟨hl, okS_cons (okV_i (w32_in _)) (okS_tl hs), rfl⟩
  rw [if_neg h6] at hp
  by_cases h7 : op = 7
  · rw [if_pos h7] at hp
    match st, hp, hs with
    | (0, x) :: r, hp, hs =>
      cases hp
      refine ⟨hl, okS_cons (okV_l ?_) (okS_tl hs), rfl⟩
      have := (okS_hd hs).int
      unfold in32 at this
      unfold in64
      omega
  rw [if_neg h7] at hp
  by_cases h8 : op = 8
  · rw [if_pos h8] at hp
    match st, hp, hs with
    | (1, x) :: r, hp, hs =>
      cases hp
      exact ⟨hl, okS_cons (okV_i (w32_in _)) (okS_tl hs), rfl⟩
  rw [if_neg h8] at hp
  by_cases h9 : op = 9
  · rw [if_pos h9] at hp
    match st, hp, hs with
    | (0, x) :: r, hp, hs =>
      cases hp
      exact ⟨hl, okS_cons (okV_i (by unfold in32 i_byt; omega)) (okS_tl hs), rfl⟩
  rw [if_neg h9] at hp
  by_cases h10 : op = 10
  · rw [if_pos h10] at hp
    match st, hp, hs with
    | (0, x) :: r, hp, hs =>
      cases hp
      exact ⟨hl, okS_cons (okV_i (by unfold in32 i_chr; omega)) (okS_tl hs), rfl⟩
  rw [if_neg h10] at hp
  by_cases h11 : op = 11
  · rw [if_pos h11] at hp
    match st, hp, hs with
    | (1, y) :: (1, x) :: r, hp, hs =>
      cases hp
      refine ⟨hl, okS_cons (okV_i ?_) (okS_tl (okS_tl hs)), rfl⟩
      unfold l_cmp in32
      repeat' split
      all_goals omega
  rw [if_neg h11] at hp
  by_cases h12 : op = 12
  · rw [if_pos h12] at hp
    match st, hp, hs with
    | v :: r, hp, hs =>
      dsimp only at hp
      by_cases hc : v.1 = 1
      · rw [if_pos hc] at hp
        cases hp
      · rw [if_neg hc] at hp
        cases hp
        exact ⟨hl, okS_cons (okS_hd hs) hs, rfl⟩
  rw [if_neg h12] at hp
  by_cases h13 : op = 13
  · rw [if_pos h13] at hp
    match st, hp, hs with
    | v :: u :: r, hp, hs =>
      dsimp only at hp
      by_cases hc : v.1 = 1 ∨ u.1 = 1
      · rw [if_pos hc] at hp
        cases hp
      · rw [if_neg hc] at hp
        cases hp
        exact ⟨hl, okS_cons (okS_hd hs) (okS_cons (okS_hd (okS_tl hs)) (okS_cons (okS_hd hs) (okS_tl (okS_tl hs)))), rfl⟩
  rw [if_neg h13] at hp
  by_cases h14 : op = 14
  · rw [if_pos h14] at hp
    match st, hp, hs with
    | v :: u :: r, hp, hs =>
      dsimp only at hp
      by_cases hc : v.1 = 1 ∨ u.1 = 1
      · rw [if_pos hc] at hp
        cases hp
      · rw [if_neg hc] at hp
        cases hp
        exact ⟨hl, okS_cons (okS_hd hs) (okS_cons (okS_hd (okS_tl hs)) hs), rfl⟩
  rw [if_neg h14] at hp
  by_cases h15 : op = 15
  · rw [if_pos h15] at hp
    match st, hp, hs with
    | v :: r, hp, hs =>
      dsimp only at hp
      by_cases hc : v.1 = 1
      · rw [if_pos hc] at hp
        cases hp
      · rw [if_neg hc] at hp
        cases hp
        exact ⟨hl, okS_tl hs, rfl⟩
  rw [if_neg h15] at hp
  cases hp
theorem bst_ok {op nx n t : Nat} {a b : Int} {os : List Int} {st st' : List Vl} (hp : bst op nx a b os st = some (t, st')) (hs : okS n st) : okS n st' := by
  unfold bst at hp
  by_cases q0 : op = 20
  · rw [if_pos q0] at hp
    match st, hp, hs with
    | (0, x) :: r, hp, hs => cases hp; exact okS_tl hs
  rw [if_neg q0] at hp
  by_cases q1 : op = 21
  · rw [if_pos q1] at hp
    match st, hp, hs with
    | (0, y) :: (0, x) :: r, hp, hs => cases hp; exact okS_tl (okS_tl hs)
  rw [if_neg q1] at hp
  by_cases q2 : op = 22
  · rw [if_pos q2] at hp
    match st, hp, hs with
    | (2, x) :: r, hp, hs =>
      change (if x = 0 ∨ 0 < x then some (if cnd b.toNat x 0 then a.toNat else nx, r) else none) = some (t, st') at hp
      by_cases hc : x = 0 ∨ 0 < x
      · rw [if_pos hc] at hp; cases hp; exact okS_tl hs
      · rw [if_neg hc] at hp; cases hp
  rw [if_neg q2] at hp
  by_cases q3 : op = 23
  · rw [if_pos q3] at hp
    match st, hp, hs with
    | (2, y) :: (2, x) :: r, hp, hs =>
      change (if (-2 ≤ x ∧ -2 ≤ y ∧ x ≠ -1 ∧ y ≠ -1) ∨ (x = -4 ∧ y = -4) then some (if cnd b.toNat x y then a.toNat else nx, r) else none) = some (t, st') at hp
      by_cases hc : (-2 ≤ x ∧ -2 ≤ y ∧ x ≠ -1 ∧ y ≠ -1) ∨ (x = -4 ∧ y = -4)
      · rw [if_pos hc] at hp; cases hp; exact okS_tl (okS_tl hs)
      · rw [if_neg hc] at hp; cases hp
  rw [if_neg q3] at hp
  by_cases q4 : op = 24
  · rw [if_pos q4] at hp
    cases hp
    exact hs
  rw [if_neg q4] at hp
  by_cases q5 : op = 25
  · rw [if_pos q5] at hp
    match st, hp, hs with
    | (0, x) :: r, hp, hs => cases hp; exact okS_tl hs
  rw [if_neg q5] at hp
  cases hp
theorem stxt_ok : ∀ l ∈ stxt, l.length ≤ 1000 ∧ ∀ x ∈ l, 0 ≤ x ∧ x ≤ 255 := by decide +kernel
theorem txt_ok {r : Int} {l : List Int} (h : txt stxt r = some l) : l.length ≤ 1000 ∧ ∀ x ∈ l, 0 ≤ x ∧ x ≤ 255 := by
  unfold txt at h
  by_cases h1 : r ≤ -100
  · rw [if_pos h1] at h
    exact stxt_ok l (List.mem_of_getElem? h)
  · rw [if_neg h1] at h
    cases h
theorem rst_ok {sc : List Int} {hp : Hp} {op : Nat} {a b : Int} {st st' : List Vl} (hsc : (∀ x ∈ sc, in32 x) ∧ sc.length ≤ 100000) (hw : wfH hp) (ha32 : op = 32 → 20 ≤ a) (h : rst sc stxt op a b hp st = some st') (hs : okS hp.length st) : okS hp.length st' := by
  unfold rst at h
  by_cases q0 : op = 30
  · rw [if_pos q0] at h
    match st, h, hs with
    | (2, r) :: rest, h, hs =>
      change (match cel hp r with
        | some (kd, l) => if (kd : Int) = a then (match l[b.toNat]? with
          | some x => some ((tg (kty kd b.toNat), x) :: rest)
          | none => none) else none
        | none => none) = some st' at h
      cases hc : cel hp r with
      | none => rw [hc] at h; cases h
      | some e =>
        obtain ⟨kd, l⟩ := e
        rw [hc] at h
        dsimp only at h
        by_cases hk : (kd : Int) = a
        · rw [if_pos hk] at h
          cases hv : l[b.toNat]? with
          | none => rw [hv] at h; cases h
          | some x =>
            rw [hv] at h
            have h := (Option.some.inj h).symm
            subst h
            exact okS_cons (okV_of ((hw.at (cel_of hc).2.1).2.2 _ _ hv)) (okS_tl hs)
        · rw [if_neg hk] at h
          cases h
  rw [if_neg q0] at h
  by_cases q1 : op = 31
  · rw [if_pos q1] at h
    match st, h, hs with
    | (2, r) :: rest, h, hs =>
      change (if r = -1 then some ((0, (sc.length : Int)) :: rest) else if r = -2 then some ((0, 0) :: rest) else if r ≤ -100 then (match txt stxt r with
          | some l => some ((0, (l.length : Int)) :: rest)
          | none => none)
        else (match cel hp r with
        | some (kd, l) => if 20 ≤ kd then some ((0, (l.length : Int)) :: rest) else none
        | none => none)) = some st' at h
      by_cases r1 : r = -1
      · rw [if_pos r1] at h
        have h := (Option.some.inj h).symm
        subst h
        exact okS_cons (okV_i (by have := hsc.2; unfold in32; omega)) (okS_tl hs)
      rw [if_neg r1] at h
      by_cases r2 : r = -2
      · rw [if_pos r2] at h
        have h := (Option.some.inj h).symm
        subst h
        exact okS_cons (okV_i (by unfold in32; omega)) (okS_tl hs)
      rw [if_neg r2] at h
      by_cases r3 : r ≤ -100
      · rw [if_pos r3] at h
        cases hc : txt stxt r with
        | none => rw [hc] at h; cases h
        | some l =>
          rw [hc] at h
          have h := (Option.some.inj h).symm
          subst h
          exact okS_cons (okV_i (by have := (txt_ok hc).1; unfold in32; omega)) (okS_tl hs)
      rw [if_neg r3] at h
      cases hc : cel hp r with
      | none => rw [hc] at h; cases h
      | some e =>
        obtain ⟨kd, l⟩ := e
        rw [hc] at h
        dsimp only at h
        by_cases hk : 20 ≤ kd
        · rw [if_pos hk] at h
          have h := (Option.some.inj h).symm
          subst h
          have hC := (hw.at (cel_of hc).2.1).2.1 (show 14 ≤ kd by omega)
          exact okS_cons (okV_i (by have := hC.2.2; dsimp only at this; unfold in32; omega)) (okS_tl hs)
        · rw [if_neg hk] at h
          cases h
  rw [if_neg q1] at h
  by_cases q2 : op = 32
  · rw [if_pos q2] at h
    match st, h, hs with
    | (0, i) :: (2, r) :: rest, h, hs =>
      change (if i < 0 then none else if r = -1 then (if a = 20 then (match sc[i.toNat]? with
        | some x => some ((0, x) :: rest)
        | none => none) else none) else if r ≤ -100 then (if a = 21 then (match txt stxt r with
        | some l => (match l[i.toNat]? with
          | some x => some ((0, x) :: rest)
          | none => none)
        | none => none) else none)
      else (match cel hp r with
      | some (kd, l) => if (kd : Int) = a ∨ (a = 21 ∧ kd = 22) ∨ (a = 24 ∧ 24 ≤ kd) then (match l[i.toNat]? with
        | some x => some ((tg (kty kd 0), x) :: rest)
        | none => none) else none
      | none => none)) = some st' at h
      have ht := okS_tl (okS_tl hs)
      by_cases i0 : i < 0
      · rw [if_pos i0] at h
        cases h
      rw [if_neg i0] at h
      by_cases r1 : r = -1
      · rw [if_pos r1] at h
        by_cases ha : a = 20
        · rw [if_pos ha] at h
          cases hv : sc[i.toNat]? with
          | none => rw [hv] at h; cases h
          | some x =>
            rw [hv] at h
            have h := (Option.some.inj h).symm
            subst h
            exact okS_cons (okV_i (hsc.1 x (List.mem_of_getElem? hv))) ht
        · rw [if_neg ha] at h
          cases h
      rw [if_neg r1] at h
      by_cases r3 : r ≤ -100
      · rw [if_pos r3] at h
        by_cases ha : a = 21
        · rw [if_pos ha] at h
          cases hc : txt stxt r with
          | none => rw [hc] at h; cases h
          | some l =>
            rw [hc] at h
            dsimp only at h
            cases hv : l[i.toNat]? with
            | none => rw [hv] at h; cases h
            | some x =>
              rw [hv] at h
              have h := (Option.some.inj h).symm
              subst h
              exact okS_cons (okV_i (by have := (txt_ok hc).2 x (List.mem_of_getElem? hv); unfold in32; omega)) ht
        · rw [if_neg ha] at h
          cases h
      rw [if_neg r3] at h
      cases hc : cel hp r with
      | none => rw [hc] at h; cases h
      | some e =>
        obtain ⟨kd, l⟩ := e
        rw [hc] at h
        dsimp only at h
        by_cases hk : (kd : Int) = a ∨ (a = 21 ∧ kd = 22) ∨ (a = 24 ∧ 24 ≤ kd)
        · rw [if_pos hk] at h
          cases hv : l[i.toNat]? with
          | none => rw [hv] at h; cases h
          | some x =>
            rw [hv] at h
            have h := (Option.some.inj h).symm
            subst h
            have h3 := (hw.at (cel_of hc).2.1).2.2 _ _ hv
            by_cases h14 : 14 ≤ kd
            · have e0 := kty_arr h14 i.toNat 0
              dsimp only at h3
              rw [← e0] at h3
              exact okS_cons (okV_of h3) ht
            · have := ha32 q2
              omega
        · rw [if_neg hk] at h
          cases h
  rw [if_neg q2] at h
  by_cases q3 : op = 33
  · rw [if_pos q3] at h
    match st, h, hs with
    | (2, r) :: rest, h, hs =>
      change (if r ≤ -10 ∧ -33 < r then (if b = 0 then some ((2, r - 90) :: rest) else some ((0, 0) :: rest)) else none) = some st' at h
      by_cases hr : r ≤ -10 ∧ -33 < r
      · rw [if_pos hr] at h
        by_cases b0 : b = 0
        · rw [if_pos b0] at h
          have h := (Option.some.inj h).symm
          subst h
          exact okS_cons (okV_r (by omega)) (okS_tl hs)
        · rw [if_neg b0] at h
          have h := (Option.some.inj h).symm
          subst h
          exact okS_cons (okV_i (by unfold in32; omega)) (okS_tl hs)
      · rw [if_neg hr] at h
        cases h
  rw [if_neg q3] at h
  by_cases q4 : op = 34
  · rw [if_pos q4] at h
    match st, h, hs with
    | (2, r) :: rest, h, hs =>
      change (if r = 0 then some ((2, r) :: rest) else (match cel hp r with
        | some (kd, _) => if (kd : Int) = a then some ((2, r) :: rest) else none
        | none => none)) = some st' at h
      by_cases r0 : r = 0
      · rw [if_pos r0] at h
        have h := (Option.some.inj h).symm
        subst h
        exact hs
      rw [if_neg r0] at h
      cases hc : cel hp r with
      | none => rw [hc] at h; cases h
      | some e =>
        obtain ⟨kd, l⟩ := e
        rw [hc] at h
        dsimp only at h
        by_cases hk : (kd : Int) = a
        · rw [if_pos hk] at h
          have h := (Option.some.inj h).symm
          subst h
          exact hs
        · rw [if_neg hk] at h
          cases h
  rw [if_neg q4] at h
  by_cases q5 : op = 35
  · rw [if_pos q5] at h
    match st, h, hs with
    | (2, r) :: rest, h, hs =>
      change (if 0 < r ∧ wds rest ≤ 8 then some rest else none) = some st' at h
      by_cases r0 : 0 < r ∧ wds rest ≤ 8
      · rw [if_pos r0] at h
        have h := (Option.some.inj h).symm
        subst h
        exact okS_tl hs
      · rw [if_neg r0] at h
        cases h
  rw [if_neg q5] at h
  by_cases q6 : op = 36
  · rw [if_pos q6] at h
    match st, h, hs with
    | (0, y) :: (0, x) :: rest, h, hs =>
      change (if wds rest ≤ 8 then some ((0, mth a x y) :: rest) else none) = some st' at h
      by_cases hwd : wds rest ≤ 8
      · rw [if_pos hwd] at h
        have h := (Option.some.inj h).symm
        subst h
        exact okS_cons (okV_i (mth_in (hs (0, x) (by simp)).int (hs (0, y) (by simp)).int)) (okS_tl (okS_tl hs))
      · rw [if_neg hwd] at h
        cases h
  rw [if_neg q6] at h
  by_cases q7 : op = 37
  · rw [if_pos q7] at h
    match st, h, hs with
    | (1, y) :: (1, x) :: rest, h, hs =>
      change (if wds rest ≤ 8 then some ((1, mth a x y) :: rest) else none) = some st' at h
      by_cases hwd : wds rest ≤ 8
      · rw [if_pos hwd] at h
        have h := (Option.some.inj h).symm
        subst h
        exact okS_cons (okV_l (mth_in64 (hs (1, x) (by simp)).long (hs (1, y) (by simp)).long)) (okS_tl (okS_tl hs))
      · rw [if_neg hwd] at h
        cases h
  rw [if_neg q7] at h
  by_cases q8 : op = 38
  · rw [if_pos q8] at h
    have h := (Option.some.inj h).symm
    subst h
    by_cases h0 : a = 0
    · rw [if_pos h0]
      exact okS_cons (okV_i (by unfold in32; omega)) hs
    · rw [if_neg h0]
      exact okS_cons (okV_r (by omega)) hs
  rw [if_neg q8] at h
  by_cases q9 : op = 39
  · rw [if_pos q9] at h
    by_cases h0 : a = 0
    · rw [if_pos h0] at h
      have h := (Option.some.inj h).symm
      subst h
      exact okS_cons (okV_r (by omega)) hs
    · rw [if_neg h0] at h
      match st, h, hs with
      | (2, r) :: rest, h, hs =>
        change (match cel hp r with
          | some (kd, _) => if kd = 25 ∧ wds rest ≤ 8 then some ((2, -4) :: rest) else none
          | none => none) = some st' at h
        cases hc : cel hp r with
        | none => rw [hc] at h; cases h
        | some e =>
          obtain ⟨kd, l⟩ := e
          rw [hc] at h
          dsimp only at h
          by_cases hk : kd = 25 ∧ wds rest ≤ 8
          · rw [if_pos hk] at h
            have h := (Option.some.inj h).symm
            subst h
            exact okS_cons (okV_r (by omega)) (okS_tl hs)
          · rw [if_neg hk] at h
            cases h
  rw [if_neg q9] at h
  cases h
theorem dcH_32 {own : String} {cc : ByteArray} {pc op nx : Nat} {a b : Int} {os : List Int} (hd : dcH own cc pc op nx a b os = true) : op = 32 → 20 ≤ a := by
  rintro rfl
  unfold dcH at hd
  rw [if_neg (by decide), if_neg (by decide), if_pos rfl] at hd
  by_cases a0 : a = 20
  · omega
  rw [if_neg a0] at hd
  by_cases a1 : a = 21
  · omega
  rw [if_neg a1] at hd
  by_cases a3 : a = 23
  · omega
  rw [if_neg a3, Bool.and_eq_true, beq_iff_eq] at hd
  omega
/-- heaps grow; the stack behind a writing instruction is in its ranges -/
theorem wst_ok {hp hp' : Hp} {op : Nat} {a b : Int} {st st' : List Vl} (h : wst op a b hp st = some (hp', st')) : (okS hp.length st → okS hp'.length st') ∧ hp.length ≤ hp'.length ∧ sz hp ≤ sz hp' := by
  unfold wst at h
  have nw : ∀ {P : Prop} {es : Hp} {rest : List Vl}, 1 ≤ es.length → (P → okS hp.length rest) → (P → okS (hp ++ es).length ((2, ((hp.length + 1 : Nat) : Int)) :: rest)) ∧ hp.length ≤ (hp ++ es).length ∧ sz hp ≤ sz (hp ++ es) := by
    intro P es rest he hr
    have hl : (hp ++ es).length = hp.length + es.length := List.length_append
    refine ⟨fun hs => okS_cons (okV_r (by omega)) ((hr hs).mono (by omega)), by omega, by rw [sz_app]; omega⟩
  by_cases q0 : op = 40
  · rw [if_pos q0] at h
    match st, h with
    | v :: (2, r) :: rest, h =>
      change (match cel hp r with
        | some (kd, l) => if (kd : Int) = a ∧ b.toNat < l.length then (match keptF (kty kd b.toNat) v with
          | some x => some (hp.set (r.toNat - 1) (kd, l.set b.toNat x), rest)
          | none => none) else none
        | none => none) = some (hp', st') at h
      cases hc : cel hp r with
      | none => rw [hc] at h; cases h
      | some q =>
        obtain ⟨kd, lc⟩ := q
        rw [hc] at h
        dsimp only at h
        by_cases hk : (kd : Int) = a ∧ b.toNat < lc.length
        · rw [if_pos hk] at h
          cases hkf : keptF (kty kd b.toNat) v with
          | none => rw [hkf] at h; cases h
          | some x =>
            rw [hkf] at h
            have h := Prod.ext_iff.mp (Option.some.inj h)
            obtain ⟨e1, e2⟩ := h
            dsimp only at e1 e2
            subst e1 e2
            rw [List.length_set, sz_set (cel_of hc).2.1 (by simp)]
            exact ⟨fun hs => okS_tl (okS_tl hs), Nat.le_refl _, Nat.le_refl _⟩
        · rw [if_neg hk] at h
          cases h
  rw [if_neg q0] at h
  by_cases q1 : op = 41
  · rw [if_pos q1] at h
    match st, h with
    | v :: (0, i) :: (2, r) :: rest, h =>
      change (match cel hp r with
        | some (kd, l) => if 0 ≤ i ∧ i.toNat < l.length ∧ ((kd : Int) = a ∨ (a = 21 ∧ kd = 22) ∨ (a = 24 ∧ 24 ≤ kd)) then (match kept hp kd v with
          | some x => some (hp.set (r.toNat - 1) (kd, l.set i.toNat x), rest)
          | none => none) else none
        | none => none) = some (hp', st') at h
      cases hc : cel hp r with
      | none => rw [hc] at h; cases h
      | some q =>
        obtain ⟨kd, lc⟩ := q
        rw [hc] at h
        dsimp only at h
        by_cases hk : 0 ≤ i ∧ i.toNat < lc.length ∧ ((kd : Int) = a ∨ (a = 21 ∧ kd = 22) ∨ (a = 24 ∧ 24 ≤ kd))
        · rw [if_pos hk] at h
          cases hkf : kept hp kd v with
          | none => rw [hkf] at h; cases h
          | some x =>
            rw [hkf] at h
            have h := Prod.ext_iff.mp (Option.some.inj h)
            obtain ⟨e1, e2⟩ := h
            dsimp only at e1 e2
            subst e1 e2
            rw [List.length_set, sz_set (cel_of hc).2.1 (by simp)]
            exact ⟨fun hs => okS_tl (okS_tl (okS_tl hs)), Nat.le_refl _, Nat.le_refl _⟩
        · rw [if_neg hk] at h
          cases h
  rw [if_neg q1] at h
  by_cases q2 : op = 42
  · rw [if_pos q2] at h
    have h := Prod.ext_iff.mp (Option.some.inj h)
    obtain ⟨e1, e2⟩ := h
    dsimp only at e1 e2
    subst e1 e2
    exact nw (by simp) (fun hs => hs)
  rw [if_neg q2] at h
  by_cases q3 : op = 43
  · rw [if_pos q3] at h
    match st, h with
    | (0, n) :: rest, h =>
      change (if 0 ≤ n ∧ n ≤ 100000 then some (hp ++ [(a.toNat, List.replicate n.toNat 0)], (2, ((hp.length + 1 : Nat) : Int)) :: rest) else none) = some (hp', st') at h
      by_cases hn : 0 ≤ n ∧ n ≤ 100000
      · rw [if_pos hn] at h
        have h := Prod.ext_iff.mp (Option.some.inj h)
        obtain ⟨e1, e2⟩ := h
        dsimp only at e1 e2
        subst e1 e2
        exact nw (by simp) (fun hs => okS_tl hs)
      · rw [if_neg hn] at h
        cases h
  rw [if_neg q3] at h
  by_cases q4 : op = 44
  · rw [if_pos q4] at h
    match st, h with
    | (0, n) :: rest, h =>
      change (if 0 ≤ n ∧ n ≤ 100000 then some (hp ++ [(a.toNat, List.replicate n.toNat 0)], (2, ((hp.length + 1 : Nat) : Int)) :: rest) else none) = some (hp', st') at h
      by_cases hn : 0 ≤ n ∧ n ≤ 100000
      · rw [if_pos hn] at h
        have h := Prod.ext_iff.mp (Option.some.inj h)
        obtain ⟨e1, e2⟩ := h
        dsimp only at e1 e2
        subst e1 e2
        exact nw (by simp) (fun hs => okS_tl hs)
      · rw [if_neg hn] at h
        cases h
  rw [if_neg q4] at h
  by_cases q5 : op = 45
  · rw [if_pos q5] at h
    match st, h with
    | (0, k) :: (0, n) :: rest, h =>
      change (if 0 ≤ n ∧ n ≤ 1000 ∧ 0 ≤ k ∧ k ≤ 1000 then some (hp ++ (a.toNat, refsFrom (hp.length + 1) n.toNat 1) :: List.replicate n.toNat (b.toNat, List.replicate k.toNat 0), (2, ((hp.length + 1 : Nat) : Int)) :: rest) else none) = some (hp', st') at h
      by_cases hn : 0 ≤ n ∧ n ≤ 1000 ∧ 0 ≤ k ∧ k ≤ 1000
      · rw [if_pos hn] at h
        have h := Prod.ext_iff.mp (Option.some.inj h)
        obtain ⟨e1, e2⟩ := h
        dsimp only at e1 e2
        subst e1 e2
        exact nw (by simp) (fun hs => okS_tl (okS_tl hs))
      · rw [if_neg hn] at h
        cases h
  rw [if_neg q5] at h
  by_cases q6 : op = 46
  · rw [if_pos q6] at h
    match st, h with
    | (0, q) :: (0, k) :: (0, n) :: rest, h =>
      change (if 0 ≤ n ∧ n ≤ 1000 ∧ 0 ≤ k ∧ k ≤ 1000 ∧ 0 ≤ q ∧ q ≤ 1000 then some (hp ++ (a.toNat, refsFrom (hp.length + 1) n.toNat (k.toNat + 1)) :: (List.range n.toNat).flatMap (fun i => (b.toNat, refsFrom (hp.length + 2 + (k.toNat + 1) * i) k.toNat 1) :: List.replicate k.toNat (20, List.replicate q.toNat 0)), (2, ((hp.length + 1 : Nat) : Int)) :: rest) else none) = some (hp', st') at h
      by_cases hn : 0 ≤ n ∧ n ≤ 1000 ∧ 0 ≤ k ∧ k ≤ 1000 ∧ 0 ≤ q ∧ q ≤ 1000
      · rw [if_pos hn] at h
        have h := Prod.ext_iff.mp (Option.some.inj h)
        obtain ⟨e1, e2⟩ := h
        dsimp only at e1 e2
        subst e1 e2
        exact nw (by simp) (fun hs => okS_tl (okS_tl (okS_tl hs)))
      · rw [if_neg hn] at h
        cases h
  rw [if_neg q6] at h
  by_cases q7 : op = 47
  · rw [if_pos q7] at h
    match st, h with
    | (0, n) :: (0, dp) :: (2, d) :: (0, sp) :: (2, r) :: rest, h =>
      change (match cel hp r, cel hp d with
        | some (ks, ls), some (kd, ld) => if ((ks = 20 ∧ kd = 20) ∨ (ks = 25 ∧ kd = 25 ∧ oneK hp ls sp.toNat n.toNat = true)) ∧ wds rest ≤ 8 ∧ 0 ≤ n ∧ 0 ≤ dp ∧ 0 ≤ sp ∧ sp + n ≤ ls.length ∧ dp + n ≤ ld.length then
            some (hp.set (d.toNat - 1) (kd, cpyL ls ld sp.toNat dp.toNat n.toNat), rest) else none
        | _, _ => none) = some (hp', st') at h
      cases hcs : cel hp r with
      | none => rw [hcs] at h; cases h
      | some qs =>
        cases hcd : cel hp d with
        | none => rw [hcs, hcd] at h; cases h
        | some qd =>
          obtain ⟨ks, lsrc⟩ := qs
          obtain ⟨kd, ld⟩ := qd
          rw [hcs, hcd] at h
          dsimp only at h
          by_cases hk : ((ks = 20 ∧ kd = 20) ∨ (ks = 25 ∧ kd = 25 ∧ oneK hp lsrc sp.toNat n.toNat = true)) ∧ wds rest ≤ 8 ∧ 0 ≤ n ∧ 0 ≤ dp ∧ 0 ≤ sp ∧ sp + n ≤ lsrc.length ∧ dp + n ≤ ld.length
          · rw [if_pos hk] at h
            obtain ⟨-, k1, k2, k3, k4, k5, k6⟩ := hk
            have h := Prod.ext_iff.mp (Option.some.inj h)
            obtain ⟨e1, e2⟩ := h
            dsimp only at e1 e2
            subst e1 e2
            rw [List.length_set, sz_set (cel_of hcd).2.1 (cpyL_len (by omega) (by omega))]
            exact ⟨fun hs => okS_tl (okS_tl (okS_tl (okS_tl (okS_tl hs)))), Nat.le_refl _, Nat.le_refl _⟩
          · rw [if_neg hk] at h
            cases h
  rw [if_neg q7] at h
  by_cases q8 : op = 48
  · rw [if_pos q8] at h
    match st, h with
    | (2, r) :: rest, h =>
      change (match cel hp r with
        | some (kd, l) => if kd = 20 ∧ wds rest ≤ 8 then some (hp ++ [(kd, l)], (2, ((hp.length + 1 : Nat) : Int)) :: rest) else none
        | none => none) = some (hp', st') at h
      cases hc : cel hp r with
      | none => rw [hc] at h; cases h
      | some q =>
        obtain ⟨kd, lc⟩ := q
        rw [hc] at h
        dsimp only at h
        by_cases hk : kd = 20 ∧ wds rest ≤ 8
        · rw [if_pos hk] at h
          have h := Prod.ext_iff.mp (Option.some.inj h)
          obtain ⟨e1, e2⟩ := h
          dsimp only at e1 e2
          subst e1 e2
          exact nw (by simp) (fun hs => okS_tl hs)
        · rw [if_neg hk] at h
          cases h
  rw [if_neg q8] at h
  cases h
end
section
/-! what a method leans on, carried into its callees -/
def lw_g : List Cond := lw_tbl.filter goodWord
def lw_odd : List Cond := lw_use.filter (fun w => !goodWord w)
theorem usable_good {w : Cond} (h : goodWord w = true) : usable w = true := by
  cases w <;> first | rfl | exact h
theorem g_use {w : Cond} (h : w ∈ lw_g) : w ∈ lw_use := by
  have h1 := List.mem_filter.mp h
  exact List.mem_filter.mpr ⟨h1.1, usable_good h1.2⟩
theorem use_split {w : Cond} (h : w ∈ lw_use) : w ∈ lw_g ∨ w ∈ lw_odd := by
  by_cases hg : goodWord w = true
  · exact Or.inl (List.mem_filter.mpr ⟨(List.mem_filter.mp h).1, hg⟩)
  · exact Or.inr (List.mem_filter.mpr ⟨h, by simpa using hg⟩)
theorem usable_cases {w : Cond} (h : usable w = true) : (∃ a b, w = .castable a b) ∨ (∃ a b c d, w = .methodLinkNest a b c d) ∨ (∃ ty, w = .arrayOver ty) ∨ goodWord w = true := by
  cases w <;> first
    | exact Or.inl ⟨_, _, rfl⟩
    | exact Or.inr (Or.inl ⟨_, _, _, _, rfl⟩)
    | exact Or.inr (Or.inr (Or.inl ⟨_, rfl⟩))
    | exact Or.inr (Or.inr (Or.inr h))
theorem odd_cases {w : Cond} (hw : w ∈ lw_odd) : (∃ a b, w = .castable a b) ∨ (∃ a b c d, w = .methodLinkNest a b c d) ∨ (∃ ty, w = .arrayOver ty) := by
  obtain ⟨h1, h2⟩ := List.mem_filter.mp hw
  rcases usable_cases (List.mem_filter.mp h1).2 with h | h | h | h
  · exact Or.inl h
  · exact Or.inr (Or.inl h)
  · exact Or.inr (Or.inr h)
  · rw [h] at h2
    cases h2
theorem odd_warm {w : Cond} {A A' : Array Value} {s U : State} (hw : w ∈ lw_odd) (hW : s.WarmedH U.vm) (h : w.before A s = true) : w.before A' U = true := by
  rcases odd_cases hw with ⟨a, b, rfl⟩ | ⟨a, b, c, d, rfl⟩ | ⟨ty, rfl⟩
  · exact va_Nw.use rfl (va_Nw.warmC hW (va_Nw.of rfl h))
  · exact va_Nw.use rfl (va_Nw.warmM hW (va_Nw.of rfl h))
  · have h4 : (Cond.arrayOver ty).before A (s.setVm U.vm) = true := by rw [Cond.arrayOver_setVmC hW.alike ty]; exact h
    exact h4
theorem odd_args {w : Cond} {A A' : Array Value} {s : State} (hw : w ∈ lw_odd) (h : w.before A s = true) : w.before A' s = true := by
  rcases odd_cases hw with ⟨a, b, rfl⟩ | ⟨a, b, c, d, rfl⟩ | ⟨ty, rfl⟩
  · exact va_Nw.use rfl (va_Nw.of rfl h)
  · exact va_Nw.use rfl (va_Nw.of rfl h)
  · exact h
theorem odd_call {w : Cond} {A : Array Value} {U : State} {g : JFrame} {mk : MethodId} {a : Array Value} (hw : w ∈ lw_odd) (h : w.before A U = true) : w.before A (U.calling g mk a) = true := by
  rcases odd_cases hw with ⟨a, b, rfl⟩ | ⟨a, b, c, d, rfl⟩ | ⟨ty, rfl⟩
  · exact va_tabs rfl (rfl : U.vm = (U.calling g mk _).vm) h
  · exact va_tabs rfl (rfl : U.vm = (U.calling g mk _).vm) h
  · exact h
theorem Stt_ext {base n : Nat} {rf rf' : Int → Option Nat} {sc : List Int} {s : State} (h : ∀ x : Int, x ≤ n → rf' x = rf x) (hS : Stt base rf sc s) : Stt base rf' sc s := by
  obtain ⟨h1, h2, ⟨t, h3, h4⟩, ⟨b, h5, h6⟩, adK, adV, h7, h8, h9, g1, g2, ⟨mi, g3, g4⟩, g5⟩ := hS
  refine ⟨h1, by rw [h 0 (by omega)]; exact h2, ⟨t, by rw [h (-2) (by omega)]; exact h3, h4⟩, ⟨b, by rw [h (-1) (by omega)]; exact h5, h6⟩, adK, adV, h7, fun i hi => ?_, h9, g1, by rw [h (-3) (by omega)]; exact g2, ⟨mi, by rw [h (-4) (by omega)]; exact g3, g4⟩, g5⟩
  rw [h _ (show (-10 - (i : Int)) ≤ n by omega), h _ (show (-100 - (i : Int)) ≤ n by omega)]
  exact h8 i hi
theorem Stt_moved {base : Nat} {rf : Int → Option Nat} {sc : List Int} {s U : State} {locs : List Loc} (hW : s.WarmedH U.vm) (hSS : va_S (A0 base) s.heap U.heap locs) (hS : Stt base rf sc s) : Stt base rf sc U := by
  obtain ⟨h1, h2, ⟨t, h3, h4, h4'⟩, ⟨b, h5, h6, h6', h6''⟩, adK, adV, h7, h8, h9, g1, g2, ⟨mi, g3, g4⟩, g5⟩ := hS
  have hq : ∀ a : Nat, a < s.heap.size → ¬ A0 base a → U.heap[a]? = s.heap[a]? := hSS.2.1
  refine ⟨Nat.le_trans h1 hSS.1, h2, ⟨t, h3, (va_Z.moved hW.alike h4).kept hq, (va_T.moved hW.alike h4').kept hq⟩, ⟨b, h5, h6, (va_X.moved hW.alike h6').kept (hq b (by omega) (by show ¬ base ≤ b; omega)), h6''⟩, adK, adV, (vk_S.moved hW.alike h7).kept hq, h8, fun i q hi => vk_R.warm hW (h9 i q hi), (va_Z.moved hW.alike g1).kept hq, (va_Z.moved hW.alike g2).kept hq, ⟨mi, g3, va_Mi.moved hW.alike g4⟩, va_Dc.moved hW.alike g5⟩
theorem Stt_call {base : Nat} {rf : Int → Option Nat} {sc : List Int} {U : State} {g : JFrame} {mk : MethodId} {a : Array Value} (hS : Stt base rf sc U) : Stt base rf sc (U.calling g mk a) := by
  obtain ⟨h1, h2, ⟨t, h3, h4, h4'⟩, ⟨b, h5, h6, h6', h6''⟩, adK, adV, h7, h8, h9, g1, g2, ⟨mi, g3, g4⟩, g5⟩ := hS
  have hal : U.vm.Alike (U.calling g mk a).vm := Vm.Alike.refl U.vm
  exact ⟨h1, h2, ⟨t, h3, va_Z.moved hal h4, va_T.moved hal h4'⟩, ⟨b, h5, h6, va_X.moved hal h6', h6''⟩, adK, adV, vk_S.moved hal h7, h8, fun i q hi => vk_R.same (u := U) rfl (h9 i q hi), va_Z.moved hal g1, va_Z.moved hal g2, ⟨mi, g3, va_Mi.moved hal g4⟩, va_Dc.moved hal g5⟩
/-- what holds of a state where a method starts -/
def InvM (base : Nat) (D : va_G) (cA : Nat → ClassId) (rf : Int → Option Nat) (sc : List Int) (hp : Hp) (U : State) : Prop :=
  va_P D vwCl (wld rf cA hp) U.heap ∧ va_K D vwCl (ktys cA) U ∧ Stt base rf sc U ∧ ∀ w ∈ lw_odd, w.before #[] U = true
def PcM (base : Nat) (D : va_G) (cA : Nat → ClassId) (rf : Int → Option Nat) (sc : List Int) (as : List Vl) (hp : Hp) : Array Value → State → Prop := fun v U => v = (as.map (toV rf)).toArray ∧ InvM base D cA rf sc hp U
def QcM (base : Nat) (D : va_G) (cA : Nat → ClassId) (rf : Int → Option Nat) (hp : Hp) (r : Option Vl) (hp' : Hp) : Array Value → State → Outcome → State → Prop := fun _ st oc t =>
  ∃ rf' : Int → Option Nat, (∀ x : Int, x ≤ hp.length → rf' x = rf x) ∧ oc = .returned (r.map (toV rf')) ∧ va_P D vwCl (wld rf' cA hp') t.heap ∧ va_D (A0 base) (wld rf' cA hp') ∧ wfH hp' ∧ Rf base rf' hp'.length ∧ (∀ v, r = some v → okV hp'.length v) ∧ va_F (A0 base) st t
def rmM (d mc ms : Nat) : Room := { frames := d, cells := mc, slots := ms, locals := 64 * d }
theorem InvM_blind {base : Nat} {D : va_G} {cA : Nat → ClassId} {rf : Int → Option Nat} {sc : List Int} {as : List Vl} {hp : Hp} : FrameBlind (PcM base D cA rf sc as hp) := by
  intro a U g mk h
  obtain ⟨h1, h2, h3, h4, h5⟩ := h
  have hal : U.vm.Alike (U.calling g mk a).vm := Vm.Alike.refl U.vm
  exact ⟨h1, h2, va_K.moved hal h3, Stt_call h4, fun w hw => odd_call hw (h5 w hw)⟩
end
section
/-! the mini machine's runs are the machine's -/
theorem arg_at {rf : Int → Option Nat} : ∀ (as : List Vl), (argL as).length = (lg_sl (as.map (toV rf))).length ∧ ∀ (i : Nat) (v : Vl), (argL as)[i]? = some v → v.1 ≠ 9 → (lg_sl (as.map (toV rf)))[i]? = some (.val (toV rf v))
  | [] => ⟨rfl, fun i v h => by cases h⟩
  | v :: t => by
    obtain ⟨h1, h2⟩ := arg_at (rf := rf) t
    unfold argL
    have e : lg_sl ((v :: t).map (toV rf)) = (if v.1 = 1 then [Slot.val (toV rf v), Slot.second] else [Slot.val (toV rf v)]) ++ lg_sl (t.map (toV rf)) := by
      unfold lg_sl
      rw [List.map_cons, List.flatMap_cons, toV_cat]
      by_cases h : v.1 = 1
      · simp [h]
      · simp [h]
    rw [e]
    by_cases h : v.1 = 1
    · rw [if_pos h, if_pos h]
      refine ⟨by simp [h1], fun i u hu h9 => ?_⟩
      match i, hu with
      | 0, hu => cases hu; rfl
      | 1, hu => cases hu; exact absurd rfl h9
      | i + 2, hu => exact h2 i u hu h9
    · rw [if_neg h, if_neg h]
      refine ⟨by simp [h1], fun i u hu h9 => ?_⟩
      match i, hu with
      | 0, hu => cases hu; rfl
      | i + 1, hu => exact h2 i u hu h9
theorem initL_len {as : List Vl} {n : Nat} (h : (argL as).length ≤ n) : (initL as n).length = n := by
  unfold initL
  rw [List.length_append, List.length_replicate]
  omega
theorem entry_Lr {rf : Int → Option Nat} {as : List Vl} {n : Nat} (h : (argL as).length ≤ n) : Lr rf (initL as n) ((lg_sl (as.map (toV rf)) ++ List.replicate (n - (lg_sl (as.map (toV rf))).length) Slot.unset).toArray) := by
  obtain ⟨h1, h2⟩ := arg_at (rf := rf) as
  have hE := lv_entry (as.map (toV rf)) (n := n) (by rw [← h1]; exact h)
  refine ⟨by rw [initL_len h]; exact hE.1, hE.2.1, fun i v hv h9 => ?_⟩
  unfold initL at hv
  by_cases hi : i < (argL as).length
  · rw [List.getElem?_append_left hi] at hv
    have h3 := h2 i v hv h9
    rw [List.getElem?_toArray, List.getElem?_append_left (by rw [← h1]; exact hi)]
    exact h3
  · rw [List.getElem?_append_right (by omega), List.getElem?_replicate] at hv
    split at hv
    · cases hv
      exact absurd rfl h9
    · cases hv
theorem okL_argL {n : Nat} : ∀ {as : List Vl}, okS n as → okL n (argL as)
  | [], _ => fun v hv => by cases hv
  | v :: t, h => by
    have ih := okL_argL (okS_tl h)
    unfold argL
    by_cases h1 : v.1 = 1
    · rw [if_pos h1]
      intro u hu
      rcases List.mem_cons.mp hu with rfl | hu
      · exact Or.inr (okS_hd h)
      · rcases List.mem_cons.mp hu with rfl | hu
        · exact Or.inl rfl
        · exact ih u hu
    · rw [if_neg h1]
      intro u hu
      rcases List.mem_cons.mp hu with rfl | hu
      · exact Or.inr (okS_hd h)
      · exact ih u hu
theorem okL_init {n k : Nat} {as : List Vl} (h : okS n as) : okL n (initL as k) := by
  intro v hv
  unfold initL at hv
  rcases List.mem_append.mp hv with hv | hv
  · exact okL_argL h v hv
  · rw [List.eq_of_mem_replicate hv]
    exact Or.inl rfl
section SND
variable (cd : Nat → Nat → Option Op) (mk ml : Nat → Nat) (mN : Nat → MethodName) (mB : Nat → ByteArray) (mR : Nat → Option FieldType) (sc : List Int)
def wsM (y : Nat) : List Cond := .code (mN y) (mB y) (ml y) (mR y) :: lw_g
noncomputable def dcC (own : String) (cc : ByteArray) (pc op nx : Nat) (a b : Int) (os : List Int) : Bool :=
  let y := a.toNat
  let g := fun k : Nat => (os.getD k 0).toNat
  (nx == pc + 3 && (decide ((mN y).cls ≠ "java/lang/invoke/MethodHandle" ∧ (mN y).cls ≠ "java/lang/invoke/VarHandle" ∧ (parseMethodDescriptor (mN y).desc).map (fun d => d.parameters.length) = some b.toNat) && (decide (ml y ≤ 45) && (wc (g 2) (.code (mN y) (mB y) (ml y) (mR y)) && wq (g 3) (.initialized (mN y).cls))))) &&
  ((if g 6 = 0 then wq (g 0) (.methodLink own (g 1) (mN y)) else wq (g 0) (.methodLinkNest own (g 1) (mN y) RX11)) &&
  (if op = 60 then dq cc pc (.invokevirtual (g 1)) 3 && (wq (g 4) (.instanceMethod (mN y)) && (wq (g 5) (.selects (mN y).cls (mN y) (mN y)) && ((decide (mk y < 14) && decide ((clAt (mk y : Int)).1 = (mN y).cls)) || (decide (mk y = 98) && decide ((mN y).cls = "java/lang/String")))))
   else if op = 61 then dq cc pc (.invokestatic (g 1)) 3 && wq (g 4) (.static (mN y))
   else if op = 62 then dq cc pc (.invokespecial (g 1)) 3 && (wq (g 4) (.instanceMethod (mN y)) && (decide ((mN y).name = "<init>") && (decide (mR y = none) && decide (mk y ≠ 98))))
   else false))
noncomputable def dcE (y : Nat) (cc : ByteArray) (pc op : Nat) (a b : Int) : Bool :=
  if op = 70 then
    (if b = 0 then dq cc pc .ireturn 1 && ((a == 0 && decide (mR y = some .int)) || (a == 1 && decide (mR y = some .boolean)) || (a == 2 && decide (mR y = some .char)) || (a == 3 && decide (mR y = some .byte)))
     else if b = 1 then dq cc pc .lreturn 1 && decide (mR y = some .long)
     else b == 2 && (dq cc pc .areturn 1 && (match mR y with
       | some (.object _) => true
       | some (.array _) => true
       | _ => false)))
  else op == 71 && (dq cc pc .return_ 1 && decide (mR y = none))
/-- the whole check of an instruction -/
noncomputable def dcAll (y : Nat) (pc : Nat) (x : Op) : Bool :=
  let own := (mN y).cls
  let cc := mB y
  let (op, nx, a, b, os) := x
  if op < 20 then dcP own cc pc op nx a b os
  else if op < 30 then dcB cc pc op nx a b os
  else if op < 40 then dcH own cc pc op nx a b os
  else if op < 60 then dcX own (mN y).name cc pc op nx a b os
  else if op < 70 then dcC mk ml mN mB mR own cc pc op nx a b os
  else dcE mR y cc pc op a b
/-- what a call gives -/
def Sound (cal : Nat → List Vl → Hp → Option Vl → Hp → Prop) (d : Nat) : Prop :=
  ∀ (y : Nat) (as : List Vl) (hp : Hp) (r : Option Vl) (hp' : Hp), cal y as hp r hp' → hp.length ≤ hp'.length ∧ sz hp ≤ sz hp' ∧
    ∀ (l : Launch) (base : Nat) (D : va_G) (cA : Nat → ClassId) (rf : Int → Option Nat), okS hp.length as → wfH hp → va_D (A0 base) (wld rf cA hp) → Rf base rf hp.length →
      Met l (mN y) (wsM ml mN mB mR y) (rmM d (hp'.length - hp.length) (sz hp' - sz hp)) (PcM base D cA rf sc as hp) (QcM base D cA rf hp r hp') (hp'.length - hp.length) (sz hp' - sz hp) (A0 base)
section CALLS
variable {p : Program} {l : Launch} {e : Env} {R : Room} {s : State} {m : MethodId} {args : Array Value} {below : List Frame} {meth : Method} {c : Code} {H : Heap} {locs : List Loc} {cells slots : Nat} {Q : State → Prop}
variable {cc : ByteArray} {nL : Nat} {own : String} {base : Nat} {rf : Int → Option Nat} {st st' : List Vl} {arr : Array Slot} {D : va_G} {cA : Nat → ClassId} {hp hp' : Hp}
/-- behind a call -/
theorem call_on {mc ms pc : Nat} {st0 : List Value} {rest : List Vl} {r : Option Vl} {aa : Array Value} (hr : va_Run p l e R s m args below meth c H locs cells slots mc ms (F0 m pc arr st0) (rest.map (toV rf)) (QcM base D cA rf hp r hp' aa) (A0 base)) (hSS : va_S (A0 base) s.heap H locs) (hrest : okS hp.length rest)
    (k : ∀ (rf' : Int → Option Nat) (H' : Heap) (locs' : List Loc), (∀ x : Int, x ≤ hp.length → rf' x = rf x) → va_P D vwCl (wld rf' cA hp') H' → va_D (A0 base) (wld rf' cA hp') → va_S (A0 base) s.heap H' locs' → wfH hp' → Rf base rf' hp'.length → (∀ v, r = some v → okV hp'.length v) → W p l e R s m args below meth c H' locs' (cells + mc) (slots + ms) Q (F0 m (pc + 3) arr ((pshR r rest).map (toV rf')))) : W p l e R s m args below meth c H locs cells slots Q (F0 m pc arr st0) := by
  intro T hT X
  obtain ⟨v, st₀, t, T', L, g0, X', hL, e1, e2, ⟨rf', q1, q2, q3, q4, q5, q6, q7, q8⟩, st⟩ := hr T hT X
  have q2 := (Outcome.returned.inj q2)
  have hz := q8.1
  have hk := q8.2
  rw [g0] at hz hk
  rw [← e1] at q3 hz hk
  have hS' : va_S (A0 base) s.heap T'.heap (locs ++ L) := ⟨Nat.le_trans hSS.1 hz, fun q h1 h2 => by rw [hk q (Nat.lt_of_lt_of_le h1 hSS.1) h2]; exact hSS.2.1 q h1 h2, fun q hq => by
    rcases List.mem_append.mp hq with h | h
    · exact hSS.2.2 q h
    · exact hL q h⟩
  have e3 : (pshR r rest).map (toV rf') = v.toList ++ rest.map (toV rf) := by
    rw [q2]
    cases r with
    | none => exact toVs_ext q1 hrest
    | some w =>
      show toV rf' w :: rest.map (toV rf') = toV rf' w :: rest.map (toV rf)
      rw [toVs_ext q1 hrest]
  have kk := k rf' T'.heap (locs ++ L) q1 q3 q4 hS' q5 q6 q7
  rw [e3] at kk
  obtain ⟨t2, a1, b1⟩ := kk T' rfl X'
  exact ⟨t2, st t2 a1, b1⟩
theorem wsM_good {y i : Nat} (h : wc i (.code (mN y) (mB y) (ml y) (mR y)) = true) : GoodIn lw_use (wsM ml mN mB mR y) := by
  intro w hw
  rcases List.mem_cons.mp hw with rfl | hw
  · exact ⟨wc_of h, Or.inl rfl⟩
  · exact ⟨g_use hw, good_of_word (List.mem_filter.mp hw).2⟩
theorem snd_call {cal : Nat → List Vl → Hp → Option Vl → Hp → Prop} {d : Nat} (CC : Sound ml mN mB mR sc cal d) (X : Cx p s m args c cc nL own) (hodd : ∀ w ∈ lw_odd, w.before #[] s = true) (hS : Stt base rf sc s) (hSS : va_S (A0 base) s.heap H locs) (hK : va_K D vwCl (ktys cA) s) (hP : va_P D vwCl (wld rf cA hp) H) (hD : va_D (A0 base) (wld rf cA hp)) (hw : wfH hp) (hR : Rf base rf hp.length)
    (harr : arr.size = nL) (hfr : d + 1 ≤ R.frames) (hlo : 64 * d + 64 ≤ R.locals) {pc op nx : Nat} {a b : Int} {os : List Int} {as : List Vl} {r : Option Vl} (hd : dcC mk ml mN mB mR own cc pc op nx a b os = true) (hpop : popA op b st = some (as, st')) (hrc : rcv op (mk a.toNat) hp as) (hcal : cal a.toNat as hp r hp') (hst : okS hp.length st)
    (hcells : cells + (hp'.length - hp.length) ≤ R.cells) (hslots : slots + (sz hp' - sz hp) ≤ R.slots)
    (k : ∀ (rf' : Int → Option Nat) (H' : Heap) (locs' : List Loc), (∀ x : Int, x ≤ hp.length → rf' x = rf x) → va_P D vwCl (wld rf' cA hp') H' → va_D (A0 base) (wld rf' cA hp') → va_S (A0 base) s.heap H' locs' → wfH hp' → Rf base rf' hp'.length → (∀ v, r = some v → okV hp'.length v) → W p l e R s m args below meth c H' locs' (cells + (hp'.length - hp.length)) (slots + (sz hp' - sz hp)) Q (F0 m nx arr ((pshR r st').map (toV rf')))) : W p l e R s m args below meth c H locs cells slots Q (F0 m pc arr (st.map (toV rf))) := by
  obtain ⟨hx, hb, hml, hown, hts⟩ := X
  unfold dcC at hd
  simp only [Bool.and_eq_true, beq_iff_eq] at hd
  obtain ⟨⟨rfl, hdd, hml45, hwc, hwi⟩, hlk, hop⟩ := hd
  have hdd := of_decide_eq_true hdd
  have hml45 := of_decide_eq_true hml45
  unfold popA at hpop
  dsimp only at hpop
  generalize hn : b.toNat + (if op = 61 then 0 else 1) = n at hpop
  have hc : n ≤ st.length ∧ wds (st.drop n) ≤ 8 := by
    by_cases hc : n ≤ st.length ∧ wds (st.drop n) ≤ 8
    · exact hc
    · rw [if_neg hc] at hpop
      cases hpop
  rw [if_pos hc] at hpop
  have hpop := Prod.ext_iff.mp (Option.some.inj hpop)
  obtain ⟨e1, e2⟩ := hpop
  dsimp only at e1 e2
  have hst' : okS hp.length st' := fun v hv => hst v (by rw [← e2] at hv; exact List.mem_of_mem_drop hv)
  have has : okS hp.length as := fun v hv => hst v (by rw [← e1] at hv; exact List.mem_of_mem_take (List.mem_reverse.mp hv))
  have hlen : as.length = n := by rw [← e1, List.length_reverse, List.length_take]; omega
  have hsplit : st = as.reverse ++ st' := by rw [← e1, ← e2, List.reverse_reverse, List.take_append_drop]
  have hcat : ((st'.map (toV rf)).map fun v => v.category).sum ≤ 8 := by
    have e3 : ((st'.map (toV rf)).map fun v => v.category).sum = wds st' := by
      unfold wds
      rw [List.map_map]
      congr 1
      apply List.map_congr_left
      intro v _
      exact toV_cat rf v
    rw [e3, ← e2]
    exact hc.2
  obtain ⟨hle1, hle2, hM⟩ := CC _ _ _ _ _ hcal
  have hM := hM l base D cA rf has hw hD hR
  have hgood := wsM_good ml mN mB mR hwc
  have hroom : (rmM d (hp'.length - hp.length) (sz hp' - sz hp)).frames + 1 ≤ R.frames ∧ 8 + (ml a.toNat + 11) + (rmM d (hp'.length - hp.length) (sz hp' - sz hp)).locals ≤ R.locals := ⟨hfr, by show 8 + (ml a.toNat + 11) + 64 * d ≤ R.locals; omega⟩
  have hS0 : CallFix p m c cc nL s args lw_use own := ⟨hx, hb, hml, hown, hts⟩
  have hPU : ∀ U : State, U.heap = H → s.WarmedH U.vm → PcM base D cA rf sc as hp (as.map (toV rf)).toArray U := fun U hU hW => ⟨rfl, by rw [hU]; exact hP, va_K.moved hW.alike hK, Stt_moved (locs := locs) hW (by rw [hU]; exact hSS) hS, fun w hw => odd_warm hw hW (hodd w hw)⟩
  by_cases q0 : op = 60
  · rw [if_pos q0] at hop
    simp only [Bool.and_eq_true] at hop
    obtain ⟨hdq, hw4, hw5, hkk⟩ := hop
    obtain ⟨rr, tl, ba, has2, hcr, hrecv⟩ : ∃ (rr : Int) (tl : List Vl) (ba : Nat), as = (2, rr) :: tl ∧ toV rf (2, rr) = .ref ba ∧ ∃ cell : Cell, H[ba]? = some cell ∧ cell.vm.isStatics = false ∧ s.vm.findClass (mN a.toNat).cls = some cell.cls := by
      rcases hrc with h61 | ⟨rr, lr, tl, has2, hcr⟩ | ⟨h98, rr, tl, has2, h1, h2⟩
      · omega
      · rw [Bool.or_eq_true, Bool.and_eq_true, Bool.and_eq_true] at hkk
        have hk14 : mk a.toNat < 14 ∧ (clAt (mk a.toNat : Int)).1 = (mN a.toNat).cls := by
          rcases hkk with ⟨z1, z2⟩ | ⟨z1, -⟩
          · exact ⟨of_decide_eq_true z1, of_decide_eq_true z2⟩
          · exfalso
            have z1 := of_decide_eq_true z1
            have hwl := hw.at (cel_of hcr).2.1
            have := hwl.2.1 (show 14 ≤ mk a.toNat by omega)
            rw [z1] at this
            have := this.2.1
            dsimp only at this
            omega
        have hcl := clAt_of (k := mk a.toNat) rfl hk14.1
        obtain ⟨-, hat, -⟩ := cel_of hcr
        have hwl := wld_at (rf := rf) (cA := cA) hat
        rw [ent_o (show ((mk a.toNat, lr) : Nat × List Int).1 < 14 from hk14.1)] at hwl
        exact ⟨rr, tl, _, has2, ref_of hR hcr, by rw [← hk14.2]; exact va_recv hK hP hcl hwl⟩
      · rw [Bool.or_eq_true, Bool.and_eq_true, Bool.and_eq_true] at hkk
        have hcs : (mN a.toNat).cls = "java/lang/String" := by
          rcases hkk with ⟨z1, -⟩ | ⟨-, z2⟩
          · have := of_decide_eq_true z1
            omega
          · exact of_decide_eq_true z2
        obtain ⟨-, -, -, -, adK, adV, hV, hkr, -⟩ := hS
        obtain ⟨i, hi⟩ : ∃ i : Nat, rr = -10 - (i : Int) := ⟨(-10 - rr).toNat, by omega⟩
        have hi23 : i < 23 := by omega
        refine ⟨rr, tl, adK i, has2, ?_, ?_⟩
        · rw [toV_r, hi, (hkr i hi23).1]
          rfl
        · rw [hcs]
          exact vk_recv hV hi23 hSS
    subst has2
    have hn1 : tl.length = b.toNat := by
      rw [List.length_cons] at hlen
      rw [if_neg (by omega)] at hn
      omega
    have hPV : PreV s H (mN a.toNat).cls ba (PcM base D cA rf sc ((2, rr) :: tl) hp) (tl.map (toV rf)) := by
      refine ⟨InvM_blind, hrecv, fun U hU hW => ?_⟩
      have := hPU U hU hW
      rw [List.map_cons, hcr] at this
      exact this
    have hstk : st.map (toV rf) = (tl.map (toV rf)).reverse ++ .ref ba :: st'.map (toV rf) := by
      rw [hsplit, List.map_append, List.reverse_cons, List.map_append, List.map_reverse, List.append_assoc, List.map_cons, hcr]
      rfl
    rw [hstk]
    have hW8 : 2 * (F0 m pc arr ((tl.map (toV rf)).reverse ++ .ref ba :: st'.map (toV rf))).monitorRoom + ((st'.map (toV rf)).map fun v => v.category).sum ≤ 8 := by show 2 * 0 + _ ≤ _; omega
    by_cases g6 : (os.getD 6 0).toNat = 0
    · rw [if_pos g6] at hlk
      have cw : CallW R s args own (mN a.toNat).cls (os.getD 1 0).toNat (mN a.toNat) (mB a.toNat) (ml a.toNat) (mR a.toNat) (wsM ml mN mB mR a.toNat) (rmM d (hp'.length - hp.length) (sz hp' - sz hp)) (hp'.length - hp.length) (sz hp' - sz hp) b.toNat := by
        refine cwV b.toNat hts (fun w hw => ?_) rfl rfl rfl ⟨rfl, hdd⟩ hroom
        unfold wsV at hw
        rcases List.mem_append.mp hw with hw | hw
        · simp only [List.mem_cons, List.not_mem_nil, or_false] at hw
          rcases hw with rfl | rfl | rfl | rfl
          · exact ⟨wq_of hlk, Or.inl rfl⟩
          · exact ⟨wq_of hw4, Or.inl rfl⟩
          · exact ⟨wq_of hw5, Or.inl rfl⟩
          · exact ⟨wq_of hwi, Or.inl rfl⟩
        · exact hgood w hw
      exact call_on (va_runV hS0 hM cw hPV rfl (by rw [List.length_map]; exact hn1) harr rfl hW8 (dq_of hdq) ⟨hcells, hslots⟩) hSS hst' k
    · rw [if_neg g6] at hlk
      have cw : va_CN R s args own (os.getD 1 0).toNat (mN a.toNat) RX11 (mB a.toNat) (ml a.toNat) (mR a.toNat) (wsM ml mN mB mR a.toNat) (rmM d (hp'.length - hp.length) (sz hp' - sz hp)) (hp'.length - hp.length) (sz hp' - sz hp) b.toNat := va_cnB b.toNat hts hgood rfl rfl rfl (va_Nw.of rfl (hts _ (wq_of hlk))) (hts _ (wq_of hwi)) hdd hroom
      exact call_on (va_runVN hS0 hM ⟨cw, hts _ (wq_of hw4), hts _ (wq_of hw5)⟩ hPV rfl (by rw [List.length_map]; exact hn1) harr rfl hW8 (dq_of hdq) ⟨hcells, hslots⟩) hSS hst' k
  rw [if_neg q0] at hop
  by_cases q1 : op = 61
  · rw [if_pos q1] at hop
    simp only [Bool.and_eq_true] at hop
    obtain ⟨hdq, hw4⟩ := hop
    have hn1 : as.length = b.toNat := by rw [if_pos q1] at hn; omega
    have hPS : PreS s H (PcM base D cA rf sc as hp) (as.map (toV rf)) := ⟨InvM_blind, hPU⟩
    have hstk : st.map (toV rf) = (as.map (toV rf)).reverse ++ st'.map (toV rf) := by rw [hsplit, List.map_append, List.map_reverse]
    rw [hstk]
    have hW8 : 2 * (F0 m pc arr ((as.map (toV rf)).reverse ++ st'.map (toV rf))).monitorRoom + ((st'.map (toV rf)).map fun v => v.category).sum ≤ 8 := by show 2 * 0 + _ ≤ _; omega
    by_cases g6 : (os.getD 6 0).toNat = 0
    · rw [if_pos g6] at hlk
      have cw : CallB R s args own (os.getD 1 0).toNat (mN a.toNat) (mB a.toNat) (ml a.toNat) (mR a.toNat) (wsM ml mN mB mR a.toNat) (rmM d (hp'.length - hp.length) (sz hp' - sz hp)) (hp'.length - hp.length) (sz hp' - sz hp) b.toNat ∧ (Cond.static (mN a.toNat)).before args s = true :=
        ⟨callB_of b.toNat hts hgood rfl rfl rfl (hts _ (wq_of hwi)) (hts _ (wq_of hlk)) hdd hroom, hts _ (wq_of hw4)⟩
      exact call_on (va_runS hS0 hM cw hPS rfl (by rw [List.length_map]; exact hn1) harr rfl hW8 (dq_of hdq) ⟨hcells, hslots⟩) hSS hst' k
    · rw [if_neg g6] at hlk
      have cw : va_CN R s args own (os.getD 1 0).toNat (mN a.toNat) RX11 (mB a.toNat) (ml a.toNat) (mR a.toNat) (wsM ml mN mB mR a.toNat) (rmM d (hp'.length - hp.length) (sz hp' - sz hp)) (hp'.length - hp.length) (sz hp' - sz hp) b.toNat := va_cnB b.toNat hts hgood rfl rfl rfl (va_Nw.of rfl (hts _ (wq_of hlk))) (hts _ (wq_of hwi)) hdd hroom
      exact call_on (va_runSN hS0 hM ⟨cw, hts _ (wq_of hw4), trivial⟩ hPS rfl (by rw [List.length_map]; exact hn1) harr rfl hW8 (dq_of hdq) ⟨hcells, hslots⟩) hSS hst' k
  rw [if_neg q1] at hop
  by_cases q2 : op = 62
  · rw [if_pos q2] at hop
    simp only [Bool.and_eq_true] at hop
    obtain ⟨hdq, hw4, hnm, hret, hn98⟩ := hop
    have hnm := of_decide_eq_true hnm
    have hret := of_decide_eq_true hret
    have hn98 := of_decide_eq_true hn98
    rcases hrc with h61 | ⟨rr, lr, tl, has2, hcr⟩ | ⟨h98, -⟩
    · omega
    rotate_left
    · exact absurd h98 hn98
    subst has2
    have hn1 : tl.length = b.toNat := by
      rw [List.length_cons] at hlen
      rw [if_neg (by omega)] at hn
      omega
    have hPS : PreS s H (PcM base D cA rf sc ((2, rr) :: tl) hp) (.ref (adr rf (rr.toNat - 1)) :: tl.map (toV rf)) := by
      refine ⟨InvM_blind, fun U hU hW => ?_⟩
      have := hPU U hU hW
      rw [List.map_cons, ref_of hR hcr] at this
      exact this
    have hstk : st.map (toV rf) = (tl.map (toV rf)).reverse ++ .ref (adr rf (rr.toNat - 1)) :: st'.map (toV rf) := by
      rw [hsplit, List.map_append, List.reverse_cons, List.map_append, List.map_reverse, List.append_assoc, List.map_cons, ref_of hR hcr]
      rfl
    rw [hstk]
    have hW8 : 2 * (F0 m pc arr ((tl.map (toV rf)).reverse ++ .ref (adr rf (rr.toNat - 1)) :: st'.map (toV rf))).monitorRoom + ((st'.map (toV rf)).map fun v => v.category).sum ≤ 8 := by show 2 * 0 + _ ≤ _; omega
    have hgood2 := hgood
    have hM2 := hM
    unfold wsM at hgood2 hM2
    rw [hret] at hgood2 hM2
    by_cases g6 : (os.getD 6 0).toNat = 0
    · rw [if_pos g6] at hlk
      exact call_on (va_runI hS0 hM2 (cwI b.toNat hts hgood2 rfl rfl rfl (hts _ (wq_of hwi)) (hts _ (wq_of hlk)) (hts _ (wq_of hw4)) hnm hdd hroom) hPS rfl (by rw [List.length_map]; exact hn1) harr rfl hW8 (dq_of hdq) ⟨hcells, hslots⟩) hSS hst' k
    · rw [if_neg g6] at hlk
      exact call_on (va_runIN hS0 hM2 ⟨va_cnB b.toNat hts hgood2 rfl rfl rfl (va_Nw.of rfl (hts _ (wq_of hlk))) (hts _ (wq_of hwi)) hdd hroom, hnm, hts _ (wq_of hw4)⟩ hPS rfl (by rw [List.length_map]; exact hn1) harr rfl hW8 (dq_of hdq) ⟨hcells, hslots⟩) hSS hst' k
  rw [if_neg q2] at hop
  cases hop
end CALLS
end SND
end
section
/-! runs of the mini machine are runs of the machine -/
section RUN
variable (cd : Nat → Nat → Option Op) (mk ml : Nat → Nat) (mN : Nat → MethodName) (mB : Nat → ByteArray) (mR : Nat → Option FieldType) (sc : List Int)
theorem Ex_len {cal : Nat → List Vl → Hp → Option Vl → Hp → Prop} (hc : ∀ y as hp r hp', cal y as hp r hp' → hp.length ≤ hp'.length ∧ sz hp ≤ sz hp') {y : Nat} : ∀ (n pc : Nat) (ls st : List Vl) (hp : Hp) (r : Option Vl) (h : Hp), Ex cd mk sc stxt cal y n pc ls st hp r h → hp.length ≤ h.length ∧ sz hp ≤ sz h
  | 0, _, _, _, _, _, _, h => h.elim
  | n + 1, pc, ls, st, hp, r, h, hx => by
    obtain ⟨op, nx, a, b, os, -, hx⟩ := hx
    rcases hx with ⟨-, ls', st', -, hx⟩ | ⟨-, -, p', st', -, hx⟩ | ⟨-, -, st', -, hx⟩ | ⟨-, -, hp', st', hw, hx⟩ | ⟨-, -, as, st', r1, hp1, -, -, hcal, hx⟩ | ⟨-, -, rfl⟩
    · exact Ex_len hc n _ _ _ _ _ _ hx
    · exact Ex_len hc n _ _ _ _ _ _ hx
    · exact Ex_len hc n _ _ _ _ _ _ hx
    · have h1 := Ex_len hc n _ _ _ _ _ _ hx
      have h2 := (wst_ok hw).2
      exact ⟨Nat.le_trans h2.1 h1.1, Nat.le_trans h2.2 h1.2⟩
    · have h1 := Ex_len hc n _ _ _ _ _ _ hx
      have h2 := hc _ _ _ _ _ hcal
      exact ⟨Nat.le_trans h2.1 h1.1, Nat.le_trans h2.2 h1.2⟩
    · exact ⟨Nat.le_refl _, Nat.le_refl _⟩
theorem inj_of {base n : Nat} {rf : Int → Option Nat} {cA : Nat → ClassId} {hp : Hp} {s : State} (hS : Stt base rf sc s) (hD : va_D (A0 base) (wld rf cA hp)) (hR : Rf base rf hp.length) (hn : n = hp.length) : ∀ x y : Int, (-2 ≤ x ∧ x ≠ -1) → (-2 ≤ y ∧ y ≠ -1) → x ≤ n → y ≤ n → rf x = rf y → x = y := by
  subst hn
  obtain ⟨-, h0, ⟨t, h2, -, hT⟩, -⟩ := hS
  have ht : t < base := by
    obtain ⟨cell, -, -, -, -, -, -, h7⟩ := hT
    exact Nat.lt_of_not_le h7
  have big : ∀ x : Int, 0 < x → x ≤ hp.length → ∃ q, rf x = some q ∧ base ≤ q ∧ q = adr rf (x.toNat - 1) := fun x hx hn => by
    have e := adr_of hR hx hn
    exact ⟨_, e, adr_in hD (by omega), rfl⟩
  intro x y hx hy hxn hyn he
  have cx : x = -2 ∨ x = 0 ∨ 0 < x := by omega
  have cy : y = -2 ∨ y = 0 ∨ 0 < y := by omega
  rcases cx with rfl | rfl | hx0
  · rcases cy with rfl | rfl | hy0
    · rfl
    · rw [h0, h2] at he; cases he
    · obtain ⟨q, e1, e2, -⟩ := big y hy0 hyn
      rw [h2, e1] at he
      have := Option.some.inj he
      omega
  · rcases cy with rfl | rfl | hy0
    · rw [h0, h2] at he; cases he
    · rfl
    · obtain ⟨q, e1, e2, -⟩ := big y hy0 hyn
      rw [h0, e1] at he
      cases he
  · obtain ⟨q, e1, e2, e3⟩ := big x hx0 hxn
    rcases cy with rfl | rfl | hy0
    · rw [h2, e1] at he
      have := Option.some.inj he
      omega
    · rw [h0, e1] at he
      cases he
    · obtain ⟨q', g1, g2, g3⟩ := big y hy0 hyn
      rw [e1, g1] at he
      have e := Option.some.inj he
      rw [e3, g3] at e
      have := adr_inj hD (by omega) (by omega) e
      omega
section EXS
variable {p : Program} {l : Launch} {e : Env} {R : Room} {s : State} {m : MethodId} {args : Array Value} {below : List Frame} {meth : Method} {c : Code} {Q : State → Prop} {base : Nat} {D : va_G} {cA : Nat → ClassId}
/-- what is wanted where the run ends -/
def FIN (p : Program) (l : Launch) (e : Env) (R : Room) (s : State) (m : MethodId) (args : Array Value) (below : List Frame) (meth : Method) (c : Code) (Q : State → Prop) (base : Nat) (D : va_G) (cA : Nat → ClassId) (y : Nat) (r : Option Vl) (h hp : Hp) (rf : Int → Option Nat) (cells slots : Nat) : Prop :=
  ∀ (pc op nx : Nat) (a b : Int) (os : List Int) (arr : Array Slot) (st : List Vl) (rf' : Int → Option Nat) (H : Heap) (locs : List Loc) (cells' slots' : Nat), cd y pc = some (op, nx, a, b, os) → 70 ≤ op → retOf op a b st = some r → okS h.length st → (∀ x : Int, x ≤ hp.length → rf' x = rf x) → va_S (A0 base) s.heap H locs → va_P D vwCl (wld rf' cA h) H → va_D (A0 base) (wld rf' cA h) → wfH h → Rf base rf' h.length → cells' = cells + (h.length - hp.length) → slots' = slots + (sz h - sz hp) → W p l e R s m args below meth c H locs cells' slots' Q (F0 m pc arr (st.map (toV rf')))
theorem Ex_sound {cal : Nat → List Vl → Hp → Option Vl → Hp → Prop} {d y nL : Nat} (CC : Sound ml mN mB mR sc cal d) (hchk : ∀ pc x, cd y pc = some x → dcAll mk ml mN mB mR y pc x = true)
    (X : Cx p s m args c (mB y) nL (mN y).cls) (hmn : meth.name = (mN y).name) (hodd : ∀ w ∈ lw_odd, w.before #[] s = true) (hK : va_K D vwCl (ktys cA) s) (hfr : d + 1 ≤ R.frames) (hlo : 64 * d + 64 ≤ R.locals)
    {r : Option Vl} {h : Hp} : ∀ (n pc : Nat) (ls st : List Vl) (hp : Hp) (rf : Int → Option Nat) (H : Heap) (locs : List Loc) (cells slots : Nat) (arr : Array Slot), Ex cd mk sc stxt cal y n pc ls st hp r h → okL hp.length ls → okS hp.length st → ls.length = nL → Lr rf ls arr → Stt base rf sc s → va_S (A0 base) s.heap H locs → va_P D vwCl (wld rf cA hp) H → va_D (A0 base) (wld rf cA hp) → wfH hp → Rf base rf hp.length → cells + (h.length - hp.length) ≤ R.cells → slots + (sz h - sz hp) ≤ R.slots →
      FIN cd p l e R s m args below meth c Q base D cA y r h hp rf cells slots → W p l e R s m args below meth c H locs cells slots Q (F0 m pc arr (st.map (toV rf)))
  | 0, _, _, _, _, _, _, _, _, _, _, hx, _, _, _, _, _, _, _, _, _, _, _, _, _ => hx.elim
  | n + 1, pc, ls, st, hp, rf, H, locs, cells, slots, arr, hx, hl, hst, hnL, hL, hS, hSS, hP, hD, hw, hR, hcells, hslots, fin => by
    obtain ⟨op, nx, a, b, os, hcd, hx⟩ := hx
    have hd := hchk pc _ hcd
    unfold dcAll at hd
    dsimp only at hd
    have hlen := fun y as hp r hp' hc => (show hp.length ≤ hp'.length ∧ sz hp ≤ sz hp' from ⟨(CC y as hp r hp' hc).1, (CC y as hp r hp' hc).2.1⟩)
    rcases hx with ⟨h1, ls', st', hp2, hx⟩ | ⟨h1, h2, p', st', hp2, hx⟩ | ⟨h1, h2, st', hp2, hx⟩ | ⟨h1, h2, hp', st', hp2, hx⟩ | ⟨h1, h2, as, st', r1, hp1, hpop, hrc, hcal, hx⟩ | ⟨h1, hret, rfl⟩
    · rw [if_pos h1] at hd
      obtain ⟨k1, k2, k3⟩ := pst_ok hd hp2 hl hst
      exact snd_pst X hS hSS hd hp2 hL hst (fun arr' hL' => Ex_sound CC hchk X hmn hodd hK hfr hlo n nx ls' st' hp rf H locs cells slots arr' hx k1 k2 (k3.trans hnL) hL' hS hSS hP hD hw hR hcells hslots fin)
    · rw [if_neg (by omega), if_pos h2] at hd
      have k2 := bst_ok hp2 hst
      exact snd_bst (n := hp.length) X hS.2.1 hR (inj_of sc hS hD hR rfl) hd hp2 hst (Ex_sound CC hchk X hmn hodd hK hfr hlo n p' ls st' hp rf H locs cells slots arr hx hl k2 hnL hL hS hSS hP hD hw hR hcells hslots fin)
    · rw [if_neg (by omega), if_neg (by omega), if_pos h2] at hd
      have hsc : (∀ x ∈ sc, in32 x) ∧ sc.length ≤ 100000 := by
        obtain ⟨-, -, -, ⟨_, -, -, -, hsc⟩, -⟩ := hS
        exact hsc
      have k2 := rst_ok hsc hw (dcH_32 hd) hp2 hst
      exact snd_hst X hS hSS hK hP hw hR (by rw [hL.1]; exact hnL) (by omega) (by omega) (by omega) (by omega) hd hp2 hst (Ex_sound CC hchk X hmn hodd hK hfr hlo n nx ls st' hp rf H locs cells slots arr hx hl k2 hnL hL hS hSS hP hD hw hR hcells hslots fin)
    · rw [if_neg (by omega), if_neg (by omega), if_neg (by omega), if_pos h2] at hd
      obtain ⟨k1, k2, k3⟩ := wst_ok hp2
      obtain ⟨g1, g2⟩ := Ex_len cd mk sc hlen n _ _ _ _ _ _ hx
      refine snd_wst X hmn hS hSS hK hP hD hw hR (by rw [hL.1]; exact hnL) (by omega) (by omega) hd hp2 hst (by omega) (by omega) ?_
      intro rf' H' locs' cells' slots' q1 q2 q3 q4 q5 q6 q7 q8
      exact Ex_sound CC hchk X hmn hodd hK hfr hlo n nx ls st' hp' rf' H' locs' cells' slots' arr hx (hl.mono k2) (k1 hst) hnL (Lr_ext q1 hl hL) (Stt_ext q1 hS) q4 q2 q3 q5 q6 (by omega) (by omega)
        (fun pc op nx a b os arr st rf2 H locs cells2 slots2 z1 z2 z3 z4 z5 z6 z7 z8 z9 z10 z11 z12 => fin pc op nx a b os arr st rf2 H locs cells2 slots2 z1 z2 z3 z4 (fun x hx => by rw [z5 x (by omega), q1 x hx]) z6 z7 z8 z9 z10 (by omega) (by omega))
    · rw [if_neg (by omega), if_neg (by omega), if_neg (by omega), if_neg (by omega), if_pos h2] at hd
      obtain ⟨k2, k3⟩ := hlen _ _ _ _ _ hcal
      obtain ⟨g1, g2⟩ := Ex_len cd mk sc hlen n _ _ _ _ _ _ hx
      have hst' : okS hp.length st' := by
        unfold popA at hpop
        dsimp only at hpop
        generalize b.toNat + (if op = 61 then 0 else 1) = k at hpop
        split at hpop
        · have hpop := Prod.ext_iff.mp (Option.some.inj hpop)
          obtain ⟨-, e2⟩ := hpop
          dsimp only at e2
          intro v hv
          rw [← e2] at hv
          exact hst v (List.mem_of_mem_drop hv)
        · cases hpop
      refine snd_call mk ml mN mB mR sc CC X hodd hS hSS hK hP hD hw hR (by rw [hL.1]; exact hnL) hfr hlo hd hpop hrc hcal hst (by omega) (by omega) ?_
      intro rf' H' locs' q1 q2 q3 q4 q5 q6 q7
      have hok : okS hp1.length (pshR r1 st') := by
        cases r1 with
        | none => exact hst'.mono k2
        | some w => exact okS_cons (q7 w rfl) (hst'.mono k2)
      exact Ex_sound CC hchk X hmn hodd hK hfr hlo n nx ls _ hp1 rf' H' locs' _ _ arr hx (hl.mono k2) hok hnL (Lr_ext q1 hl hL) (Stt_ext q1 hS) q4 q2 q3 q5 q6 (by omega) (by omega)
        (fun pc op nx a b os arr st rf2 H locs cells2 slots2 z1 z2 z3 z4 z5 z6 z7 z8 z9 z10 z11 z12 => fin pc op nx a b os arr st rf2 H locs cells2 slots2 z1 z2 z3 z4 (fun x hx => by rw [z5 x (by omega), q1 x hx]) z6 z7 z8 z9 z10 (by omega) (by omega))
    · exact fin pc op nx a b os arr st rf H locs cells slots hcd h1 hret hst (fun _ _ => rfl) hSS hP hD hw hR (by omega) (by omega)
end EXS
theorem ret_ok {op n : Nat} {a b : Int} {st : List Vl} {r : Option Vl} (h : retOf op a b st = some r) (hs : okS n st) : ∀ v, r = some v → okV n v := by
  unfold retOf at h
  intro v hv
  subst hv
  by_cases q0 : op = 70
  · rw [if_pos q0] at h
    match st, h, hs with
    | [w], h, hs =>
      dsimp only at h
      split at h
      · cases h
        exact okS_hd hs
      · cases h
  · rw [if_neg q0] at h
    by_cases q1 : op = 71
    · rw [if_pos q1] at h
      match st, h with
      | [], h => cases h
    · rw [if_neg q1] at h
      cases h
theorem Sound_succ {cal : Nat → List Vl → Hp → Option Vl → Hp → Prop} {d : Nat} (CC : Sound ml mN mB mR sc cal d) (hchk : ∀ y pc x, cd y pc = some x → dcAll mk ml mN mB mR y pc x = true) (hpl : ∀ y pc x, cd y pc = some x → plainName (mN y).cls = true) :
    Sound ml mN mB mR sc (fun y as hp r h => (argL as).length ≤ ml y ∧ ∃ n, Ex cd mk sc stxt cal y n 0 (initL as (ml y)) [] hp r h) (d + 1) := by
  intro y as hp r h ⟨hal, n, hx⟩
  have hlen := fun y as hp r hp' hc => (show hp.length ≤ hp'.length ∧ sz hp ≤ sz hp' from ⟨(CC y as hp r hp' hc).1, (CC y as hp r hp' hc).2.1⟩)
  obtain ⟨g1, g2⟩ := Ex_len cd mk sc hlen n _ _ _ _ _ _ hx
  refine ⟨g1, g2, fun l base D cA rf has hw hD hR => ?_⟩
  have hy : plainName (mN y).cls = true := by
    cases n with
    | zero => exact hx.elim
    | succ n =>
      obtain ⟨op, nx, a, b, os, hcd, -⟩ := hx
      exact hpl y 0 _ hcd
  refine Met.ofW (cc := mB y) (maxL := ml y) (ret := mR y) hy rfl ?_
  intro p e s m args below meth c s₁ B hml hv
  obtain ⟨rfl, hP, hK, hS, hodd⟩ := hv
  have hts0 := atoms_spec (ws := wsM ml mN mB mR y) B.pre
  have hts : ∀ w ∈ lw_use, w.before ((as.map (toV rf)).toArray) s = true := fun w hw => by
    rcases use_split hw with h | h
    · exact hts0 w (List.mem_cons_of_mem _ h)
    · exact odd_args h (hodd w h)
  have hown : s.vm.findClass (mN y).cls = some m.cls := findClass_of_methodNamed B.named
  have hlocks := B.notSynchronized
  have hmn : meth.name = (mN y).name := (name_of_methodNamed B.named B.method).1
  have X : Cx p s m ((as.map (toV rf)).toArray) c (mB y) (ml y) (mN y).cls := ⟨B.exec, B.bytes, hml, hown, hts⟩
  rw [lg_entry_eq]
  refine Ex_sound cd mk ml mN mB mR sc (R := (headSpec (wsM ml mN mB mR y) (rmM (d + 1) (h.length - hp.length) (sz h - sz hp))).room) CC (hchk y) X hmn hodd hK (Nat.le_refl (d + 1)) (show 64 * d + 64 ≤ 64 * (d + 1) by omega) n 0 _ [] hp rf s.heap [] 0 0 _ hx (okL_init has) (fun v hv => by cases hv) (initL_len hal) (entry_Lr hal) hS va_S.rf hP hD hw hR (by show 0 + _ ≤ h.length - hp.length; omega) (by show 0 + _ ≤ sz h - sz hp; omega) ?_
  intro pc op nx a b os arr st rf' H locs cells' slots' z1 z2 z3 z4 z5 z6 z7 z8 z9 z10 z11 z12
  have hd := hchk y pc _ z1
  unfold dcAll at hd
  dsimp only at hd
  rw [if_neg (by omega), if_neg (by omega), if_neg (by omega), if_neg (by omega), if_neg (by omega)] at hd
  have hr := B.returns
  have hrv := ret_ok z3 z4
  have e1 : cells' = h.length - hp.length := by omega
  have e2 : slots' = sz h - sz hp := by omega
  subst e1 e2
  have hq : ∀ (v : Option Value), r.map (toV rf') = v → ∀ t : State, t.heap = H → s.WarmedH t.vm → QcM base D cA rf hp r h ((as.map (toV rf)).toArray) s (.returned v) t := fun v hv t ht hW => ⟨rf', z5, by rw [hv], by rw [ht]; exact z7, z8, z9, z10, hrv, z6.F ht⟩
  unfold dcE at hd
  unfold retOf at z3
  by_cases q0 : op = 70
  · rw [if_pos q0] at hd z3
    match st, z3, z4 with
    | [v], z3, z4 =>
      change (if v.1 = b.toNat ∧ (a = 1 → v.2 = 0 ∨ v.2 = 1) ∧ (a = 2 → 0 ≤ v.2 ∧ v.2 ≤ 65535) ∧ (a = 3 → -128 ≤ v.2 ∧ v.2 ≤ 127) then some (some v) else none) = some r at z3
      by_cases hc : v.1 = b.toNat ∧ (a = 1 → v.2 = 0 ∨ v.2 = 1) ∧ (a = 2 → 0 ≤ v.2 ∧ v.2 ≤ 65535) ∧ (a = 3 → -128 ≤ v.2 ∧ v.2 ≤ 127)
      · rw [if_pos hc] at z3
        have z3 := Option.some.inj z3
        obtain ⟨hv1, ha1, ha2, ha3⟩ := hc
        obtain ⟨t, x⟩ := v
        dsimp only at hv1 ha1 ha2 ha3
        by_cases b0 : b = 0
        · rw [if_pos b0] at hd
          subst b0
          subst hv1
          simp only [Bool.and_eq_true, Bool.or_eq_true, beq_iff_eq, decide_eq_true_eq] at hd
          obtain ⟨hdq, hd⟩ := hd
          have hxi : in32 x := (z4 _ List.mem_cons_self).int
          have hq1 := hq (some (.int (Int32.ofInt x))) (by rw [← z3]; rfl)
          rcases hd with ((⟨-, hR2⟩ | ⟨ha, hR2⟩) | ⟨ha, hR2⟩) | ⟨ha, hR2⟩
          · exact W.zret (ty := .int) B.exec B.bytes (hr.trans hR2) rfl hq1 z6.2.2 (dq_of hdq)
          · refine W.zret (ty := .boolean) B.exec B.bytes (hr.trans hR2) ?_ hq1 z6.2.2 (dq_of hdq)
            rcases ha1 ha with h | h <;> (subst h; rfl)
          · refine W.zret (ty := .char) B.exec B.bytes (hr.trans hR2) ?_ hq1 z6.2.2 (dq_of hdq)
            have := ha2 ha
            rw [nI_of32 this.1]
            exact (pk_charN (by omega)).1
          · refine W.zret (ty := .byte) B.exec B.bytes (hr.trans hR2) ?_ hq1 z6.2.2 (dq_of hdq)
            have := ha3 ha
            rw [narrow_byte, n_i2b]
            congr 2
            unfold i_byt
            omega
        · rw [if_neg b0] at hd
          by_cases b1 : b = 1
          · rw [if_pos b1] at hd
            subst b1
            subst hv1
            simp only [Bool.and_eq_true, decide_eq_true_eq] at hd
            exact W.lret B.exec B.bytes (hr.trans hd.2) (hq (some (.long (Int64.ofInt x))) (by rw [← z3]; rfl)) z6.2.2 (dq_of hd.1)
          · rw [if_neg b1] at hd
            simp only [Bool.and_eq_true, beq_iff_eq] at hd
            obtain ⟨rfl, hdq, hd⟩ := hd
            subst hv1
            have hq1 := hq (some (va_rf (rf' x))) (by rw [← z3]; rfl)
            have hvv : va_rf (rf' x) = .null ∨ ∃ a, va_rf (rf' x) = .ref a := by
              cases rf' x with
              | none => exact Or.inl rfl
              | some q => exact Or.inr ⟨q, rfl⟩
            cases hRy : mR y with
            | none => rw [hRy] at hd; cases hd
            | some ty =>
              rw [hRy] at hd
              cases ty with
              | object C => exact W.aret (rt := .object C) B.exec B.bytes (hr.trans hRy) (Or.inl ⟨C, rfl⟩) hvv hq1 z6.2.2 (dq_of hdq)
              | array C => exact W.aret (rt := .array C) B.exec B.bytes (hr.trans hRy) (Or.inr ⟨C, rfl⟩) hvv hq1 z6.2.2 (dq_of hdq)
              | _ => cases hd
      · rw [if_neg hc] at z3
        cases z3
  · rw [if_neg q0] at hd z3
    simp only [Bool.and_eq_true, beq_iff_eq, decide_eq_true_eq] at hd
    obtain ⟨q1, hdq, hR2⟩ := hd
    rw [if_pos q1] at z3
    match st, z3 with
    | [], z3 =>
      have z3 := Option.some.inj z3
      exact W.vret B.exec B.bytes (hr.trans hR2) (hq none (by rw [← z3]; rfl)) z6.2.2 (dq_of hdq)
theorem Runs_sound (hchk : ∀ y pc x, cd y pc = some x → dcAll mk ml mN mB mR y pc x = true) (hpl : ∀ y pc x, cd y pc = some x → plainName (mN y).cls = true) : ∀ d, Sound ml mN mB mR sc (Runs cd mk sc stxt ml d) d
  | 0 => fun y as hp r hp' h => h.elim
  | d + 1 => Sound_succ cd mk ml mN mB mR sc (Runs_sound hchk hpl d) hchk hpl
end RUN
end
