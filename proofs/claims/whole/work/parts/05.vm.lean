/-! A SMALL MACHINE over typed memory: the part of the JVM that the class, the reference and the law use. What it does is a function; part 08 says that the JVM does the same. -/
abbrev zMem : Type := (Nat → Nat) × (Nat → Nat) × Nat × Nat × (Nat → Nat → Option Nat) × (Nat → Nat → Int32) × (Nat → Nat → Int64)
/-- code, maxLocals, own class, frames and locals' words that its calls need, name, return type, parameters, kind (0 static, 1 instance, 2 constructor) -/
abbrev zM : Type := ByteArray × Nat × Nat × Nat × Nat × MethodName × Option FieldType × Nat × Nat
/-- kind of a cell: 0 none, c + 1 an object of class c, 20 int[], 21 long[], 22 byte[], 23 boolean[], 24 .. 29 arrays of references, 40 an int array that nobody writes, 41 a String, 42 its bytes -/
def kd (h : zMem) (a : Nat) : Nat := h.1 a
def ln (h : zMem) (a : Nat) : Nat := h.2.1 a
def sz (h : zMem) : Nat := h.2.2.1
def sl (h : zMem) : Nat := h.2.2.2.1
def gR (h : zMem) (a k : Nat) : Option Nat := h.2.2.2.2.1 a k
def gI (h : zMem) (a k : Nat) : Int32 := h.2.2.2.2.2.1 a k
def gL (h : zMem) (a k : Nat) : Int64 := h.2.2.2.2.2.2 a k
def u2 {α : Type} (f : Nat → Nat → α) (a k : Nat) (v : α) : Nat → Nat → α := fun x y => if x = a ∧ y = k then v else f x y
def sR (h : zMem) (a k : Nat) (v : Option Nat) : zMem := (h.1, h.2.1, h.2.2.1, h.2.2.2.1, u2 h.2.2.2.2.1 a k v, h.2.2.2.2.2.1, h.2.2.2.2.2.2)
def sI (h : zMem) (a k : Nat) (v : Int32) : zMem := (h.1, h.2.1, h.2.2.1, h.2.2.2.1, h.2.2.2.2.1, u2 h.2.2.2.2.2.1 a k v, h.2.2.2.2.2.2)
def sL (h : zMem) (a k : Nat) (v : Int64) : zMem := (h.1, h.2.1, h.2.2.1, h.2.2.2.1, h.2.2.2.2.1, h.2.2.2.2.2.1, u2 h.2.2.2.2.2.2 a k v)
/-- a new cell behind all others: kind, length, slots -/
def nw (h : zMem) (k n w : Nat) : zMem := (fun x => if x = h.2.2.1 then k else h.1 x, fun x => if x = h.2.2.1 then n else h.2.1 x, h.2.2.1 + 1, h.2.2.2.1 + w, fun x y => if x = h.2.2.1 then none else h.2.2.2.2.1 x y, fun x y => if x = h.2.2.1 then 0 else h.2.2.2.2.2.1 x y, fun x y => if x = h.2.2.1 then 0 else h.2.2.2.2.2.2 x y)
/-- n new rows of kind k, length w each, and ahead of them their array, of kind K -/
def nwM (h : zMem) (K k n w : Nat) : zMem := (fun x => if x = h.2.2.1 then K else if h.2.2.1 < x ∧ x ≤ h.2.2.1 + n then k else h.1 x, fun x => if x = h.2.2.1 then n else if h.2.2.1 < x ∧ x ≤ h.2.2.1 + n then w else h.2.1 x, h.2.2.1 + 1 + n, h.2.2.2.1 + n + n * w, fun x y => if x = h.2.2.1 then (if y < n then some (h.2.2.1 + 1 + y) else none) else if h.2.2.1 < x ∧ x ≤ h.2.2.1 + n then none else h.2.2.2.2.1 x y, fun x y => if h.2.2.1 ≤ x ∧ x ≤ h.2.2.1 + n then 0 else h.2.2.2.2.2.1 x y, fun x y => if h.2.2.1 ≤ x ∧ x ≤ h.2.2.1 + n then 0 else h.2.2.2.2.2.2 x y)
def cpI (h : zMem) (a sp b dp n : Nat) : zMem := (h.1, h.2.1, h.2.2.1, h.2.2.2.1, h.2.2.2.2.1, fun x y => if x = b ∧ dp ≤ y ∧ y < dp + n then h.2.2.2.2.2.1 a (sp + (y - dp)) else h.2.2.2.2.2.1 x y, h.2.2.2.2.2.2)
def cpL (h : zMem) (a sp b dp n : Nat) : zMem := (h.1, h.2.1, h.2.2.1, h.2.2.2.1, h.2.2.2.2.1, h.2.2.2.2.2.1, fun x y => if x = b ∧ dp ≤ y ∧ y < dp + n then h.2.2.2.2.2.2 a (sp + (y - dp)) else h.2.2.2.2.2.2 x y)
/-- an index within; as a place -/
def inb (i : Int32) (n : Nat) : Bool := decide (0 ≤ i) && decide (i.toNatClampNeg < n)
def ix (i : Int32) : Nat := i.toNatClampNeg
/-- n items from i on lie within -/
def rng (i n : Int32) (w : Nat) : Bool := decide (0 ≤ i) && decide (0 ≤ n) && decide (i.toNatClampNeg + n.toNatClampNeg ≤ w)
/-- locals: a long is followed by zU, what was never set is zU -/
def zU : Value := .retAddr 0
def fx : Value → Value
  | .long _ => zU
  | .double _ => zU
  | v => v
def sto1 : List Value → Nat → Value → List Value
  | [], _, _ => []
  | _ :: r, 0, v => v :: r
  | a :: r, 1, v => fx a :: (match r with | _ :: r' => v :: r' | [] => [])
  | a :: r, i + 2, v => a :: sto1 r (i + 1) v
def sto2 : List Value → Nat → Value → List Value
  | [], _, _ => []
  | _ :: r, 0, v => v :: (match r with | _ :: r' => zU :: r' | [] => [])
  | a :: r, 1, v => fx a :: (match r with | _ :: _ :: r' => v :: zU :: r' | r' => r')
  | a :: r, i + 2, v => a :: sto2 r (i + 1) v
/-- a method's first locals -/
def lcl : List Value → List Value
  | [] => []
  | .long x :: r => .long x :: zU :: lcl r
  | .double x :: r => .double x :: zU :: lcl r
  | v :: r => v :: lcl r
def ent (M : zM) (as : List Value) : List Value := lcl as ++ List.replicate (M.2.1 - (lcl as).length) zU
/-- a field's value: 0 int, 1 long, 2 reference, 3 boolean -/
def fvl (t : Nat) (h : zMem) (a k : Nat) : Value := match t with
  | 1 => .long (gL h a k)
  | 2 => va_rf (gR h a k)
  | _ => .int (gI h a k)
abbrev zRes : Type := Option (Nat × List Value × List Value × zMem)
def goT (pc : Nat) (ls st : List Value) (h : zMem) : zRes := some (pc, ls, st, h)
/-- a jump's target -/
def jmp (pc : Nat) (off : Int) : Nat := ((pc : Int) + off).toNat
def opII (f : Int32 → Int32 → Int32) (n pc : Nat) (ls st : List Value) (h : zMem) : zRes := match st with
  | .int y :: .int x :: r => if n = 1 then goT (pc + 1) ls (.int (f x y) :: r) h else none
  | _ => none
def opLL (f : Int64 → Int64 → Int64) (n pc : Nat) (ls st : List Value) (h : zMem) : zRes := match st with
  | .long y :: .long x :: r => if n = 1 then goT (pc + 1) ls (.long (f x y) :: r) h else none
  | _ => none
def opLI (f : Int64 → Int32 → Int64) (n pc : Nat) (ls st : List Value) (h : zMem) : zRes := match st with
  | .int y :: .long x :: r => if n = 1 then goT (pc + 1) ls (.long (f x y) :: r) h else none
  | _ => none
def opI (f : Int32 → Value) (n pc : Nat) (ls st : List Value) (h : zMem) : zRes := match st with
  | .int x :: r => if n = 1 then goT (pc + 1) ls (f x :: r) h else none
  | _ => none
def opL (f : Int64 → Value) (n pc : Nat) (ls st : List Value) (h : zMem) : zRes := match st with
  | .long x :: r => if n = 1 then goT (pc + 1) ls (f x :: r) h else none
  | _ => none
def opDiv (f : Int32 → Int32 → Int32) (n pc : Nat) (ls st : List Value) (h : zMem) : zRes := match st with
  | .int y :: .int x :: r => if n = 1 ∧ ¬ y = 0 then goT (pc + 1) ls (.int (f x y) :: r) h else none
  | _ => none
def cndI (c : ClassFile.Cond) (x y : Int32) : Bool := match c with
  | .eq => decide (x = y) | .ne => decide (¬ x = y) | .lt => decide (x < y) | .ge => decide (y ≤ x) | .gt => decide (y < x) | .le => decide (x ≤ y)
def opIf (c : ClassFile.Cond) (off : Int) (n pc : Nat) (ls st : List Value) (h : zMem) : zRes := match st with
  | .int x :: r => if n = 3 ∧ 0 ≤ (pc : Int) + off then goT (if cndI c x 0 then jmp pc off else pc + 3) ls r h else none
  | _ => none
def opIcmp (c : ClassFile.Cond) (off : Int) (n pc : Nat) (ls st : List Value) (h : zMem) : zRes := match st with
  | .int y :: .int x :: r => if n = 3 ∧ 0 ≤ (pc : Int) + off then goT (if cndI c x y then jmp pc off else pc + 3) ls r h else none
  | _ => none
def opNul (b : Bool) (off : Int) (n pc : Nat) (ls st : List Value) (h : zMem) : zRes := match st with
  | .null :: r => if n = 3 ∧ 0 ≤ (pc : Int) + off then goT (if b then jmp pc off else pc + 3) ls r h else none
  | .ref _ :: r => if n = 3 ∧ 0 ≤ (pc : Int) + off then goT (if b then pc + 3 else jmp pc off) ls r h else none
  | _ => none
def ldI (i n w pc : Nat) (ls st : List Value) (h : zMem) : zRes := match ls[i]? with
  | some (.int x) => if n = w then goT (pc + w) ls (.int x :: st) h else none
  | _ => none
def ldL (i n w pc : Nat) (ls st : List Value) (h : zMem) : zRes := match ls[i]? with
  | some (.long x) => if n = w then goT (pc + w) ls (.long x :: st) h else none
  | _ => none
def ldA (i n w pc : Nat) (ls st : List Value) (h : zMem) : zRes := match ls[i]? with
  | some (.ref x) => if n = w then goT (pc + w) ls (.ref x :: st) h else none
  | some .null => if n = w then goT (pc + w) ls (.null :: st) h else none
  | _ => none
def stI (i n w pc : Nat) (ls st : List Value) (h : zMem) : zRes := match st with
  | .int x :: r => if n = w ∧ i < ls.length then goT (pc + w) (sto1 ls i (.int x)) r h else none
  | _ => none
def stL (i n w pc : Nat) (ls st : List Value) (h : zMem) : zRes := match st with
  | .long x :: r => if n = w ∧ i + 1 < ls.length then goT (pc + w) (sto2 ls i (.long x)) r h else none
  | _ => none
def stA (i n w pc : Nat) (ls st : List Value) (h : zMem) : zRes := match st with
  | .ref x :: r => if n = w ∧ i < ls.length then goT (pc + w) (sto1 ls i (.ref x)) r h else none
  | .null :: r => if n = w ∧ i < ls.length then goT (pc + w) (sto1 ls i .null) r h else none
  | _ => none
def opInc (i : Nat) (c : Int) (n pc : Nat) (ls st : List Value) (h : zMem) : zRes := match ls[i]? with
  | some (.int x) => if n = 3 then goT (pc + 3) (sto1 ls i (.int (x + Int32.ofInt c))) st h else none
  | _ => none
/-- arrays -/
def opIal (n pc : Nat) (ls st : List Value) (h : zMem) : zRes := match st with
  | .int i :: .ref a :: r => if n = 1 ∧ (kd h a = 20 ∨ kd h a = 40) ∧ inb i (ln h a) = true then goT (pc + 1) ls (.int (gI h a (ix i)) :: r) h else none
  | _ => none
def opLal (n pc : Nat) (ls st : List Value) (h : zMem) : zRes := match st with
  | .int i :: .ref a :: r => if n = 1 ∧ kd h a = 21 ∧ inb i (ln h a) = true then goT (pc + 1) ls (.long (gL h a (ix i)) :: r) h else none
  | _ => none
def opBal (n pc : Nat) (ls st : List Value) (h : zMem) : zRes := match st with
  | .int i :: .ref a :: r => if n = 1 ∧ (kd h a = 22 ∨ kd h a = 23 ∨ kd h a = 42) ∧ inb i (ln h a) = true then goT (pc + 1) ls (.int (gI h a (ix i)) :: r) h else none
  | _ => none
def opAal (n pc : Nat) (ls st : List Value) (h : zMem) : zRes := match st with
  | .int i :: .ref a :: r => if n = 1 ∧ (24 ≤ kd h a ∧ kd h a < 30) ∧ inb i (ln h a) = true then goT (pc + 1) ls (va_rf (gR h a (ix i)) :: r) h else none
  | _ => none
def opIas (n pc : Nat) (ls st : List Value) (h : zMem) : zRes := match st with
  | .int v :: .int i :: .ref a :: r => if n = 1 ∧ kd h a = 20 ∧ inb i (ln h a) = true then goT (pc + 1) ls r (sI h a (ix i) v) else none
  | _ => none
def opLas (n pc : Nat) (ls st : List Value) (h : zMem) : zRes := match st with
  | .long v :: .int i :: .ref a :: r => if n = 1 ∧ kd h a = 21 ∧ inb i (ln h a) = true then goT (pc + 1) ls r (sL h a (ix i) v) else none
  | _ => none
def opBas (n pc : Nat) (ls st : List Value) (h : zMem) : zRes := match st with
  | .int v :: .int i :: .ref a :: r => if n = 1 ∧ (kd h a = 22 ∨ kd h a = 23) ∧ inb i (ln h a) = true then goT (pc + 1) ls r (sI h a (ix i) (if kd h a = 22 then v.toInt8.toInt32 else v &&& 1)) else none
  | _ => none
/-- which kind of cell may lie in an array of references -/
def elK (k : Nat) : Nat := match k with
  | 24 => 9 | 25 => 3 | 26 => 2 | 27 => 41 | _ => 0
def opAas (n pc : Nat) (ls st : List Value) (h : zMem) : zRes := match st with
  | .ref v :: .int i :: .ref a :: r => if n = 1 ∧ (24 ≤ kd h a ∧ kd h a < 28) ∧ kd h v = elK (kd h a) ∧ inb i (ln h a) = true then goT (pc + 1) ls r (sR h a (ix i) (some v)) else none
  | _ => none
def opAln (n pc : Nat) (ls st : List Value) (h : zMem) : zRes := match st with
  | .ref a :: r => if n = 1 ∧ (20 ≤ kd h a ∧ kd h a ≤ 42 ∧ ¬ kd h a = 41 ∧ ¬ (30 ≤ kd h a ∧ kd h a < 40)) then goT (pc + 1) ls (.int (nI (ln h a)) :: r) h else none
  | _ => none
