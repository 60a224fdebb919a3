/-! ===== the flat machine: a heap of numbers, references and kinds; a segment of code as a condition on what comes behind it ===== -/
/-- ints by object and place; references; longs; the kind of an object (its class's number, or an array's kind and length); how many there are -/
abbrev AH : Type := (Nat → Nat → Int32) × (Nat → Nat → Option Nat) × (Nat → Nat → Int64) × (Nat → Option (Nat ⊕ (Nat × Nat))) × Nat
def gi (h : AH) : Nat → Nat → Int32 := h.1
def gr (h : AH) : Nat → Nat → Option Nat := h.2.1
def gl (h : AH) : Nat → Nat → Int64 := h.2.2.1
def gk (h : AH) : Nat → Option (Nat ⊕ (Nat × Nat)) := h.2.2.2.1
def gn (h : AH) : Nat := h.2.2.2.2
def up {α : Type} (f : Nat → α) (k : Nat) (v : α) : Nat → α := fun j => if j = k then v else f j
def wi (h : AH) (a k : Nat) (v : Int32) : AH := (up (gi h) a (up (gi h a) k v), h.2)
def wr (h : AH) (a k : Nat) (v : Option Nat) : AH := (h.1, up (gr h) a (up (gr h a) k v), h.2.2)
def wl (h : AH) (a k : Nat) (v : Int64) : AH := (h.1, h.2.1, up (gl h) a (up (gl h a) k v), h.2.2.2)
/-- a whole array of ints anew -/
def wa (h : AH) (a : Nat) (f : Nat → Int32) : AH := (up (gi h) a f, h.2)
def al (h : AH) (kd : Nat ⊕ (Nat × Nat)) : AH := (up (gi h) (gn h) (fun _ => 0), up (gr h) (gn h) (fun _ => none), up (gl h) (gn h) (fun _ => 0), up (gk h) (gn h) (some kd), gn h + 1)
/-- n rows of K ints each, and the row of them ahead of them -/
def alm (h : AH) (n K : Nat) : AH := (fun a => if gn h ≤ a ∧ a ≤ gn h + n then (fun _ => 0) else gi h a, fun a => if a = gn h then (fun j => if j < n then some (gn h + 1 + j) else none) else if gn h < a ∧ a ≤ gn h + n then (fun _ => none) else gr h a,
  fun a => if gn h ≤ a ∧ a ≤ gn h + n then (fun _ => 0) else gl h a, fun a => if a = gn h then some (.inr (7, n)) else if gn h < a ∧ a ≤ gn h + n then some (.inr (0, K)) else gk h a, gn h + 1 + n)
/-- what nobody can reach was made -/
def gb (h : AH) (n : Nat) : AH := (h.1, h.2.1, h.2.2.1, h.2.2.2.1, n)
abbrev LL : Type := List (Option Value)
def lg : LL → Nat → Option Value
  | [], _ => none
  | a :: _, 0 => a
  | _ :: l, n + 1 => lg l n
def ls0 : LL → Nat → Option Value → LL
  | [], _, _ => []
  | _ :: l, 0, v => v :: l
  | a :: l, n + 1, v => a :: ls0 l n v
/-- the long that a store at i cuts in two is lost -/
def lk : LL → Nat → LL
  | l, 0 => l
  | l, i + 1 => match lg l i with
    | some (.long _) => ls0 l i none
    | some (.double _) => ls0 l i none
    | _ => l
def ls1 (l : LL) (i : Nat) (v : Value) : LL := ls0 (lk l i) i (some v)
def ls2 (l : LL) (i : Nat) (v : Value) : LL := ls0 (ls0 (lk l i) i (some v)) (i + 1) none
def lsub (l l' : LL) : Prop := l.length = l'.length ∧ ∀ i v, lg l i = some v → lg l' i = some v
def kI : Option Value → (Int32 → Prop) → Prop
  | some (.int x), K => K x
  | _, _ => False
def kL : Option Value → (Int64 → Prop) → Prop
  | some (.long x), K => K x
  | _, _ => False
def kR : Option Value → (Option Nat → Prop) → Prop
  | some (.ref a), K => K (some a)
  | some .null, K => K none
  | _, _ => False
def s1I : List Value → (Int32 → List Value → Prop) → Prop
  | .int x :: r, K => K x r
  | _, _ => False
def s2I : List Value → (Int32 → Int32 → List Value → Prop) → Prop
  | .int y :: .int x :: r, K => K x y r
  | _, _ => False
def s1L : List Value → (Int64 → List Value → Prop) → Prop
  | .long x :: r, K => K x r
  | _, _ => False
def s2L : List Value → (Int64 → Int64 → List Value → Prop) → Prop
  | .long y :: .long x :: r, K => K x y r
  | _, _ => False
/-- a reference, or null -/
def s1R : List Value → (Option Nat → List Value → Prop) → Prop
  | .ref a :: r, K => K (some a) r
  | .null :: r, K => K none r
  | _, _ => False
/-- a reference -/
def s1A : List Value → (Nat → List Value → Prop) → Prop
  | .ref a :: r, K => K a r
  | _, _ => False
/-- an object of class c -/
def kO (k : Option (Nat ⊕ (Nat × Nat))) (c : Nat) : Prop := k = some (.inl c)
/-- an array of kind t: its length -/
def kA : Option (Nat ⊕ (Nat × Nat)) → Nat → (Nat → Prop) → Prop
  | some (.inr (t', n)), t, K => t' = t ∧ K n
  | _, _, _ => False
def ix (j : Int32) : Nat := j.toNatClampNeg
/-- the place j of n -/
def inb (j : Int32) (n : Nat) : Prop := 0 ≤ j ∧ ix j < n
def cmpc : ClassFile.Cond → Int32 → Int32 → Prop
  | .eq, x, y => x = y
  | .ne, x, y => ¬ x = y
  | .lt, x, y => x < y
  | .ge, x, y => y ≤ x
  | .gt, x, y => y < x
  | .le, x, y => x ≤ y
/-- the first n of a stack, the deepest first, and what lies below -/
def popn : Nat → List Value → List Value → (List Value → List Value → Prop) → Prop
  | 0, st, acc, K => K acc st
  | n + 1, v :: st, acc, K => popn n st (v :: acc) K
  | _ + 1, [], _, _ => False
/-- the receiver -/
def hdO : List Value → AH → Nat → Prop
  | .ref a :: _, h, c => kO (gk h a) c
  | _, _, _ => False
/-- the classes whose objects lie in arrays of kind t -/
def ecl : Nat → Nat
  | 4 => 4
  | 5 => 10
  | _ => 8
def nfc : Nat → Nat
  | 0 => 6
  | 1 => 7
  | 2 => 2
  | 3 => 11
  | 4 => 11
  | 5 => 6
  | 6 => 8
  | 7 => 2
  | 8 => 19
  | 9 => 2
  | 10 => 2
  | 11 => 18
  | _ => 85
def aty : ClassFile.ArrayType → Nat
  | .int => 0
  | .boolean => 1
  | .byte => 2
  | .long => 3
  | _ => 9
/-- what a method whose answers are of a type may give -/
def rtok : Option FieldType → Option (Option Value) → Prop
  | some .boolean, some (some (.int x)) => x = 0 ∨ x = 1
  | some .int, some (some (.int _)) => True
  | some .byte, some (some (.int x)) => x = 0 ∨ x = 1
  | some .char, some (some (.int x)) => 0 ≤ x ∧ x ≤ 255
  | some .long, some (some (.long _)) => True
  | some (.object _), some (some (.ref _)) => True
  | some (.object _), some (some .null) => True
  | some (.array _), some (some (.ref _)) => True
  | none, some none => True
  | _, none => True
  | _, _ => False
def swt (P : Nat → Prop) (x : Int32) (d : Int) : List Int → Int → Prop
  | [], _ => P d.toNat
  | t :: l, lo => (x = Int32.ofInt lo → P t.toNat) ∧ (¬ x = Int32.ofInt lo → swt P x d l (lo + 1))
/-- what may lie below a call's arguments: eight slots at most -/
def slk (r : List Value) : Prop := (r.map fun v => v.category).sum ≤ 8
section FLAT
variable (C : Nat → List Value → AH → Nat → Nat → (Option (Option Value) → AH → Prop) → Prop) (mc ms : Nat) (P : Nat → LL → List Value → AH → Nat → Nat → Prop) (Q : Option (Option Value) → AH → Prop)
/-- what must hold ahead of an instruction, for what must hold behind it (K where it goes on, P where it jumps, Q where it ends) -/
def stp (i : Instr) (ls : LL) (st : List Value) (h : AH) (c z : Nat) (K : LL → List Value → AH → Nat → Nat → Prop) : Prop :=
  match i with
  | .iconst v => K ls (.int (Int32.ofInt v) :: st) h c z
  | .bipush v => K ls (.int (Int32.ofInt v) :: st) h c z
  | .goto_w v => K ls (.long (Int64.ofInt v) :: st) h c z
  | .jsr_w v => K ls (.long (Int64.ofInt v) :: st) h c z
  | .fadd => s2I st fun x y r => slk r ∧ K ls (.int (if x < y then y else x) :: r) h c z
  | .fsub => s2I st fun x y r => slk r ∧ K ls (.int (if y < x then y else x) :: r) h c z
  | .dadd => s2L st fun x y r => slk r ∧ K ls (.long (if y < x then x else y) :: r) h c z
  | .dsub => s2L st fun x y r => slk r ∧ K ls (.long (if y < x then y else x) :: r) h c z
  | .aconst_null => K ls (.null :: st) h c z
  | .ldc a => K ls (.ref a :: st) h c z
  | .dload _ => K ls (.int 1 :: st) h c z
  | .fload _ => K ls (.null :: st) h c z ∧ K ls (.ref 18 :: st) h c z
  | .iload j => kI (lg ls j) fun x => K ls (.int x :: st) h c z
  | .lload j => kL (lg ls j) fun x => K ls (.long x :: st) h c z
  | .aload j => kR (lg ls j) fun x => K ls (va_rf x :: st) h c z
  | .istore j => s1I st fun x r => j < ls.length ∧ K (ls1 ls j (.int x)) r h c z
  | .lstore j => s1L st fun x r => j + 1 < ls.length ∧ K (ls2 ls j (.long x)) r h c z
  | .astore j => s1R st fun x r => j < ls.length ∧ K (ls1 ls j (va_rf x)) r h c z
  | .iinc j v => kI (lg ls j) fun x => K (ls1 ls j (.int (x + Int32.ofInt v))) st h c z
  | .iadd => s2I st fun x y r => K ls (.int (x + y) :: r) h c z
  | .isub => s2I st fun x y r => K ls (.int (x - y) :: r) h c z
  | .imul => s2I st fun x y r => K ls (.int (x * y) :: r) h c z
  | .iand => s2I st fun x y r => K ls (.int (x &&& y) :: r) h c z
  | .ior => s2I st fun x y r => K ls (.int (x ||| y) :: r) h c z
  | .ixor => s2I st fun x y r => K ls (.int (x ^^^ y) :: r) h c z
  | .ishl => s2I st fun x y r => K ls (.int (x <<< (y &&& 31)) :: r) h c z
  | .ishr => s2I st fun x y r => K ls (.int (x >>> (y &&& 31)) :: r) h c z
  | .iushr => s2I st fun x y r => K ls (.int (x.toUInt32 >>> (y.toUInt32 &&& Int32.toUInt32 31)).toInt32 :: r) h c z
  | .idiv => s2I st fun x y r => ¬ y = 0 ∧ K ls (.int (x / y) :: r) h c z
  | .irem => s2I st fun x y r => ¬ y = 0 ∧ K ls (.int (x - x / y * y) :: r) h c z
  | .ineg => s1I st fun x r => K ls (.int (-x) :: r) h c z
  | .ladd => s2L st fun x y r => K ls (.long (x + y) :: r) h c z
  | .lsub => s2L st fun x y r => K ls (.long (x - y) :: r) h c z
  | .lmul => s2L st fun x y r => K ls (.long (x * y) :: r) h c z
  | .land => s2L st fun x y r => K ls (.long (x &&& y) :: r) h c z
  | .lor => s2L st fun x y r => K ls (.long (x ||| y) :: r) h c z
  | .ldiv => s2L st fun x y r => ¬ y = 0 ∧ K ls (.long (x / y) :: r) h c z
  | .lshl => s1I st fun y r => s1L r fun x r => K ls (.long (x <<< (y.toInt64 &&& 63)) :: r) h c z
  | .lcmp => s2L st fun x y r => K ls (.int (lg_cmp x y) :: r) h c z
  | .i2l => s1I st fun x r => K ls (.long x.toInt64 :: r) h c z
  | .l2i => s1L st fun x r => K ls (.int x.toInt32 :: r) h c z
  | .i2b => s1I st fun x r => K ls (.int x.toInt8.toInt32 :: r) h c z
  | .i2c => s1I st fun x r => K ls (.int (x.toUInt32 % 65536).toInt32 :: r) h c z
  | .dup => match st with
    | v :: r => v.category = 1 ∧ K ls (v :: v :: r) h c z
    | _ => False
  | .dup2 => match st with
    | v :: w :: r => (v.category = 1 ∧ w.category = 1) ∧ K ls (v :: w :: v :: w :: r) h c z
    | _ => False
  | .pop => match st with
    | v :: r => v.category = 1 ∧ K ls r h c z
    | _ => False
  | .nop => s1A st fun _ r => slk r ∧ K ls r h c z
  | .goto t => P t.toNat ls st h c z
  | .if_icmp cd t => s2I st fun x y r => (cmpc cd x y → P t.toNat ls r h c z) ∧ (¬ cmpc cd x y → K ls r h c z)
  | .ifCond cd t => s1I st fun x r => (cmpc cd x 0 → P t.toNat ls r h c z) ∧ (¬ cmpc cd x 0 → K ls r h c z)
  | .ifnull t => s1R st fun x r => (x = none → P t.toNat ls r h c z) ∧ (¬ x = none → K ls r h c z)
  | .ifnonnull t => s1R st fun x r => (¬ x = none → P t.toNat ls r h c z) ∧ (x = none → K ls r h c z)
  | .tableswitch d lo _ offs => s1I st fun x r => swt (fun t => P t ls r h c z) x d offs.toList lo
  | .getfield n => s1A st fun a r => kO (gk h a) (n / 256) ∧ K ls (.int (gi h a (n % 256)) :: r) h c z
  | .getstatic n => s1A st fun a r => kO (gk h a) (n / 256) ∧ K ls (va_rf (gr h a (n % 256)) :: r) h c z
  | .putfield n => s1I st fun x r => s1A r fun a r => (kO (gk h a) (n / 256) ∧ 20 ≤ a) ∧ K ls r (wi h a (n % 256) x) c z
  | .fstore n => s1I st fun x r => s1A r fun a r => (kO (gk h a) (n / 256) ∧ 20 ≤ a ∧ (x = 0 ∨ x = 1)) ∧ K ls r (wi h a (n % 256) x) c z
  | .putstatic n => s1R st fun x r => s1A r fun a r => (kO (gk h a) (n / 256) ∧ 20 ≤ a) ∧ K ls r (wr h a (n % 256) x) c z
  | .iaload => s1I st fun j r => s1A r fun a r => kA (gk h a) 0 fun n => inb j n ∧ K ls (.int (gi h a (ix j)) :: r) h c z
  | .caload => s1I st fun j r => s1A r fun a r => kA (gk h a) 1 fun n => inb j n ∧ K ls (.int (gi h a (ix j)) :: r) h c z
  | .baload => s1I st fun j r => s1A r fun a r => kA (gk h a) 2 fun n => inb j n ∧ K ls (.int (gi h a (ix j)) :: r) h c z
  | .laload => s1I st fun j r => s1A r fun a r => kA (gk h a) 3 fun n => inb j n ∧ K ls (.long (gl h a (ix j)) :: r) h c z
  | .aaload => s1I st fun j r => s1A r fun a r => (∃ t n, gk h a = some (.inr (t, n)) ∧ 4 ≤ t ∧ t < 8 ∧ inb j n) ∧ K ls (va_rf (gr h a (ix j)) :: r) h c z
  | .iastore => s2I st fun j x r => s1A r fun a r => kA (gk h a) 0 fun n => (inb j n ∧ 20 ≤ a) ∧ K ls r (wi h a (ix j) x) c z
  | .castore => s2I st fun j x r => s1A r fun a r => kA (gk h a) 1 fun n => (inb j n ∧ 20 ≤ a ∧ (x = 0 ∨ x = 1)) ∧ K ls r (wi h a (ix j) x) c z
  | .bastore => s2I st fun j x r => s1A r fun a r => kA (gk h a) 2 fun n => (inb j n ∧ 20 ≤ a) ∧ K ls r (wi h a (ix j) x.toInt8.toInt32) c z
  | .lastore => s1L st fun x r => s1I r fun j r => s1A r fun a r => kA (gk h a) 3 fun n => (inb j n ∧ 20 ≤ a) ∧ K ls r (wl h a (ix j) x) c z
  | .aastore => s1R st fun x r => s1I r fun j r => s1A r fun a r => (∃ t n, gk h a = some (.inr (t, n)) ∧ 4 ≤ t ∧ t < 7 ∧ inb j n ∧ 20 ≤ a ∧ ∀ b, x = some b → 20 ≤ b ∧ kO (gk h b) (ecl t)) ∧ K ls r (wr h a (ix j) x) c z
  | .arraylength => s1A st fun a r => ∃ t n, gk h a = some (.inr (t, n)) ∧ K ls (.int (nI n) :: r) h c z
  | .new k => (c + 1 ≤ mc ∧ z + nfc k ≤ ms) ∧ K ls (.ref (gn h) :: st) (al h (.inl k)) (c + 1) (z + nfc k)
  | .newarray ty => s1I st fun n r => (0 ≤ n ∧ ix n ≤ 65536 ∧ c + 1 ≤ mc ∧ z + ix n ≤ ms) ∧ K ls (.ref (gn h) :: r) (al h (.inr (aty ty, ix n))) (c + 1) (z + ix n)
  | .anewarray t => s1I st fun n r => (0 ≤ n ∧ ix n ≤ 65536 ∧ c + 1 ≤ mc ∧ z + ix n ≤ ms) ∧ K ls (.ref (gn h) :: r) (al h (.inr (t, ix n))) (c + 1) (z + ix n)
  | .multianewarray _ _ => s2I st fun n k r => ((0 ≤ n ∧ ix n ≤ 256 ∧ 0 ≤ k ∧ ix k ≤ 256) ∧ c + 1 + ix n ≤ mc ∧ z + ix n + ix n * ix k ≤ ms) ∧ K ls (.ref (gn h) :: r) (alm h (ix n) (ix k)) (c + 1 + ix n) (z + ix n + ix n * ix k)
  | .monitorenter => s2I st fun dp n r => s1A r fun d r => s1I r fun sp r => s1A r fun s r => kA (gk h d) 0 fun nd => kA (gk h s) 0 fun ns => ((0 ≤ sp ∧ 0 ≤ dp ∧ 0 ≤ n ∧ ix sp + ix n ≤ ns ∧ ix dp + ix n ≤ nd) ∧ 20 ≤ d ∧ 20 ≤ s ∧ slk r) ∧ K ls r (wa h d (va_cpy (gi h s) (gi h d) (ix sp) (ix dp) (ix n))) c z
  | .invokevirtual w => popn (w / 100 % 100) st [] fun as r => (slk r ∧ hdO as h (w % 100)) ∧ ∃ R a b, C (w / 10000) as h a b R ∧ (c + a ≤ mc ∧ z + b ≤ ms) ∧ ∀ v h', R v h' → match v with
    | some (some x) => K ls (x :: r) h' (c + a) (z + b)
    | some none => K ls r h' (c + a) (z + b)
    | none => False
  | .invokeinterface k n => popn n st [] fun as r => slk r ∧ ∃ R a b, C k as h a b R ∧ (c + a ≤ mc ∧ z + b ≤ ms) ∧ ∀ v h', R v h' → match v with
    | some (some x) => K ls (x :: r) h' (c + a) (z + b)
    | some none => K ls r h' (c + a) (z + b)
    | none => False
  | .invokedynamic w => popn (w / 1000 % 1000) st [] fun as r => (slk r ∧ hdO as h 11) ∧ ∃ R a b, C (w / 1000000) as h a b R ∧ (c + a ≤ mc ∧ z + b ≤ ms) ∧ ∀ v h', R v h' → match v with
    | some (some x) => K ls (x :: r) h' (c + a) (z + b)
    | some none => K ls r h' (c + a) (z + b)
    | none => ∀ m, gn h' ≤ m → P (w % 1000 + 2) [] [] (gb h' m) (c + a) (z + b)
  | .athrow => (c + 1 ≤ mc ∧ z + 6 ≤ ms ∧ slk st) ∧ ∀ m, gn h ≤ m → Q none (gb h m)
  | .ireturn => match st with
    | [.int x] => Q (some (some (.int x))) h
    | _ => False
  | .lreturn => match st with
    | [.long x] => Q (some (some (.long x))) h
    | _ => False
  | .areturn => match st with
    | [.ref a] => Q (some (some (.ref a))) h
    | [.null] => Q (some (some .null)) h
    | _ => False
  | .return_ => match st with
    | [] => Q (some none) h
    | _ => False
  | _ => False
def blk : List (Instr × Nat) → Nat → LL → List Value → AH → Nat → Nat → Prop
  | [], pc, ls, st, h, c, z => P pc ls st h c z
  | (i, n) :: is, pc, ls, st, h, c, z => stp C mc ms P Q i ls st h c z (fun ls st h c z => blk is (pc + n) ls st h c z)
end FLAT
