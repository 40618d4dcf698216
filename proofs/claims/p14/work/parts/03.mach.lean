/-! THE SMALL MACHINE: values are the machine's, but a reference is a PLACE in the world (the first xN0 places are the cells that are only read); a heap is a size and a function. Its runs are functions; part 04 ties them to the machine. -/
abbrev xH : Type := Nat × (Nat → va_E)
abbrev xL : Type := List (Nat × Value)
/-- place in the code, length, instruction, notes (what its numbers link to) -/
abbrev xI : Type := Nat × Nat × Instr × List Nat
/-- a method: name, bytes, locals, return type, code, handlers (from, to, where, entry of the class, class) -/
abbrev xM : Type := MethodName × ByteArray × Nat × Option FieldType × List xI × List (Nat × Nat × Nat × Nat × String)
def xld : xL → Nat → Option Value
  | [], _ => none
  | q :: l, i => if q.1 = i then some q.2 else xld l i
def xf1 (i : Nat) (q : Nat × Value) : Bool := !(q.1 == i) && !(q.1 + 1 == i && q.2.category == 2)
def xf2 (i : Nat) (q : Nat × Value) : Bool := !(q.1 == i) && (!(q.1 == i + 1) && !(q.1 + 1 == i && q.2.category == 2))
def xst1 (l : xL) (i : Nat) (v : Value) : xL := (i, v) :: l.filter (xf1 i)
def xst2 (l : xL) (i : Nat) (v : Value) : xL := (i, v) :: l.filter (xf2 i)
def xset (h : xH) (k : Nat) (e : va_E) : xH := (h.1, fun j => if j = k then e else h.2 j)
def xpush (h : xH) (e : va_E) : xH := (h.1 + 1, fun j => if j = h.1 then e else h.2 j)
-- what only the stack sees
def x1i (f : Int32 → Value) : List Value → Option (List Value)
  | .int x :: r => some (f x :: r)
  | _ => none
def x2i (f : Int32 → Int32 → Value) : List Value → Option (List Value)
  | .int y :: .int x :: r => some (f x y :: r)
  | _ => none
def x2d (f : Int32 → Int32 → Value) : List Value → Option (List Value)
  | .int y :: .int x :: r => if y = 0 then none else some (f x y :: r)
  | _ => none
def x1l (f : Int64 → Value) : List Value → Option (List Value)
  | .long x :: r => some (f x :: r)
  | _ => none
def x2l (f : Int64 → Int64 → Value) : List Value → Option (List Value)
  | .long y :: .long x :: r => some (f x y :: r)
  | _ => none
def x2m (f : Int64 → Int64 → Value) : List Value → Option (List Value)
  | .long y :: .long x :: r => if y = 0 then none else some (f x y :: r)
  | _ => none
def xpure (i : Instr) (an : List Nat) (st : List Value) : Option (List Value) := match i with
  | .iconst n => some (.int (Int32.ofInt n) :: st)
  | .bipush n => some (.int (Int8.ofInt n).toInt32 :: st)
  | .sipush n => some (.int (Int16.ofInt n).toInt32 :: st)
  | .lconst n => some (.long (Int64.ofNat (n : Nat)) :: st)
  | .ldc _ => some (.int (Int32.ofNat (an.getD 0 0)) :: st)
  | .ldc_w _ => some (.int (Int32.ofNat (an.getD 0 0)) :: st)
  | .ldc2_w _ => some (.long (Int64.ofNat (an.getD 0 0)) :: st)
  | .aconst_null => some (.null :: st)
  | .iadd => x2i (fun x y => .int (x + y)) st
  | .isub => x2i (fun x y => .int (x - y)) st
  | .imul => x2i (fun x y => .int (x * y)) st
  | .idiv => x2d (fun x y => .int (x / y)) st
  | .irem => x2d (fun x y => .int (x - x / y * y)) st
  | .ineg => x1i (fun x => .int (-x)) st
  | .ishl => x2i (fun x y => .int (x <<< (y &&& 31))) st
  | .ishr => x2i (fun x y => .int (x >>> (y &&& 31))) st
  | .iushr => x2i (fun x y => .int (x.toUInt32 >>> (y.toUInt32 &&& Int32.toUInt32 31)).toInt32) st
  | .iand => x2i (fun x y => .int (x &&& y)) st
  | .ior => x2i (fun x y => .int (x ||| y)) st
  | .ixor => x2i (fun x y => .int (x ^^^ y)) st
  | .i2l => x1i (fun x => .long x.toInt64) st
  | .i2b => x1i (fun x => .int x.toInt8.toInt32) st
  | .i2c => x1i (fun x => .int (x.toUInt32 % 65536).toInt32) st
  | .l2i => x1l (fun x => .int x.toInt32) st
  | .ladd => x2l (fun x y => .long (x + y)) st
  | .lsub => x2l (fun x y => .long (x - y)) st
  | .lmul => x2l (fun x y => .long (x * y)) st
  | .ldiv => x2m (fun x y => .long (x / y)) st
  | .lcmp => x2l (fun x y => .int (lg_cmp x y)) st
  | .dup => match st with
    | v :: r => if v.category = 1 then some (v :: v :: r) else none
    | _ => none
  | .dup_x1 => match st with
    | v :: u :: r => if v.category = 1 ∧ u.category = 1 then some (v :: u :: v :: r) else none
    | _ => none
  | .dup2 => match st with
    | v :: u :: r => if v.category = 1 ∧ u.category = 1 then some (v :: u :: v :: u :: r) else none
    | _ => none
  | .pop => match st with
    | v :: r => if v.category = 1 then some r else none
    | _ => none
  | .pop2 => match st with
    | v :: r => if v.category = 2 then some r else none
    | _ => none
  | _ => none
/-- Math.max, Math.min -/
def xmath (an : List Nat) (st : List Value) : Option (List Value) := match an with
  | 0 :: _ => x2i (fun x y => .int (if x < y then y else x)) st
  | 1 :: _ => x2i (fun x y => .int (if y < x then y else x)) st
  | _ => none
-- what locals and the stack see
def xldi (l : xL) (i : Nat) (st : List Value) : Option (xL × List Value) := match xld l i with
  | some (.int x) => some (l, .int x :: st)
  | _ => none
def xldl (l : xL) (i : Nat) (st : List Value) : Option (xL × List Value) := match xld l i with
  | some (.long x) => some (l, .long x :: st)
  | _ => none
def xlda (l : xL) (i : Nat) (st : List Value) : Option (xL × List Value) := match xld l i with
  | some (.ref x) => some (l, .ref x :: st)
  | some .null => some (l, .null :: st)
  | some (.retAddr x) => some (l, .retAddr x :: st)
  | _ => none
def xsti (nL : Nat) (l : xL) (i : Nat) (st : List Value) : Option (xL × List Value) := match st with
  | .int x :: r => if i < nL then some (xst1 l i (.int x), r) else none
  | _ => none
def xsta (nL : Nat) (l : xL) (i : Nat) (st : List Value) : Option (xL × List Value) := match st with
  | .ref x :: r => if i < nL then some (xst1 l i (.ref x), r) else none
  | .null :: r => if i < nL then some (xst1 l i .null, r) else none
  | .retAddr x :: r => if i < nL then some (xst1 l i (.retAddr x), r) else none
  | _ => none
def xstl (nL : Nat) (l : xL) (i : Nat) (st : List Value) : Option (xL × List Value) := match st with
  | .long x :: r => if i + 1 < nL then some (xst2 l i (.long x), r) else none
  | _ => none
def xloc (nL : Nat) (i : Instr) (l : xL) (st : List Value) : Option (xL × List Value) := match i with
  | .iload k => xldi l k st
  | .iload_n k => xldi l k st
  | .lload k => xldl l k st
  | .lload_n k => xldl l k st
  | .aload k => xlda l k st
  | .aload_n k => xlda l k st
  | .istore k => xsti nL l k st
  | .istore_n k => xsti nL l k st
  | .lstore k => xstl nL l k st
  | .lstore_n k => xstl nL l k st
  | .astore k => xsta nL l k st
  | .astore_n k => xsta nL l k st
  | .iinc k n => match xld l k with
    | some (.int x) => if k < nL then some (xst1 l k (.int (x + Int32.ofInt n)), st) else none
    | _ => none
  | _ => none
-- what the heap sees; two numbers: cells and slots that are new
def xfit (ty : FieldType) (v : Value) : Bool := match ty, v with
  | .int, .int _ => true
  | .long, .long _ => true
  | .boolean, .int x => x == 0 || x == 1
  | .byte, .int x => -128 ≤ x && x ≤ 127
  | .object _, .ref _ => true
  | .object _, .null => true
  | .array _, .ref _ => true
  | .array _, .null => true
  | _, _ => false
def xty (ci k : Nat) : FieldType := (xTy.getD ci (fun _ => .int)) k
def xwant (i : Int32) (n : Nat) : Bool := decide (¬ (i < 0 ∨ n ≤ i.toNatClampNeg))
def xfresh (ci n : Nat) : List Value := (List.range n).map (fun k => defaultValue (xty ci k))
def xheap (i : Instr) (an : List Nat) (st : List Value) (h : xH) : Option (List Value × xH × Nat × Nat) := match i with
  | .getfield _ => match st, an with
    | .ref a :: r, ci :: k :: _ => if a < h.1 ∧ (Nat.beq ci 0 && Nat.ble 2 k) = false then (match h.2 a with
      | .inr (c, fs) => if c = ci then (match fs[k]? with
        | some v => some (v :: r, h, 0, 0)
        | none => none) else none
      | _ => none) else none
    | _, _ => none
  | .putfield _ => match st, an with
    | v :: .ref a :: r, ci :: k :: _ => if a < h.1 ∧ xN0 ≤ a ∧ xfit (xty ci k) v = true then (match h.2 a with
      | .inr (c, fs) => if c = ci ∧ k < fs.length then some (r, xset h a (.inr (ci, fs.set k v)), 0, 0) else none
      | _ => none) else none
    | _, _ => none
  | .getstatic _ => match an with
    | 0 :: x :: _ => some (.int (Int32.ofNat x) :: st, h, 0, 0)
    | 1 :: x :: _ => if x < xN0 ∧ x < h.1 then some (.ref x :: st, h, 0, 0) else none
    | 2 :: _ => some (.retAddr 0 :: st, h, 0, 0)
    | _ => none
  | .ldc _ | .ldc_w _ => match an with
    | 300 :: x :: _ => if x < xN0 ∧ x < h.1 then some (.ref x :: st, h, 0, 0) else none
    | 301 :: _ => some (.retAddr 1 :: st, h, 0, 0)
    | _ => none
  | .invokevirtual _ => match st with
    | .ref a :: r => if an.headD 0 = 2 ∧ a < h.1 ∧ xN0 ≤ a ∧ (r.map fun v => v.category).sum ≤ 8 then (match h.2 a with
      | .inl (3, _, _) => some (.retAddr 1 :: r, h, 0, 0)
      | _ => none) else if an.headD 0 = 6 ∧ a < h.1 ∧ xN0 ≤ a ∧ (r.map fun v => v.category).sum ≤ 8 then (match h.2 a with
      | .inl (2, m, .inl f) => if ∀ i : Nat, i < m → fits .byte (.int (f i)) = true then some (.ref h.1 :: r, xpush h (.inl (2, m, .inl f)), 1, m) else none
      | _ => none) else none
    | _ => none
  | .invokestatic _ => match st with
    | .int n :: .int dp :: .ref b :: .int sp :: .ref a :: r => if an.headD 0 = 3 ∧ a < h.1 ∧ b < h.1 ∧ xN0 ≤ b ∧ ¬ a = b ∧ ¬ sp < 0 ∧ ¬ dp < 0 ∧ ¬ n < 0 ∧ (r.map fun v => v.category).sum ≤ 8 then (match h.2 a, h.2 b with
      | .inl (2, m0, .inl f), .inl (2, m1, .inl g) => if sp.toNatClampNeg + n.toNatClampNeg ≤ m0 ∧ dp.toNatClampNeg + n.toNatClampNeg ≤ m1 ∧ (∀ i : Nat, i < n.toNatClampNeg → fits .byte (.int (f (sp.toNatClampNeg + i))) = true) then some (r, xset h b (.inl (2, m1, .inl (va_cpy f g sp.toNatClampNeg dp.toNatClampNeg n.toNatClampNeg))), 0, 0) else none
      | .inl (3, m0, .inr (.inr (.inr (.inr f)))), .inl (3, m1, .inr (.inr (.inr (.inr g)))) => if sp.toNatClampNeg + n.toNatClampNeg ≤ m0 ∧ dp.toNatClampNeg + n.toNatClampNeg ≤ m1 ∧ xN0 ≤ a then some (r, xset h b (.inl (3, m1, .inr (.inr (.inr (.inr (va_cpy f g sp.toNatClampNeg dp.toNatClampNeg n.toNatClampNeg)))))), 0, 0) else none
      | _, _ => none) else none
    | _ => none
  | .iaload => match st with
    | .int i :: .ref a :: r => if a < h.1 then (match h.2 a with
      | .inl (0, n, .inl f) => if xwant i n = true then some (.int (f i.toNatClampNeg) :: r, h, 0, 0) else none
      | _ => none) else none
    | _ => none
  | .baload => match st with
    | .int i :: .ref a :: r => if a < h.1 then (match h.2 a with
      | .inl (1, n, .inl f) => if xwant i n = true then some (.int (f i.toNatClampNeg) :: r, h, 0, 0) else none
      | .inl (2, n, .inl f) => if xwant i n = true then some (.int (f i.toNatClampNeg) :: r, h, 0, 0) else none
      | _ => none) else none
    | _ => none
  | .aaload => match st with
    | .int i :: .ref a :: r => if a < h.1 then (match h.2 a with
      | .inl (3, n, .inr (.inr (.inr (.inr f)))) => if xwant i n = true then some (va_rf (f i.toNatClampNeg) :: r, h, 0, 0) else none
      | _ => none) else none
    | _ => none
  | .iastore => match st with
    | .int x :: .int i :: .ref a :: r => if a < h.1 ∧ xN0 ≤ a then (match h.2 a with
      | .inl (0, n, .inl f) => if xwant i n = true then some (r, xset h a (.inl (0, n, .inl (upd f i.toNatClampNeg x))), 0, 0) else none
      | _ => none) else none
    | _ => none
  | .bastore => match st with
    | .int x :: .int i :: .ref a :: r => if a < h.1 ∧ xN0 ≤ a then (match h.2 a with
      | .inl (1, n, .inl f) => if xwant i n = true ∧ vp_nar .boolean x = x then some (r, xset h a (.inl (1, n, .inl (upd f i.toNatClampNeg x))), 0, 0) else none
      | .inl (2, n, .inl f) => if xwant i n = true ∧ vp_nar .byte x = x then some (r, xset h a (.inl (2, n, .inl (upd f i.toNatClampNeg x))), 0, 0) else none
      | _ => none) else none
    | _ => none
  | .aastore => match st with
    | .ref x :: .int i :: .ref a :: r => if a < h.1 ∧ xN0 ≤ a ∧ x < h.1 ∧ xN0 ≤ x then (match h.2 a with
      | .inl (3, n, .inr (.inr (.inr (.inr f)))) => if xwant i n = true then some (r, xset h a (.inl (3, n, .inr (.inr (.inr (.inr (va_up f i.toNatClampNeg (some x))))))), 0, 0) else none
      | _ => none) else none
    | _ => none
  | .arraylength => match st with
    | .ref a :: r => if a < h.1 then (match h.2 a with
      | .inl (_, n, _) => some (.int (Int32.ofNat n) :: r, h, 0, 0)
      | _ => none) else none
    | _ => none
  | .newarray t => match st, an with
    | .int n :: r, tc :: _ => if n < 0 ∨ 100000 < n then none else some (.ref h.1 :: r, xpush h (.inl (tc, n.toNatClampNeg, .inl (fun _ => 0))), 1, n.toNatClampNeg)
    | _, _ => none
  | .anewarray _ => match st with
    | .int n :: r => if n < 0 ∨ 100000 < n then none else some (.ref h.1 :: r, xpush h (.inl (3, n.toNatClampNeg, .inr (.inr (.inr (.inr (fun _ => none)))))), 1, n.toNatClampNeg)
    | _ => none
  | .new _ => match an with
    | ci :: n :: _ => some (.ref h.1 :: st, xpush h (.inr (ci, xfresh ci n)), 1, n)
    | _ => none
  | .checkcast _ => match st, an with
    | .ref a :: r, ci :: _ => if a < h.1 then (match h.2 a with
      | .inr (c, _) => if c = ci then some (.ref a :: r, h, 0, 0) else none
      | .inl (t, _, _) => if t + 100 = ci ∧ xN0 ≤ a then some (.ref a :: r, h, 0, 0) else none) else none
    | _, _ => none
  | _ => none
