/-! MINI 1: a small machine over numbered cells. A cell is a row of ints (with a tag: 0 int, 1 char, 2 boolean, 8 bytes of a literal, 9 the script), a row of longs, or an object (class number, fields; 1000 + n: a row of references to objects of class n). -/
abbrev mm_C : Type := (Nat × List Int32) ⊕ (List Int64 ⊕ (Nat × List Value))
abbrev mm_I (t : Nat) (xs : List Int32) : mm_C := .inl (t, xs)
abbrev mm_L (xs : List Int64) : mm_C := .inr (.inl xs)
abbrev mm_O (k : Nat) (fs : List Value) : mm_C := .inr (.inr (k, fs))
/-- a heap: how many cells, how many slots were made, the cells -/
abbrev mm_H : Type := Nat × Nat × (Nat → mm_C)
def mm_hs (h : mm_H) (i : Nat) (c : mm_C) : mm_H := (h.1, h.2.1, fun j => if j = i then c else h.2.2 j)
def mm_hn (h : mm_H) (c : mm_C) (z : Nat) : mm_H := (h.1 + 1, h.2.1 + z, fun j => if j = h.1 then c else h.2.2 j)
abbrev mm_V : Type := List (Option Value)
/-- a program: instructions by method and place, with links resolved; of a method how many arguments, how many locals, the receiver's class (9999: none), what it returns; the types of a class's fields; how many cells are there from outside; the class of which there are rows of references; what the one special call does (to the stack and the cells) -/
abbrev mm_P : Type := (Nat → Nat → Instr) × (Nat → Nat × Nat × Nat × Option FieldType) × (Nat → List FieldType) × Nat × Nat × (List Value → mm_H → Option (List Value × mm_H))
/-- what an instruction does: goes on; calls (method, arguments, the stack below); returns -/
abbrev mm_R : Type := (Nat × mm_V × List Value × mm_H) ⊕ ((Nat × List Value × List Value) ⊕ Option Value)
abbrev mm_nx (pc : Nat) (ls : mm_V) (st : List Value) (h : mm_H) : Option mm_R := some (.inl (pc, ls, st, h))
def mm_isL : Option Value → Bool
  | some (.long _) => true
  | some (.double _) => true
  | _ => false
def mm_lk (ls : mm_V) (i : Nat) : Option Value := ls.getD i none
def mm_free (ls : mm_V) (i : Nat) : Bool := i == 0 || !mm_isL (mm_lk ls (i - 1))
def mm_s1 (ls : mm_V) (i : Nat) (v : Value) : Option mm_V := if (decide (i < ls.length) && mm_free ls i) = true then some (ls.set i (some v)) else none
def mm_s2 (ls : mm_V) (i : Nat) (v : Value) : Option mm_V := if (decide (i + 1 < ls.length) && mm_free ls i) = true then some ((ls.set i (some v)).set (i + 1) none) else none
section MMK
variable {α : Type}
def mm_k0 (o : Option mm_V) (k : mm_V → Option α) : Option α := match o with
  | some l => k l
  | none => none
def mm_k1 (o : Option Int32) (k : Int32 → Option α) : Option α := match o with
  | some l => k l
  | none => none
def mm_k2 (o : Option Int64) (k : Int64 → Option α) : Option α := match o with
  | some l => k l
  | none => none
def mm_k3 (o : Option Value) (k : Value → Option α) : Option α := match o with
  | some l => k l
  | none => none
def mm_k4 (o : Option mm_H) (k : mm_H → Option α) : Option α := match o with
  | some l => k l
  | none => none
def mm_i (st : List Value) (k : Int32 → List Value → Option α) : Option α := match st with
  | .int x :: r => k x r
  | _ => none
def mm_ii (st : List Value) (k : Int32 → Int32 → List Value → Option α) : Option α := match st with
  | .int y :: .int x :: r => k x y r
  | _ => none
def mm_l (st : List Value) (k : Int64 → List Value → Option α) : Option α := match st with
  | .long x :: r => k x r
  | _ => none
def mm_ll (st : List Value) (k : Int64 → Int64 → List Value → Option α) : Option α := match st with
  | .long y :: .long x :: r => k x y r
  | _ => none
def mm_li (st : List Value) (k : Int64 → Int32 → List Value → Option α) : Option α := match st with
  | .int y :: .long x :: r => k x y r
  | _ => none
def mm_r (st : List Value) (k : Nat → List Value → Option α) : Option α := match st with
  | .ref a :: r => k a r
  | _ => none
def mm_ri (st : List Value) (k : Nat → Int32 → List Value → Option α) : Option α := match st with
  | .int i :: .ref a :: r => k a i r
  | _ => none
def mm_rii (st : List Value) (k : Nat → Int32 → Int32 → List Value → Option α) : Option α := match st with
  | .int x :: .int i :: .ref a :: r => k a i x r
  | _ => none
def mm_ril (st : List Value) (k : Nat → Int32 → Int64 → List Value → Option α) : Option α := match st with
  | .long x :: .int i :: .ref a :: r => k a i x r
  | _ => none
def mm_rir (st : List Value) (k : Nat → Int32 → Nat → List Value → Option α) : Option α := match st with
  | .ref x :: .int i :: .ref a :: r => k a i x r
  | _ => none
def mm_rv (st : List Value) (k : Nat → Value → List Value → Option α) : Option α := match st with
  | x :: .ref a :: r => k a x r
  | _ => none
def mm_v (st : List Value) (k : Value → List Value → Option α) : Option α := match st with
  | x :: r => if x.category = 1 then k x r else none
  | _ => none
def mm_vv (st : List Value) (k : Value → Value → List Value → Option α) : Option α := match st with
  | y :: x :: r => if x.category = 1 ∧ y.category = 1 then k x y r else none
  | _ => none
def mm_cp (st : List Value) (k : Nat → Int32 → Nat → Int32 → Int32 → List Value → Option α) : Option α := match st with
  | .int n :: .int dp :: .ref a :: .int sp :: .ref b :: r => k b sp a dp n r
  | _ => none
end MMK
/-- a place of a row -/
def mm_ix (i : Int32) (n : Nat) : Option Nat := if i < 0 ∨ n ≤ i.toNatClampNeg then none else some i.toNatClampNeg
/-- an int out of a row of one of two tags -/
def mm_gI (h : mm_H) (a t t' : Nat) (i : Int32) : Option Int32 := match h.2.2 a with
  | .inl (u, xs) => if u = t ∨ u = t' then (if i < 0 ∨ xs.length ≤ i.toNatClampNeg then none else xs[i.toNatClampNeg]?) else none
  | _ => none
def mm_gL (h : mm_H) (a : Nat) (i : Int32) : Option Int64 := match h.2.2 a with
  | .inr (.inl xs) => if i < 0 ∨ xs.length ≤ i.toNatClampNeg then none else xs[i.toNatClampNeg]?
  | _ => none
def mm_gA (ra : Nat) (h : mm_H) (a : Nat) (i : Int32) : Option Value := match h.2.2 a with
  | .inr (.inr (c, fs)) => if c = 1000 + ra then (if i < 0 ∨ fs.length ≤ i.toNatClampNeg then none else fs[i.toNatClampNeg]?) else none
  | _ => none
def mm_gF (h : mm_H) (a c k : Nat) : Option Value := match h.2.2 a with
  | .inr (.inr (c', fs)) => if c' = c ∧ c < 1000 then fs[k]? else none
  | _ => none
def mm_gN (h : mm_H) (a : Nat) : Option Int32 := match h.2.2 a with
  | .inl (_, xs) => some (Int32.ofNat xs.length)
  | .inr (.inl xs) => some (Int32.ofNat xs.length)
  | _ => none
def mm_sI (h : mm_H) (a t : Nat) (i x : Int32) : Option mm_H := match h.2.2 a with
  | .inl (u, xs) => if u = t then (if i < 0 ∨ xs.length ≤ i.toNatClampNeg then none else some (mm_hs h a (.inl (t, xs.set i.toNatClampNeg x)))) else none
  | _ => none
def mm_sL (h : mm_H) (a : Nat) (i : Int32) (x : Int64) : Option mm_H := match h.2.2 a with
  | .inr (.inl xs) => if i < 0 ∨ xs.length ≤ i.toNatClampNeg then none else some (mm_hs h a (.inr (.inl (xs.set i.toNatClampNeg x))))
  | _ => none
/-- does a value fit a field's type -/
def mm_ok : FieldType → Value → Bool
  | .int, .int _ => true
  | .long, .long _ => true
  | .object _, .ref _ => true
  | .array _, .ref _ => true
  | _, _ => false
def mm_sF (P : mm_P) (h : mm_H) (a c k : Nat) (v : Value) : Option mm_H := match h.2.2 a with
  | .inr (.inr (c', fs)) => if (decide (c' = c) && (decide (c < 900) && (decide (k < fs.length) && mm_ok ((P.2.2.1 c).getD k .byte) v))) = true then some (mm_hs h a (.inr (.inr (c, fs.set k v)))) else none
  | _ => none
/-- a reference into a row of references: the object is of the row's class -/
def mm_sA (ra : Nat) (h : mm_H) (a : Nat) (i : Int32) (x : Nat) : Option mm_H := match h.2.2 a, h.2.2 x with
  | .inr (.inr (c, fs)), .inr (.inr (c', _)) => if c = 1000 + ra ∧ c' = ra then (if i < 0 ∨ fs.length ≤ i.toNatClampNeg then none else some (mm_hs h a (.inr (.inr (c, fs.set i.toNatClampNeg (.ref x)))))) else none
  | _, _ => none
def mm_cpl (xs ys : List Int32) (sp dp n : Nat) : List Int32 := (List.range ys.length).map (fun k => if dp ≤ k ∧ k < dp + n then xs.getD (sp + (k - dp)) 0 else ys.getD k 0)
def mm_cpy (h : mm_H) (b : Nat) (sp : Int32) (a : Nat) (dp n : Int32) : Option mm_H := match h.2.2 b, h.2.2 a with
  | .inl (u, xs), .inl (w, ys) => if u = 0 ∧ w = 0 ∧ ¬ sp < 0 ∧ ¬ dp < 0 ∧ ¬ n < 0 ∧ sp.toNatClampNeg + n.toNatClampNeg ≤ xs.length ∧ dp.toNatClampNeg + n.toNatClampNeg ≤ ys.length then some (mm_hs h a (.inl (0, mm_cpl xs ys sp.toNatClampNeg dp.toNatClampNeg n.toNatClampNeg))) else none
  | _, _ => none
def mm_tag : ArrayType → Option Nat
  | .int => some 0
  | .char => some 1
  | .boolean => some 2
  | _ => none
def mm_words (st : List Value) : Nat := (st.map fun v => v.category).sum
def mm_ent (args : List Value) (n : Nat) : mm_V := (args.flatMap fun v => if v.category = 2 then [some v, none] else [some v]) ++ List.replicate (n - mm_words args) none
/-- a call: enough on the stack, what lies below is small, the locals hold the arguments -/
def mm_call (P : mm_P) (k : Nat) (st : List Value) : Option mm_R :=
  if (decide (k < 5000) && (decide ((P.2.1 k).1 ≤ st.length) && (decide (mm_words (st.drop (P.2.1 k).1) ≤ 8) && decide (mm_words (st.take (P.2.1 k).1) ≤ (P.2.1 k).2.1)))) = true then some (.inr (.inl (k, (st.take (P.2.1 k).1).reverse, st.drop (P.2.1 k).1))) else none
/-- the receiver of a call is an object of the class -/
def mm_recv (P : mm_P) (h : mm_H) (k : Nat) (st : List Value) : Bool := match st[(P.2.1 k).1 - 1]? with
  | some (.ref b) => (match h.2.2 b with
    | .inr (.inr (c, _)) => decide (c = (P.2.1 k).2.2.1)
    | _ => false)
  | _ => false
def mm_test : ClassFile.Cond → Int32 → Int32 → Bool
  | .eq, x, y => decide (x = y)
  | .ne, x, y => !decide (x = y)
  | .lt, x, y => decide (x < y)
  | .ge, x, y => decide (y ≤ x)
  | .gt, x, y => decide (y < x)
  | .le, x, y => decide (x ≤ y)
def mm_ret (t : Option FieldType) (v : Value) : Bool := match t, v with
  | some .int, .int _ => true
  | some .boolean, .int x => decide (narrow .boolean (.int x) = .int x)
  | some .char, .int x => decide (narrow .char (.int x) = .int x)
  | some .byte, .int x => decide (narrow .byte (.int x) = .int x)
  | some .long, .long _ => true
  | _, _ => false
/-- the target of a table -/
def mm_tsw (d lo hi : Int) (offs : Array Int) (x : Int32) : Int := if x.toInt < lo ∨ hi < x.toInt then d else offs.getD (x.toInt - lo).toNat d
def mm_step (P : mm_P) (mt : Nat) (i : Instr) (pc : Nat) (ls : mm_V) (st : List Value) (h : mm_H) : Option mm_R :=
  match i with
  | .iconst n => mm_nx (pc + 1) ls (.int (Int32.ofInt n) :: st) h
  | .bipush n => mm_nx (pc + 2) ls (.int (Int8.ofInt n).toInt32 :: st) h
  | .sipush n => mm_nx (pc + 3) ls (.int (Int16.ofInt n).toInt32 :: st) h
  | .lconst n => mm_nx (pc + 1) ls (.long (Int64.ofNat (n : Nat)) :: st) h
  | .ldc n => mm_nx (pc + 2) ls (.int (Int32.ofNat n) :: st) h
  | .ldc_w n => mm_nx (pc + 3) ls (.int (Int32.ofNat n) :: st) h
  | .ldc2_w n => mm_nx (pc + 3) ls (.long (Int64.ofNat n) :: st) h
  | .new n => mm_nx (pc + 3) ls (.ref h.1 :: st) (mm_hn h (.inr (.inr (n, (P.2.2.1 n).map defaultValue))) (P.2.2.1 n).length)
  | .fload n => mm_nx (pc + 2) ls (.ref n :: st) h
  | .fstore n => mm_nx (pc + 3) ls (.int (Int32.ofNat n) :: st) h
  | .iload_n n => mm_k3 (mm_lk ls n) fun v => match v with
    | .int x => mm_nx (pc + 1) ls (.int x :: st) h
    | _ => none
  | .iload n => mm_k3 (mm_lk ls n) fun v => match v with
    | .int x => mm_nx (pc + 2) ls (.int x :: st) h
    | _ => none
  | .lload_n n => mm_k3 (mm_lk ls n) fun v => match v with
    | .long x => mm_nx (pc + 1) ls (.long x :: st) h
    | _ => none
  | .lload n => mm_k3 (mm_lk ls n) fun v => match v with
    | .long x => mm_nx (pc + 2) ls (.long x :: st) h
    | _ => none
  | .aload_n n => mm_k3 (mm_lk ls n) fun v => match v with
    | .ref x => mm_nx (pc + 1) ls (.ref x :: st) h
    | _ => none
  | .aload n => mm_k3 (mm_lk ls n) fun v => match v with
    | .ref x => mm_nx (pc + 2) ls (.ref x :: st) h
    | _ => none
  | .istore_n n => mm_i st fun x r => mm_k0 (mm_s1 ls n (.int x)) fun l => mm_nx (pc + 1) l r h
  | .istore n => mm_i st fun x r => mm_k0 (mm_s1 ls n (.int x)) fun l => mm_nx (pc + 2) l r h
  | .astore_n n => mm_r st fun x r => mm_k0 (mm_s1 ls n (.ref x)) fun l => mm_nx (pc + 1) l r h
  | .astore n => mm_r st fun x r => mm_k0 (mm_s1 ls n (.ref x)) fun l => mm_nx (pc + 2) l r h
  | .lstore_n n => mm_l st fun x r => mm_k0 (mm_s2 ls n (.long x)) fun l => mm_nx (pc + 1) l r h
  | .lstore n => mm_l st fun x r => mm_k0 (mm_s2 ls n (.long x)) fun l => mm_nx (pc + 2) l r h
  | .iinc n k => mm_k3 (mm_lk ls n) fun v => match v with
    | .int x => mm_k0 (mm_s1 ls n (.int (x + Int32.ofInt k))) fun l => mm_nx (pc + 3) l st h
    | _ => none
  | .iadd => mm_ii st fun x y r => mm_nx (pc + 1) ls (.int (x + y) :: r) h
  | .isub => mm_ii st fun x y r => mm_nx (pc + 1) ls (.int (x - y) :: r) h
  | .imul => mm_ii st fun x y r => mm_nx (pc + 1) ls (.int (x * y) :: r) h
  | .idiv => mm_ii st fun x y r => if y = 0 then none else mm_nx (pc + 1) ls (.int (x / y) :: r) h
  | .irem => mm_ii st fun x y r => if y = 0 then none else mm_nx (pc + 1) ls (.int (x - x / y * y) :: r) h
  | .iand => mm_ii st fun x y r => mm_nx (pc + 1) ls (.int (x &&& y) :: r) h
  | .ior => mm_ii st fun x y r => mm_nx (pc + 1) ls (.int (x ||| y) :: r) h
  | .ixor => mm_ii st fun x y r => mm_nx (pc + 1) ls (.int (x ^^^ y) :: r) h
  | .ishl => mm_ii st fun x y r => mm_nx (pc + 1) ls (.int (x <<< (y &&& 31)) :: r) h
  | .ishr => mm_ii st fun x y r => mm_nx (pc + 1) ls (.int (x >>> (y &&& 31)) :: r) h
  | .iushr => mm_ii st fun x y r => mm_nx (pc + 1) ls (.int (x.toUInt32 >>> (y.toUInt32 &&& Int32.toUInt32 31)).toInt32 :: r) h
  | .ineg => mm_i st fun x r => mm_nx (pc + 1) ls (.int (-x) :: r) h
  | .ladd => mm_ll st fun x y r => mm_nx (pc + 1) ls (.long (x + y) :: r) h
  | .lsub => mm_ll st fun x y r => mm_nx (pc + 1) ls (.long (x - y) :: r) h
  | .lmul => mm_ll st fun x y r => mm_nx (pc + 1) ls (.long (x * y) :: r) h
  | .ldiv => mm_ll st fun x y r => if y = 0 then none else mm_nx (pc + 1) ls (.long (x / y) :: r) h
  | .lrem => mm_ll st fun x y r => if y = 0 then none else mm_nx (pc + 1) ls (.long (x - x / y * y) :: r) h
  | .land => mm_ll st fun x y r => mm_nx (pc + 1) ls (.long (x &&& y) :: r) h
  | .lor => mm_ll st fun x y r => mm_nx (pc + 1) ls (.long (x ||| y) :: r) h
  | .lshl => mm_li st fun x y r => mm_nx (pc + 1) ls (.long (x <<< (y.toInt64 &&& 63)) :: r) h
  | .lshr => mm_li st fun x y r => mm_nx (pc + 1) ls (.long (x >>> (y.toInt64 &&& 63)) :: r) h
  | .lushr => mm_li st fun x y r => mm_nx (pc + 1) ls (.long (x.toUInt64 >>> (y.toInt64.toUInt64 &&& Int64.toUInt64 63)).toInt64 :: r) h
  | .lcmp => mm_ll st fun x y r => mm_nx (pc + 1) ls (.int (lg_cmp x y) :: r) h
  | .i2l => mm_i st fun x r => mm_nx (pc + 1) ls (.long x.toInt64 :: r) h
  | .l2i => mm_l st fun x r => mm_nx (pc + 1) ls (.int x.toInt32 :: r) h
  | .i2c => mm_i st fun x r => mm_nx (pc + 1) ls (.int (x.toUInt32 % 65536).toInt32 :: r) h
  | .i2b => mm_i st fun x r => mm_nx (pc + 1) ls (.int x.toInt8.toInt32 :: r) h
  | .d2f => mm_ii st fun x y r => if ¬ x < 0 ∧ x < y ∧ mm_words r ≤ 8 then mm_nx (pc + 3) ls r h else none
  | .dup => mm_v st fun x r => mm_nx (pc + 1) ls (x :: x :: r) h
  | .dup2 => mm_vv st fun x y r => mm_nx (pc + 1) ls (y :: x :: y :: x :: r) h
  | .pop => mm_v st fun _ r => mm_nx (pc + 1) ls r h
  | .goto t => mm_nx t.toNat ls st h
  | .ifCond c t => mm_i st fun x r => if mm_test c x 0 = true then mm_nx t.toNat ls r h else mm_nx (pc + 3) ls r h
  | .if_icmp c t => mm_ii st fun x y r => if mm_test c x y = true then mm_nx t.toNat ls r h else mm_nx (pc + 3) ls r h
  | .tableswitch d lo hi offs => mm_i st fun x r => mm_nx (mm_tsw d lo hi offs x).toNat ls r h
  | .iaload => mm_ri st fun a i r => mm_k1 (mm_gI h a 0 9 i) fun x => mm_nx (pc + 1) ls (.int x :: r) h
  | .caload => mm_ri st fun a i r => mm_k1 (mm_gI h a 1 1 i) fun x => mm_nx (pc + 1) ls (.int x :: r) h
  | .baload => mm_ri st fun a i r => mm_k1 (mm_gI h a 2 8 i) fun x => mm_nx (pc + 1) ls (.int x :: r) h
  | .laload => mm_ri st fun a i r => mm_k2 (mm_gL h a i) fun x => mm_nx (pc + 1) ls (.long x :: r) h
  | .aaload => mm_ri st fun a i r => mm_k3 (mm_gA P.2.2.2.2.1 h a i) fun v => match v with
    | .ref x => mm_nx (pc + 1) ls (.ref x :: r) h
    | _ => none
  | .arraylength => mm_r st fun a r => mm_k1 (mm_gN h a) fun x => mm_nx (pc + 1) ls (.int x :: r) h
  | .iastore => mm_rii st fun a i x r => mm_k4 (mm_sI h a 0 i x) fun h' => mm_nx (pc + 1) ls r h'
  | .castore => mm_rii st fun a i x r => mm_k4 (mm_sI h a 1 i (vp_nar .char x)) fun h' => mm_nx (pc + 1) ls r h'
  | .bastore => mm_rii st fun a i x r => mm_k4 (mm_sI h a 2 i (vp_nar .boolean x)) fun h' => mm_nx (pc + 1) ls r h'
  | .lastore => mm_ril st fun a i x r => mm_k4 (mm_sL h a i x) fun h' => mm_nx (pc + 1) ls r h'
  | .aastore => mm_rir st fun a i x r => mm_k4 (mm_sA P.2.2.2.2.1 h a i x) fun h' => mm_nx (pc + 1) ls r h'
  | .newarray t => mm_i st fun n r => if n < 0 ∨ 100000 < n then none else match t with
    | .long => mm_nx (pc + 2) ls (.ref h.1 :: r) (mm_hn h (.inr (.inl (List.replicate n.toNatClampNeg 0))) n.toNatClampNeg)
    | t => match mm_tag t with
      | some u => mm_nx (pc + 2) ls (.ref h.1 :: r) (mm_hn h (.inl (u, List.replicate n.toNatClampNeg 0)) n.toNatClampNeg)
      | none => none
  | .anewarray c => mm_i st fun n r => if n < 0 ∨ 100000 < n ∨ ¬ c = P.2.2.2.2.1 then none else mm_nx (pc + 3) ls (.ref h.1 :: r) (mm_hn h (.inr (.inr (1000 + c, List.replicate n.toNatClampNeg .null))) n.toNatClampNeg)
  | .getfield n => mm_r st fun a r => mm_k3 (mm_gF h a (n / 100) (n % 100)) fun x => mm_nx (pc + 3) ls (x :: r) h
  | .putfield n => mm_rv st fun a x r => mm_k4 (mm_sF P h a (n / 100) (n % 100) x) fun h' => mm_nx (pc + 3) ls r h'
  | .getstatic n => mm_nx (pc + 3) ls (.int (Int32.ofNat n) :: st) h
  | .fadd => mm_r st fun _ r => if mm_words r ≤ 8 then mm_nx (pc + 3) ls r h else none
  | .f2i => mm_ii st fun x y r => if mm_words r ≤ 8 then mm_nx (pc + 3) ls (.int (if x < y then y else x) :: r) h else none
  | .f2l => mm_ii st fun x y r => if mm_words r ≤ 8 then mm_nx (pc + 3) ls (.int (if y < x then y else x) :: r) h else none
  | .f2d => mm_i st fun x r => if mm_words r ≤ 8 then mm_nx (pc + 3) ls (.int (if 0 ≤ x then x else 0 - x) :: r) h else none
  | .fmul => match P.2.2.2.2.2 st h with
    | some (st', h') => if h.1 ≤ h'.1 ∧ h.2.1 ≤ h'.2.1 then mm_nx (pc + 3) ls st' h' else none
    | none => none
  | .fsub => mm_cp st fun b sp a dp n r => if mm_words r ≤ 8 then mm_k4 (mm_cpy h b sp a dp n) fun h' => mm_nx (pc + 3) ls r h' else none
  | .invokestatic k => mm_call P k st
  | .invokespecial k => if mm_recv P h k st = true then mm_call P k st else none
  | .invokevirtual k => if mm_recv P h k st = true then mm_call P k st else none
  | .ireturn => match st with
    | [.int x] => if mm_ret (P.2.1 mt).2.2.2 (.int x) = true then some (.inr (.inr (some (.int x)))) else none
    | _ => none
  | .lreturn => match st with
    | [.long x] => if mm_ret (P.2.1 mt).2.2.2 (.long x) = true then some (.inr (.inr (some (.long x)))) else none
    | _ => none
  | .return_ => match st, (P.2.1 mt).2.2.2 with
    | [], none => some (.inr (.inr none))
    | _, _ => none
  | _ => none
def mm_ex (P : mm_P) : Nat → Nat → Nat → Nat → mm_V → List Value → mm_H → Option (Option Value × mm_H)
  | 0, _, _, _, _, _, _ => none
  | n + 1, d, mt, pc, ls, st, h =>
    match mm_step P mt (P.1 mt pc) pc ls st h with
    | none => none
    | some (.inl (pc', ls', st', h')) => mm_ex P n d mt pc' ls' st' h'
    | some (.inr (.inl (k, args, rest))) =>
      match d with
      | 0 => none
      | d' + 1 =>
        match mm_ex P n d' k 0 (mm_ent args (P.2.1 k).2.1) [] h with
        | none => none
        | some (r, h') => mm_ex P n (d' + 1) mt (pc + 3) ls (r.toList ++ rest) h'
    | some (.inr (.inr r)) => some (r, h)
