section
/-! A pure machine: worlds are lists of objects and arrays by their numbers (a reference is a number in the list), methods are rows of decoded instructions, constant pool entries are looked up in a list.
What it does is tied to the real machine once, for all methods (parts 03 to 05); after that a method's contract is a statement about x_run alone. -/
abbrev xE : Type := (Nat × List Value) ⊕ (Nat × vp_A)
abbrev xS : Type := List xE
/-- a constant pool entry: its kind and three numbers -/
abbrev xL : Type := Nat × Nat × Nat × Int
/-- a method: name, code, locals, answer, kind (0 static, 1 of an object, 2 a constructor), decoded rows, pool -/
abbrev xM : Type := MethodName × ByteArray × Nat × Option FieldType × Nat × List (Nat × Instr × Nat) × List (Nat × xL)
abbrev xLs : Type := List (Option Value)
/-- real values: the world's numbers begin at the address z; the script lies at b -/
def x_cv (z b : Nat) : Value → Value
  | .ref a => .ref (z + a)
  | .retAddr _ => .ref b
  | v => v
def x_ca (z : Nat) (a : vp_A) : vp_A := match a with
  | (n, .inr (.inr (.inr (.inr f)))) => (n, .inr (.inr (.inr (.inr fun i => (f i).map (fun q => z + q)))))
  | a => a
def x_ce (cA : Nat → ClassId) (z b : Nat) : xE → va_E
  | .inl (ci, fs) => .inr (ci, fs.map (x_cv z b))
  | .inr (t, a) => .inl (cA t, x_ca z a)
def x_wl (cA : Nat → ClassId) (z b : Nat) (S : xS) : va_W := S.mapIdx fun i e => (z + i, x_ce cA z b e)
def x_ld (L : xLs) (i : Nat) : Option Value := match L[i]? with
  | some (some v) => some v
  | _ => none
def x_two : Option Value → Bool
  | some (.long _) => true
  | some (.double _) => true
  | _ => false
def x_cl (L : xLs) (i : Nat) : xLs := match i with
  | 0 => L
  | k + 1 => if x_two (x_ld L k) = true then L.set k none else L
def x_st1 (L : xLs) (i : Nat) (v : Value) : Option xLs := if i < L.length then some ((x_cl L i).set i (some v)) else none
def x_st2 (L : xLs) (i : Nat) (v : Value) : Option xLs := if i + 1 < L.length then some (((x_cl L i).set (i + 1) none).set i (some v)) else none
abbrev xP : Type := Nat × xLs × List Value
def x_b2 (pc : Nat) (L : xLs) (st : List Value) (f : Int32 → Int32 → Value) : Option xP := match st with
  | .int y :: .int x :: r => some (pc + 1, L, f x y :: r)
  | _ => none
def x_d2 (pc : Nat) (L : xLs) (st : List Value) (f : Int32 → Int32 → Value) : Option xP := match st with
  | .int y :: .int x :: r => if y = 0 then none else some (pc + 1, L, f x y :: r)
  | _ => none
def x_l2 (pc : Nat) (L : xLs) (st : List Value) (f : Int64 → Int64 → Value) : Option xP := match st with
  | .long y :: .long x :: r => some (pc + 1, L, f x y :: r)
  | _ => none
def x_m2 (pc : Nat) (L : xLs) (st : List Value) (f : Int64 → Int64 → Value) : Option xP := match st with
  | .long y :: .long x :: r => if y = 0 then none else some (pc + 1, L, f x y :: r)
  | _ => none
def x_s2 (pc : Nat) (L : xLs) (st : List Value) (f : Int64 → Int32 → Value) : Option xP := match st with
  | .int y :: .long x :: r => some (pc + 1, L, f x y :: r)
  | _ => none
def x_i1 (pc : Nat) (L : xLs) (st : List Value) (f : Int32 → Value) : Option xP := match st with
  | .int x :: r => some (pc + 1, L, f x :: r)
  | _ => none
def x_j1 (pc : Nat) (L : xLs) (st : List Value) (f : Int64 → Value) : Option xP := match st with
  | .long x :: r => some (pc + 1, L, f x :: r)
  | _ => none
def x_ldi (pc k : Nat) (L : xLs) (st : List Value) (i : Nat) : Option xP := match x_ld L i with
  | some (.int x) => some (pc + k, L, .int x :: st)
  | _ => none
def x_ldl (pc k : Nat) (L : xLs) (st : List Value) (i : Nat) : Option xP := match x_ld L i with
  | some (.long x) => some (pc + k, L, .long x :: st)
  | _ => none
def x_lda (pc k : Nat) (L : xLs) (st : List Value) (i : Nat) : Option xP := match x_ld L i with
  | some (.ref x) => some (pc + k, L, .ref x :: st)
  | some .null => some (pc + k, L, .null :: st)
  | some (.retAddr x) => some (pc + k, L, .retAddr x :: st)
  | _ => none
def x_sti (pc k : Nat) (L : xLs) (st : List Value) (i : Nat) : Option xP := match st with
  | .int x :: r => (x_st1 L i (.int x)).map fun L' => (pc + k, L', r)
  | _ => none
def x_stl (pc k : Nat) (L : xLs) (st : List Value) (i : Nat) : Option xP := match st with
  | .long x :: r => (x_st2 L i (.long x)).map fun L' => (pc + k, L', r)
  | _ => none
def x_sta (pc k : Nat) (L : xLs) (st : List Value) (i : Nat) : Option xP := match st with
  | .ref x :: r => (x_st1 L i (.ref x)).map fun L' => (pc + k, L', r)
  | .null :: r => (x_st1 L i .null).map fun L' => (pc + k, L', r)
  | _ => none
def x_jmp (pc : Nat) (off : Int) (L : xLs) (st : List Value) : Option xP := if 0 ≤ (pc : Int) + off then some (((pc : Int) + off).toNat, L, st) else none
def x_br (c : Prop) (d : Decidable c) (pc : Nat) (off : Int) (L : xLs) (st : List Value) : Option xP := if 0 ≤ (pc : Int) + off then some (@ite _ c d ((pc : Int) + off).toNat (pc + 3), L, st) else none
def x_if (co : ClassFile.Cond) (pc : Nat) (off : Int) (L : xLs) (st : List Value) : Option xP := match st with
  | .int x :: r => match co with
    | .eq => x_br (x = 0) inferInstance pc off L r
    | .ne => x_br (x ≠ 0) inferInstance pc off L r
    | .lt => x_br (x < 0) inferInstance pc off L r
    | .ge => x_br (0 ≤ x) inferInstance pc off L r
    | .gt => x_br (0 < x) inferInstance pc off L r
    | .le => x_br (x ≤ 0) inferInstance pc off L r
  | _ => none
def x_ic (co : ClassFile.Cond) (pc : Nat) (off : Int) (L : xLs) (st : List Value) : Option xP := match st with
  | .int y :: .int x :: r => match co with
    | .eq => x_br (x = y) inferInstance pc off L r
    | .ne => x_br (x ≠ y) inferInstance pc off L r
    | .lt => x_br (x < y) inferInstance pc off L r
    | .ge => x_br (y ≤ x) inferInstance pc off L r
    | .gt => x_br (y < x) inferInstance pc off L r
    | .le => x_br (x ≤ y) inferInstance pc off L r
  | _ => none
/-- what touches the frame alone -/
def x_pure (ins : Instr) (len pc : Nat) (L : xLs) (st : List Value) : Option xP := match ins with
  | .iconst n => some (pc + 1, L, .int (Int32.ofInt n) :: st)
  | .bipush n => some (pc + 2, L, .int (Int8.ofInt n).toInt32 :: st)
  | .sipush n => some (pc + 3, L, .int (Int16.ofInt n).toInt32 :: st)
  | .lconst n => some (pc + 1, L, .long (Int64.ofNat (n : Nat)) :: st)
  | .iload_n k => x_ldi pc 1 L st k
  | .iload i => if len = 2 then x_ldi pc 2 L st i else none
  | .lload_n k => x_ldl pc 1 L st k
  | .lload i => if len = 2 then x_ldl pc 2 L st i else none
  | .aload_n k => x_lda pc 1 L st k
  | .aload i => if len = 2 then x_lda pc 2 L st i else none
  | .istore_n k => x_sti pc 1 L st k
  | .istore i => if len = 2 then x_sti pc 2 L st i else none
  | .lstore_n k => x_stl pc 1 L st k
  | .lstore i => if len = 2 then x_stl pc 2 L st i else none
  | .astore_n k => x_sta pc 1 L st k
  | .astore i => if len = 2 then x_sta pc 2 L st i else none
  | .iinc i n => if len = 3 then (match x_ld L i with
    | some (.int x) => (x_st1 L i (.int (x + Int32.ofInt n))).map fun L' => (pc + 3, L', st)
    | _ => none) else none
  | .iadd => x_b2 pc L st fun x y => .int (x + y)
  | .isub => x_b2 pc L st fun x y => .int (x - y)
  | .imul => x_b2 pc L st fun x y => .int (x * y)
  | .iand => x_b2 pc L st fun x y => .int (x &&& y)
  | .ior => x_b2 pc L st fun x y => .int (x ||| y)
  | .ixor => x_b2 pc L st fun x y => .int (x ^^^ y)
  | .ishl => x_b2 pc L st fun x y => .int (x <<< (y &&& 31))
  | .ishr => x_b2 pc L st fun x y => .int (x >>> (y &&& 31))
  | .iushr => x_b2 pc L st fun x y => .int (x.toUInt32 >>> (y.toUInt32 &&& Int32.toUInt32 31)).toInt32
  | .idiv => x_d2 pc L st fun x y => .int (x / y)
  | .irem => x_d2 pc L st fun x y => .int (x - x / y * y)
  | .ineg => x_i1 pc L st fun x => .int (-x)
  | .ladd => x_l2 pc L st fun x y => .long (x + y)
  | .lsub => x_l2 pc L st fun x y => .long (x - y)
  | .lmul => x_l2 pc L st fun x y => .long (x * y)
  | .land => x_l2 pc L st fun x y => .long (x &&& y)
  | .lor => x_l2 pc L st fun x y => .long (x ||| y)
  | .lxor => x_l2 pc L st fun x y => .long (x ^^^ y)
  | .ldiv => x_m2 pc L st fun x y => .long (x / y)
  | .lrem => x_m2 pc L st fun x y => .long (x - x / y * y)
  | .lneg => x_j1 pc L st fun x => .long (-x)
  | .lcmp => x_l2 pc L st fun x y => .int (lg_cmp x y)
  | .lshl => x_s2 pc L st fun x y => .long (x <<< (y.toInt64 &&& 63))
  | .lshr => x_s2 pc L st fun x y => .long (x >>> (y.toInt64 &&& 63))
  | .lushr => x_s2 pc L st fun x y => .long (x.toUInt64 >>> (y.toInt64.toUInt64 &&& Int64.toUInt64 63)).toInt64
  | .i2l => x_i1 pc L st fun x => .long x.toInt64
  | .l2i => x_j1 pc L st fun x => .int x.toInt32
  | .i2b => x_i1 pc L st fun x => .int x.toInt8.toInt32
  | .i2s => x_i1 pc L st fun x => .int x.toInt16.toInt32
  | .dup => match st with
    | v :: r => if v.category = 1 then some (pc + 1, L, v :: v :: r) else none
    | _ => none
  | .pop => match st with
    | v :: r => if v.category = 1 then some (pc + 1, L, r) else none
    | _ => none
  | .dup2 => match st with
    | v :: r => if v.category = 2 then some (pc + 1, L, v :: v :: r) else (match r with
      | w :: r => if v.category = 1 ∧ w.category = 1 then some (pc + 1, L, v :: w :: v :: w :: r) else none
      | _ => none)
    | _ => none
  | .pop2 => match st with
    | v :: r => if v.category = 2 then some (pc + 1, L, r) else none
    | _ => none
  | .goto off => x_jmp pc off L st
  | .ifCond co off => x_if co pc off L st
  | .if_icmp co off => x_ic co pc off L st
  | .ifnonnull off => match st with
    | .ref _ :: r => x_jmp pc off L r
    | .null :: r => some (pc + 3, L, r)
    | _ => none
  | .tableswitch d lo hi offs => match st with
    | .int x :: r => if x.toInt < lo ∨ hi < x.toInt then x_jmp pc d L r else (match offs[(x.toInt - lo).toNat]? with
      | some o => x_jmp pc o L r
      | none => none)
    | _ => none
  | .lookupswitch d ps => match st with
    | .int x :: r => if (ps.toList.zip (ps.toList.drop 1)).all (fun (a, next) => a.1 < next.1) = true then x_jmp pc (Op.lookupswitch.offset ps.toList d x.toInt) L r else none
    | _ => none
  | _ => none
def x_obj (S : xS) (a : Nat) : Option (Nat × List Value) := match S[a]? with
  | some (.inl q) => some q
  | _ => none
def x_arr (S : xS) (a : Nat) : Option (Nat × vp_A) := match S[a]? with
  | some (.inr q) => some q
  | _ => none
/-- a place of an array -/
abbrev x_in (i : Int32) (n : Nat) : Prop := 0 ≤ i ∧ i.toNatClampNeg < n
/-- whether a field of a sort (0 int, 1 long, 2 boolean, 3 a reference) may hold a value -/
def x_fit (tc : Int) (v : Value) : Bool := match v with
  | .int x => tc == 0 || (tc == 2 && (x == 0 || x == 1))
  | .long _ => tc == 1
  | .null => tc == 3
  | .ref _ => tc == 3
  | _ => false
abbrev xY : Type := Nat × xLs × List Value × xS
def x_pool (M : xM) (i : Nat) : xL := match M.2.2.2.2.2.2.lookup i with
  | some q => q
  | none => (99, 0, 0, 0)
def x_get (M : xM) (i pc : Nat) (L : xLs) (st : List Value) (S : xS) : Option xY := match x_pool M i with
  | (kd, ci, k, _) => if kd ≤ 2 ∨ kd = 16 then (match st with
    | .ref a :: r => (match x_obj S a with
      | some (cj, fs) => if cj = ci then (match fs[k]? with
        | some v => some (pc + 3, L, v :: r, S)
        | none => none) else none
      | none => none)
    | _ => none) else none
def x_put (M : xM) (i pc : Nat) (L : xLs) (st : List Value) (S : xS) : Option xY := match x_pool M i with
  | (kd, ci, k, tc) => if kd = 0 ∨ (kd = 1 ∧ M.2.2.2.2.1 = 2) then (match st with
    | v :: .ref a :: r => (match x_obj S a with
      | some (cj, fs) => if cj = ci ∧ k < fs.length ∧ x_fit tc v = true then some (pc + 3, L, r, S.set a (.inl (cj, fs.set k v))) else none
      | none => none)
    | _ => none) else none
def x_iald (scr : Option (Nat × (Nat → Int32))) (pc : Nat) (L : xLs) (st : List Value) (S : xS) : Option xY := match st with
  | .int i :: .ref a :: r => (match x_arr S a with
    | some (0, n, .inl f) => if x_in i n then some (pc + 1, L, .int (f i.toNatClampNeg) :: r, S) else none
    | _ => none)
  | .int i :: .retAddr _ :: r => (match scr with
    | some (n, f) => if x_in i n then some (pc + 1, L, .int (f i.toNatClampNeg) :: r, S) else none
    | none => none)
  | _ => none
def x_bald (pc : Nat) (L : xLs) (st : List Value) (S : xS) : Option xY := match st with
  | .int i :: .ref a :: r => (match x_arr S a with
    | some (2, n, .inl f) => if x_in i n then some (pc + 1, L, .int (f i.toNatClampNeg) :: r, S) else none
    | some (3, n, .inl f) => if x_in i n then some (pc + 1, L, .int (f i.toNatClampNeg) :: r, S) else none
    | _ => none)
  | _ => none
def x_lald (pc : Nat) (L : xLs) (st : List Value) (S : xS) : Option xY := match st with
  | .int i :: .ref a :: r => (match x_arr S a with
    | some (1, n, .inr (.inl f)) => if x_in i n then some (pc + 1, L, .long (f i.toNatClampNeg) :: r, S) else none
    | _ => none)
  | _ => none
def x_aald (pc : Nat) (L : xLs) (st : List Value) (S : xS) : Option xY := match st with
  | .int i :: .ref a :: r => (match x_arr S a with
    | some (t, n, .inr (.inr (.inr (.inr f)))) => if 4 ≤ t ∧ t ≤ 6 ∧ x_in i n then some (pc + 1, L, va_rf (f i.toNatClampNeg) :: r, S) else none
    | _ => none)
  | _ => none
def x_iast (pc : Nat) (L : xLs) (st : List Value) (S : xS) : Option xY := match st with
  | .int x :: .int i :: .ref a :: r => (match x_arr S a with
    | some (0, n, .inl f) => if x_in i n then some (pc + 1, L, r, S.set a (.inr (0, n, .inl (upd f i.toNatClampNeg x)))) else none
    | _ => none)
  | _ => none
def x_bast (pc : Nat) (L : xLs) (st : List Value) (S : xS) : Option xY := match st with
  | .int x :: .int i :: .ref a :: r => (match x_arr S a with
    | some (2, n, .inl f) => if x_in i n then some (pc + 1, L, r, S.set a (.inr (2, n, .inl (upd f i.toNatClampNeg (vp_nar .byte x))))) else none
    | some (3, n, .inl f) => if x_in i n then some (pc + 1, L, r, S.set a (.inr (3, n, .inl (upd f i.toNatClampNeg (vp_nar .boolean x))))) else none
    | _ => none)
  | _ => none
def x_last (pc : Nat) (L : xLs) (st : List Value) (S : xS) : Option xY := match st with
  | .long x :: .int i :: .ref a :: r => (match x_arr S a with
    | some (1, n, .inr (.inl f)) => if x_in i n then some (pc + 1, L, r, S.set a (.inr (1, n, .inr (.inl (vp_updL f i.toNatClampNeg x))))) else none
    | _ => none)
  | _ => none
/-- the class whose objects an array of references of a sort holds -/
def x_tc (t : Nat) : Nat := match t with
  | 4 => 0
  | 5 => 4
  | _ => 10
def x_aast (pc : Nat) (L : xLs) (st : List Value) (S : xS) : Option xY := match st with
  | .ref v :: .int i :: .ref a :: r => (match x_arr S a, x_obj S v with
    | some (t, n, .inr (.inr (.inr (.inr f)))), some (ci, _) => if 4 ≤ t ∧ t ≤ 6 ∧ ci = x_tc t ∧ x_in i n then some (pc + 1, L, r, S.set a (.inr (t, n, .inr (.inr (.inr (.inr (va_up f i.toNatClampNeg (some v)))))))) else none
    | _, _ => none)
  | _ => none
def x_alen (scr : Option (Nat × (Nat → Int32))) (pc : Nat) (L : xLs) (st : List Value) (S : xS) : Option xY := match st with
  | .ref a :: r => (match x_arr S a with
    | some (t, n, _) => if t ≤ 6 then some (pc + 1, L, .int (Int32.ofNat n) :: r, S) else none
    | none => none)
  | .retAddr _ :: r => (match scr with
    | some (n, _) => some (pc + 1, L, .int (Int32.ofNat n) :: r, S)
    | none => none)
  | _ => none
def x_newa (ty : ArrayType) (pc : Nat) (L : xLs) (st : List Value) (S : xS) : Option xY := match st with
  | .int n :: r => if 0 ≤ n ∧ n.toNatClampNeg ≤ 60000000 then (match ty with
    | .int => some (pc + 2, L, .ref S.length :: r, S ++ [.inr (0, n.toNatClampNeg, .inl fun _ => 0)])
    | .long => some (pc + 2, L, .ref S.length :: r, S ++ [.inr (1, n.toNatClampNeg, .inr (.inl fun _ => 0))])
    | .byte => some (pc + 2, L, .ref S.length :: r, S ++ [.inr (2, n.toNatClampNeg, .inl fun _ => 0)])
    | .boolean => some (pc + 2, L, .ref S.length :: r, S ++ [.inr (3, n.toNatClampNeg, .inl fun _ => 0)])
    | _ => none) else none
  | _ => none
def x_newq (M : xM) (i pc : Nat) (L : xLs) (st : List Value) (S : xS) : Option xY := match x_pool M i with
  | (kd, t, _, _) => if kd = 13 then (match st with
    | .int n :: r => if 0 ≤ n ∧ n.toNatClampNeg ≤ 60000000 then some (pc + 3, L, .ref S.length :: r, S ++ [.inr (t, n.toNatClampNeg, .inr (.inr (.inr (.inr fun _ => none))))]) else none
    | _ => none) else none
def x_new (df : List (List Value)) (M : xM) (i pc : Nat) (L : xLs) (st : List Value) (S : xS) : Option xY := match x_pool M i with
  | (kd, ci, _, _) => if kd = 12 then (match df[ci]? with
    | some fs => some (pc + 3, L, .ref S.length :: st, S ++ [.inl (ci, fs)])
    | none => none) else none
def x_ldc (M : xM) (i len pc : Nat) (L : xLs) (st : List Value) (S : xS) : Option xY := match x_pool M i with
  | (kd, _, _, v) => if kd = 14 then some (pc + len, L, .int (Int32.ofInt v) :: st, S) else none
def x_ldc2 (M : xM) (i pc : Nat) (L : xLs) (st : List Value) (S : xS) : Option xY := match x_pool M i with
  | (kd, _, _, v) => if kd = 15 then some (pc + 3, L, .long (Int64.ofInt v) :: st, S) else none
def x_heap (df : List (List Value)) (scr : Option (Nat × (Nat → Int32))) (M : xM) (ins : Instr) (pc : Nat) (L : xLs) (st : List Value) (S : xS) : Option xY := match ins with
  | .getfield i => x_get M i pc L st S
  | .putfield i => x_put M i pc L st S
  | .iaload => x_iald scr pc L st S
  | .baload => x_bald pc L st S
  | .laload => x_lald pc L st S
  | .aaload => x_aald pc L st S
  | .iastore => x_iast pc L st S
  | .bastore => x_bast pc L st S
  | .lastore => x_last pc L st S
  | .aastore => x_aast pc L st S
  | .arraylength => x_alen scr pc L st S
  | .newarray ty => x_newa ty pc L st S
  | .anewarray i => x_newq M i pc L st S
  | .new i => x_new df M i pc L st S
  | .ldc i => x_ldc M i 2 pc L st S
  | .ldc_w i => x_ldc M i 3 pc L st S
  | .ldc2_w i => x_ldc2 M i pc L st S
  | _ => none
abbrev xO : Type := Nat → List Value → xS → Option (Option Value × xS)
def x_w (st : List Value) : Nat := (st.map fun v => v.category).sum
/-- a call behind its arguments -/
def x_call (call : xO) (j : Nat) (as : List Value) (pc : Nat) (L : xLs) (rest : List Value) (S : xS) : Option xY := if x_w rest ≤ 8 then (match call j as S with
  | some (v, S') => some (pc + 3, L, v.toList ++ rest, S')
  | none => none) else none
def x_inv (call : xO) (M : xM) (ins : Instr) (pc : Nat) (L : xLs) (st : List Value) (S : xS) : Option xY := match ins with
  | .invokevirtual i => match x_pool M i with
    | (kd, j, np, ci) => if (kd = 3 ∨ kd = 4) ∧ np ≤ st.length then (match st.drop np with
      | .ref a :: rest => (match x_obj S a with
        | some (cj, _) => if (cj : Int) = ci then x_call call j (.ref a :: (st.take np).reverse) pc L rest S else none
        | none => none)
      | _ => none) else none
  | .invokespecial i => match x_pool M i with
    | (kd, j, np, _) => if kd = 9 then (match st with
      | .ref _ :: rest => if x_w rest ≤ 8 then some (pc + 3, L, rest, S) else none
      | _ => none) else if (kd = 7 ∨ kd = 8) ∧ np ≤ st.length then (match st.drop np with
      | .ref a :: rest => x_call call j (.ref a :: (st.take np).reverse) pc L rest S
      | _ => none) else none
  | .invokestatic i => match x_pool M i with
    | (kd, j, np, _) => if kd = 10 then (match st with
      | .int y :: .int x :: rest => if x_w rest ≤ 8 then some (pc + 3, L, .int (if x < y then y else x) :: rest, S) else none
      | _ => none) else if kd = 11 then (match st with
      | .int y :: .int x :: rest => if x_w rest ≤ 8 then some (pc + 3, L, .int (if y < x then y else x) :: rest, S) else none
      | _ => none) else if (kd = 5 ∨ kd = 6) ∧ np ≤ st.length then x_call call j (st.take np).reverse pc L (st.drop np) S else none
  | _ => none
def x_ret (M : xM) (ins : Instr) (st : List Value) : Option (Option Value) := match ins, M.2.2.2.1, st with
  | .return_, none, [] => some none
  | .ireturn, some .int, [.int v] => some (some (.int v))
  | .ireturn, some .boolean, [.int v] => if v = 0 ∨ v = 1 then some (some (.int v)) else none
  | .lreturn, some .long, [.long v] => some (some (.long v))
  | .areturn, some (.object _), [.ref a] => some (some (.ref a))
  | .areturn, some (.object _), [.null] => some (some .null)
  | _, _, _ => none
def x_isRet (ins : Instr) : Bool := match ins with
  | .return_ | .ireturn | .lreturn | .areturn => true
  | _ => false
def x_row (M : xM) (pc : Nat) : Option (Instr × Nat) := M.2.2.2.2.2.1.lookup pc
def x_step (df : List (List Value)) (scr : Option (Nat × (Nat → Int32))) (call : xO) (M : xM) (pc : Nat) (L : xLs) (st : List Value) (S : xS) : Option (xY ⊕ (Option Value × xS)) := match x_row M pc with
  | none => none
  | some (ins, len) => if x_isRet ins = true then (x_ret M ins st).map fun v => .inr (v, S) else
    match x_pure ins len pc L st with
    | some (pc', L', st') => some (.inl (pc', L', st', S))
    | none => match x_heap df scr M ins pc L st S with
      | some y => some (.inl y)
      | none => (x_inv call M ins pc L st S).map .inl
def x_run (df : List (List Value)) (scr : Option (Nat × (Nat → Int32))) (call : xO) (M : xM) : Nat → Nat → xLs → List Value → xS → Option (Option Value × xS)
  | 0, _, _, _, _ => none
  | n + 1, pc, L, st, S => match x_step df scr call M pc L st S with
    | none => none
    | some (.inr r) => some r
    | some (.inl (pc', L', st', S')) => x_run df scr call M n pc' L' st' S'
def x_sl (vs : List Value) : xLs := vs.flatMap fun v => if v.category = 2 then [some v, none] else [some v]
def x_entry (n : Nat) (vs : List Value) : Option xLs := if (x_sl vs).length ≤ n then some (x_sl vs ++ List.replicate (n - (x_sl vs).length) none) else none
/-- a method by its number: of calls within one another at most d, of steps in each at most n -/
def x_do (df : List (List Value)) (MT : List xM) (n : Nat) : Nat → xO
  | 0 => fun _ _ _ => none
  | d + 1 => fun j as S => match MT[j]? with
    | none => none
    | some M => match x_entry M.2.2.1 as with
      | none => none
      | some L => x_run df none (x_do df MT n d) M n 0 L [] S
end
section
/-! The pure machine's steps on a frame alone are the real machine's. -/
theorem x_cv_cat (z b : Nat) (v : Value) : (x_cv z b v).category = v.category := by cases v <;> rfl
theorem x_two_iff (v : Value) : x_two (some v) = true ↔ v.category = 2 := by cases v <;> simp [x_two, Value.category]
def x_LR (z b : Nat) (L : xLs) (ls : Array Slot) : Prop := ls.size = L.length ∧ lv_wf ls ∧ ∀ (i : Nat) (v : Value), L[i]? = some (some v) → ls[i]? = some (.val (x_cv z b v))
theorem x_ld_some {L : xLs} {i : Nat} {v : Value} (h : x_ld L i = some v) : L[i]? = some (some v) := by
  unfold x_ld at h
  split at h
  · next w hw => cases h; exact hw
  · cases h
theorem x_ld_of {L : xLs} {i : Nat} {v : Value} (h : L[i]? = some (some v)) : x_ld L i = some v := by
  unfold x_ld
  rw [h]
theorem x_LR.ld {z b : Nat} {L : xLs} {ls : Array Slot} (h : x_LR z b L ls) {i : Nat} {v : Value} (hv : x_ld L i = some v) : ls[i]? = some (.val (x_cv z b v)) := h.2.2 i v (x_ld_some hv)
def x_lv (z b : Nat) (L : xLs) : List (Nat × Value) := (List.range L.length).filterMap fun i => (x_ld L i).map fun v => (i, x_cv z b v)
theorem x_LR.has {z b : Nat} {L : xLs} {ls : Array Slot} (h : x_LR z b L ls) : lv_has ls L.length (x_lv z b L) := by
  refine ⟨h.1, h.2.1, fun q hq => ?_⟩
  obtain ⟨i, -, hi⟩ := List.mem_filterMap.mp hq
  cases hv : x_ld L i with
  | none => rw [hv] at hi; cases hi
  | some v => rw [hv] at hi; cases hi; exact h.ld hv
theorem x_lv_mem {z b : Nat} {L : xLs} {i : Nat} {v : Value} (h : L[i]? = some (some v)) : (i, x_cv z b v) ∈ x_lv z b L := by
  refine List.mem_filterMap.mpr ⟨i, List.mem_range.mpr ((List.getElem?_eq_some_iff.mp h).1), ?_⟩
  rw [x_ld_of h]
  rfl
theorem x_cl_len (L : xLs) (i : Nat) : (x_cl L i).length = L.length := by
  cases i with
  | zero => rfl
  | succ k => unfold x_cl; simp only; split <;> simp
theorem x_cl_get {L : xLs} {i j : Nat} {v : Value} (h : (x_cl L i)[j]? = some (some v)) : L[j]? = some (some v) ∧ ¬ (j + 1 = i ∧ v.category = 2) := by
  cases i with
  | zero => exact ⟨h, fun q => by omega⟩
  | succ k =>
    unfold x_cl at h
    simp only at h
    split at h
    · next ht =>
      by_cases hk : k = j
      · subst hk
        rw [List.getElem?_set] at h
        simp at h
      · rw [List.getElem?_set_ne hk] at h
        exact ⟨h, fun q => hk (by omega)⟩
    · next ht =>
      refine ⟨h, fun q => ht ?_⟩
      have hj : j = k := by omega
      subst hj
      rw [x_ld_of h]
      exact (x_two_iff v).mpr q.2
theorem x_keep1 {z b : Nat} {L L' : xLs} {ls' : Array Slot} {i : Nat} {v : Value} (hs : x_st1 L i v = some L') (h : lv_has ls' L.length ((i, x_cv z b v) :: (x_lv z b L).filter (fun q => !(q.1 == i) && !(q.1 + 1 == i && q.2.category == 2)))) : x_LR z b L' ls' := by
  unfold x_st1 at hs
  split at hs
  · next hi =>
    cases hs
    refine ⟨by rw [h.1]; simp [x_cl_len], h.2.1, fun j w hj => ?_⟩
    by_cases hji : i = j
    · subst hji
      rw [List.getElem?_set_self (by rw [x_cl_len]; exact hi)] at hj
      cases hj
      exact h.2.2 (i, x_cv z b v) List.mem_cons_self
    · rw [List.getElem?_set_ne hji] at hj
      obtain ⟨h1, h2⟩ := x_cl_get hj
      refine h.2.2 (j, x_cv z b w) (List.mem_cons_of_mem _ (List.mem_filter.mpr ⟨x_lv_mem h1, ?_⟩))
      simp only [Bool.and_eq_true, Bool.not_eq_true', beq_eq_false_iff_ne, Bool.and_eq_false_iff, x_cv_cat]
      refine ⟨fun q => hji q.symm, ?_⟩
      by_cases hq : j + 1 = i
      · exact Or.inr fun q => h2 ⟨hq, q⟩
      · exact Or.inl hq
  · cases hs
theorem x_keep2 {z b : Nat} {L L' : xLs} {ls' : Array Slot} {i : Nat} {v : Value} (hs : x_st2 L i v = some L') (h : lv_has ls' L.length ((i, x_cv z b v) :: (x_lv z b L).filter (fun q => !(q.1 == i) && (!(q.1 == i + 1) && !(q.1 + 1 == i && q.2.category == 2))))) : x_LR z b L' ls' := by
  unfold x_st2 at hs
  split at hs
  · next hi =>
    cases hs
    refine ⟨by rw [h.1]; simp [x_cl_len], h.2.1, fun j w hj => ?_⟩
    by_cases hji : i = j
    · subst hji
      rw [List.getElem?_set_self (by rw [List.length_set, x_cl_len]; omega)] at hj
      cases hj
      exact h.2.2 (i, x_cv z b v) List.mem_cons_self
    · rw [List.getElem?_set_ne hji] at hj
      by_cases hj2 : i + 1 = j
      · subst hj2
        rw [List.getElem?_set_self (by rw [x_cl_len]; exact hi)] at hj
        cases hj
      · rw [List.getElem?_set_ne hj2] at hj
        obtain ⟨h1, h2⟩ := x_cl_get hj
        refine h.2.2 (j, x_cv z b w) (List.mem_cons_of_mem _ (List.mem_filter.mpr ⟨x_lv_mem h1, ?_⟩))
        simp only [Bool.and_eq_true, Bool.not_eq_true', beq_eq_false_iff_ne, Bool.and_eq_false_iff, x_cv_cat]
        refine ⟨fun q => hji q.symm, fun q => hj2 q.symm, ?_⟩
        by_cases hq : j + 1 = i
        · exact Or.inr fun q => h2 ⟨hq, q⟩
        · exact Or.inl hq
  · cases hs
theorem x_st1_lt {L L' : xLs} {i : Nat} {v : Value} (h : x_st1 L i v = some L') : i < L.length := by
  unfold x_st1 at h
  split at h
  · assumption
  · cases h
theorem x_st2_lt {L L' : xLs} {i : Nat} {v : Value} (h : x_st2 L i v = some L') : i + 1 < L.length := by
  unfold x_st2 at h
  split at h
  · assumption
  · cases h
/-- how many bytes an instruction has, where one length alone is let through -/
def x_lok (ins : Instr) (len : Nat) : Bool := match ins with
  | .bipush _ | .newarray _ | .ldc _ => len == 2
  | .sipush _ | .goto _ | .ifCond .. | .if_icmp .. | .ifnonnull _ | .getfield _ | .putfield _ | .new _ | .anewarray _ | .invokevirtual _ | .invokespecial _ | .invokestatic _ | .ldc_w _ | .ldc2_w _ => len == 3
  | .iload _ | .lload _ | .aload _ | .istore _ | .lstore _ | .astore _ | .iinc .. | .tableswitch .. | .lookupswitch .. => true
  | _ => len == 1
section XSP
variable {p : Program} {l : Launch} {e : Env} {R : Room} {s : State} {m : MethodId} {args : Array Value} {below : List Frame} {meth : Method} {c : Code} {H : Heap} {locs : List Loc} {cells slots : Nat} {Q : State → Prop}
variable {cc : ByteArray} {pc : Nat} {ls : Array Slot} {z b : Nat} {L L' : xLs} {st st' : List Value} {pc' : Nat}
theorem x_jmp_inv {off : Int} {r : List Value} (h : x_jmp pc off L r = some (pc', L', st')) : (pc : Int) + off = (pc' : Int) ∧ L' = L ∧ st' = r := by
  unfold x_jmp at h
  split at h
  · next h0 => cases h; exact ⟨(Int.toNat_of_nonneg h0).symm, rfl, rfl⟩
  · cases h
theorem x_br_go {cd : Prop} {d : Decidable cd} {off : Int} {r : List Value} {G : Prop} (h : x_br cd d pc off L r = some (pc', L', st')) (kk : L' = L → W p l e R s m args below meth c H locs cells slots Q (F0 m pc' ls (st'.map (x_cv z b))))
    (rule : ∀ tgt : Nat, (pc : Int) + off = (tgt : Int) → (cd → W p l e R s m args below meth c H locs cells slots Q (F0 m tgt ls (r.map (x_cv z b)))) → (¬ cd → W p l e R s m args below meth c H locs cells slots Q (F0 m (pc + 3) ls (r.map (x_cv z b)))) → G) : G := by
  unfold x_br at h
  split at h
  · next h0 =>
    cases h
    refine rule _ (Int.toNat_of_nonneg h0).symm (fun q => ?_) (fun q => ?_)
    · have := kk rfl
      rw [if_pos q] at this
      exact this
    · have := kk rfl
      rw [if_neg q] at this
      exact this
  · cases h
set_option maxHeartbeats 4000000 in
theorem x_sim_if (hexec : p.tables.exec = Jvm.exec) (hb : c.code = cc) {co : ClassFile.Cond} {off : Int} (hdg : decode cc pc = .ok (.ifCond co off, 3)) (h : x_if co pc off L st = some (pc', L', st'))
    (kk : L' = L → W p l e R s m args below meth c H locs cells slots Q (F0 m pc' ls (st'.map (x_cv z b)))) : W p l e R s m args below meth c H locs cells slots Q (F0 m pc ls (st.map (x_cv z b))) := by
  unfold x_if at h
  split at h
  · next x r =>
    cases co with
    | eq => exact x_br_go h kk fun tgt ht k1 k2 => lv_if_eq hexec hb hdg ht k1 k2
    | ne => exact x_br_go h kk fun tgt ht k1 k2 => lv_if_ne hexec hb hdg ht k1 (fun q => k2 fun hn => hn q)
    | lt => exact x_br_go h kk fun tgt ht k1 k2 => lv_if_lt hexec hb hdg ht k1 k2
    | ge => exact x_br_go h kk fun tgt ht k1 k2 => lv_if_ge hexec hb hdg ht k1 k2
    | gt => exact x_br_go h kk fun tgt ht k1 k2 => lv_if_gt hexec hb hdg ht k1 k2
    | le => exact x_br_go h kk fun tgt ht k1 k2 => lv_if_le hexec hb hdg ht k1 k2
  · cases h
set_option maxHeartbeats 4000000 in
theorem x_sim_ic (hexec : p.tables.exec = Jvm.exec) (hb : c.code = cc) {co : ClassFile.Cond} {off : Int} (hdg : decode cc pc = .ok (.if_icmp co off, 3)) (h : x_ic co pc off L st = some (pc', L', st'))
    (kk : L' = L → W p l e R s m args below meth c H locs cells slots Q (F0 m pc' ls (st'.map (x_cv z b)))) : W p l e R s m args below meth c H locs cells slots Q (F0 m pc ls (st.map (x_cv z b))) := by
  unfold x_ic at h
  split at h
  · next y x r =>
    cases co with
    | eq => exact x_br_go h kk fun tgt ht k1 k2 => lv_icmp_eq hexec hb hdg ht k1 k2
    | ne => exact x_br_go h kk fun tgt ht k1 k2 => lv_icmp_ne hexec hb hdg ht k1 (fun q => k2 fun hn => hn q)
    | lt => exact x_br_go h kk fun tgt ht k1 k2 => lv_icmp_lt hexec hb hdg ht k1 k2
    | ge => exact x_br_go h kk fun tgt ht k1 k2 => lv_icmp_ge hexec hb hdg ht k1 k2
    | gt => exact x_br_go h kk fun tgt ht k1 k2 => lv_icmp_gt hexec hb hdg ht k1 k2
    | le => exact x_br_go h kk fun tgt ht k1 k2 => lv_icmp_le hexec hb hdg ht k1 k2
  · cases h
/-- one word for each shape of an instruction's arithmetic -/
theorem x_b2_inv {f : Int32 → Int32 → Value} (h : x_b2 pc L st f = some (pc', L', st')) : ∃ x y r, st = .int y :: .int x :: r ∧ pc' = pc + 1 ∧ L' = L ∧ st' = f x y :: r := by
  unfold x_b2 at h
  split at h
  · next y x r => cases h; exact ⟨x, y, r, rfl, rfl, rfl, rfl⟩
  · cases h
theorem x_d2_inv {f : Int32 → Int32 → Value} (h : x_d2 pc L st f = some (pc', L', st')) : ∃ x y r, st = .int y :: .int x :: r ∧ ¬ y = 0 ∧ pc' = pc + 1 ∧ L' = L ∧ st' = f x y :: r := by
  unfold x_d2 at h
  split at h
  · next y x r =>
    split at h
    · cases h
    · next hy => cases h; exact ⟨x, y, r, rfl, hy, rfl, rfl, rfl⟩
  · cases h
theorem x_l2_inv {f : Int64 → Int64 → Value} (h : x_l2 pc L st f = some (pc', L', st')) : ∃ x y r, st = .long y :: .long x :: r ∧ pc' = pc + 1 ∧ L' = L ∧ st' = f x y :: r := by
  unfold x_l2 at h
  split at h
  · next y x r => cases h; exact ⟨x, y, r, rfl, rfl, rfl, rfl⟩
  · cases h
theorem x_m2_inv {f : Int64 → Int64 → Value} (h : x_m2 pc L st f = some (pc', L', st')) : ∃ x y r, st = .long y :: .long x :: r ∧ ¬ y = 0 ∧ pc' = pc + 1 ∧ L' = L ∧ st' = f x y :: r := by
  unfold x_m2 at h
  split at h
  · next y x r =>
    split at h
    · cases h
    · next hy => cases h; exact ⟨x, y, r, rfl, hy, rfl, rfl, rfl⟩
  · cases h
theorem x_s2_inv {f : Int64 → Int32 → Value} (h : x_s2 pc L st f = some (pc', L', st')) : ∃ x y r, st = .int y :: .long x :: r ∧ pc' = pc + 1 ∧ L' = L ∧ st' = f x y :: r := by
  unfold x_s2 at h
  split at h
  · next y x r => cases h; exact ⟨x, y, r, rfl, rfl, rfl, rfl⟩
  · cases h
theorem x_i1_inv {f : Int32 → Value} (h : x_i1 pc L st f = some (pc', L', st')) : ∃ x r, st = .int x :: r ∧ pc' = pc + 1 ∧ L' = L ∧ st' = f x :: r := by
  unfold x_i1 at h
  split at h
  · next x r => cases h; exact ⟨x, r, rfl, rfl, rfl, rfl⟩
  · cases h
theorem x_j1_inv {f : Int64 → Value} (h : x_j1 pc L st f = some (pc', L', st')) : ∃ x r, st = .long x :: r ∧ pc' = pc + 1 ∧ L' = L ∧ st' = f x :: r := by
  unfold x_j1 at h
  split at h
  · next x r => cases h; exact ⟨x, r, rfl, rfl, rfl, rfl⟩
  · cases h
theorem x_ldi_inv {k i : Nat} (h : x_ldi pc k L st i = some (pc', L', st')) : ∃ x, x_ld L i = some (.int x) ∧ pc' = pc + k ∧ L' = L ∧ st' = .int x :: st := by
  unfold x_ldi at h
  split at h
  · next x hx => cases h; exact ⟨x, hx, rfl, rfl, rfl⟩
  · cases h
theorem x_ldl_inv {k i : Nat} (h : x_ldl pc k L st i = some (pc', L', st')) : ∃ x, x_ld L i = some (.long x) ∧ pc' = pc + k ∧ L' = L ∧ st' = .long x :: st := by
  unfold x_ldl at h
  split at h
  · next x hx => cases h; exact ⟨x, hx, rfl, rfl, rfl⟩
  · cases h
theorem x_lda_inv {k i : Nat} (h : x_lda pc k L st i = some (pc', L', st')) : ∃ v, x_ld L i = some v ∧ ((∃ a, v = .ref a) ∨ v = .null ∨ ∃ a, v = .retAddr a) ∧ pc' = pc + k ∧ L' = L ∧ st' = v :: st := by
  unfold x_lda at h
  split at h
  · next x hx => cases h; exact ⟨_, hx, Or.inl ⟨x, rfl⟩, rfl, rfl, rfl⟩
  · next hx => cases h; exact ⟨_, hx, Or.inr (Or.inl rfl), rfl, rfl, rfl⟩
  · next x hx => cases h; exact ⟨_, hx, Or.inr (Or.inr ⟨x, rfl⟩), rfl, rfl, rfl⟩
  · cases h
theorem x_sti_inv {k i : Nat} (h : x_sti pc k L st i = some (pc', L', st')) : ∃ x r, st = .int x :: r ∧ x_st1 L i (.int x) = some L' ∧ pc' = pc + k ∧ st' = r := by
  unfold x_sti at h
  split at h
  · next x r =>
    cases hs : x_st1 L i (.int x) with
    | none => rw [hs] at h; cases h
    | some M => rw [hs] at h; cases h; exact ⟨x, _, rfl, hs, rfl, rfl⟩
  · cases h
theorem x_stl_inv {k i : Nat} (h : x_stl pc k L st i = some (pc', L', st')) : ∃ x r, st = .long x :: r ∧ x_st2 L i (.long x) = some L' ∧ pc' = pc + k ∧ st' = r := by
  unfold x_stl at h
  split at h
  · next x r =>
    cases hs : x_st2 L i (.long x) with
    | none => rw [hs] at h; cases h
    | some M => rw [hs] at h; cases h; exact ⟨x, _, rfl, hs, rfl, rfl⟩
  · cases h
theorem x_sta_inv {k i : Nat} (h : x_sta pc k L st i = some (pc', L', st')) : ∃ v r, st = v :: r ∧ ((∃ a, v = .ref a) ∨ v = .null) ∧ x_st1 L i v = some L' ∧ pc' = pc + k ∧ st' = r := by
  unfold x_sta at h
  split at h
  · next x r =>
    cases hs : x_st1 L i (.ref x) with
    | none => rw [hs] at h; cases h
    | some M => rw [hs] at h; cases h; exact ⟨_, _, rfl, Or.inl ⟨x, rfl⟩, hs, rfl, rfl⟩
  · next r =>
    cases hs : x_st1 L i .null with
    | none => rw [hs] at h; cases h
    | some M => rw [hs] at h; cases h; exact ⟨_, _, rfl, Or.inr rfl, hs, rfl, rfl⟩
  · cases h
end XSP
end
section
/-! The pure machine's steps on a frame alone are the real machine's: all of them. -/
section XSM
variable {p : Program} {l : Launch} {e : Env} {R : Room} {s : State} {m : MethodId} {args : Array Value} {below : List Frame} {meth : Method} {c : Code} {H : Heap} {locs : List Loc} {cells slots : Nat} {Q : State → Prop}
variable {cc : ByteArray} {pc : Nat} {ls : Array Slot} {z b : Nat} {L L' : xLs} {st st' : List Value} {pc' : Nat}
theorem x_no {α : Type} {a : α} (h : (none : Option α) = some a) : False := by cases h
set_option maxHeartbeats 8000000 in
theorem x_sim_pure (hexec : p.tables.exec = Jvm.exec) (hb : c.code = cc) {ins : Instr} {len : Nat} (hdg : decode cc pc = .ok (ins, len)) (hlen : x_lok ins len = true) (h : x_pure ins len pc L st = some (pc', L', st')) (hl : x_LR z b L ls)
    (kk : ∀ ls' : Array Slot, x_LR z b L' ls' → W p l e R s m args below meth c H locs cells slots Q (F0 m pc' ls' (st'.map (x_cv z b)))) : W p l e R s m args below meth c H locs cells slots Q (F0 m pc ls (st.map (x_cv z b))) := by
  cases ins with
  | iconst n =>
    obtain rfl : len = 1 := by simpa [x_lok] using hlen
    cases h
    exact lv_iconst hexec hb hdg rfl (kk ls hl)
  | bipush n =>
    obtain rfl : len = 2 := by simpa [x_lok] using hlen
    cases h
    exact lv_bipush hexec hb hdg rfl (kk ls hl)
  | sipush n =>
    obtain rfl : len = 3 := by simpa [x_lok] using hlen
    cases h
    exact lv_sipush hexec hb hdg rfl (kk ls hl)
  | lconst n =>
    obtain rfl : len = 1 := by simpa [x_lok] using hlen
    cases h
    exact lv_lconst hexec hb hdg rfl (kk ls hl)
  | iload_n k =>
    obtain rfl : len = 1 := by simpa [x_lok] using hlen
    obtain ⟨x, hx, rfl, rfl, rfl⟩ := x_ldi_inv h
    exact lv_iload_n hexec hb hdg rfl (hl.ld hx) (kk ls hl)
  | iload i =>
    dsimp only [x_pure] at h
    split at h
    · next h2 =>
      subst h2
      obtain ⟨x, hx, rfl, rfl, rfl⟩ := x_ldi_inv h
      exact lv_iload hexec hb hdg (hl.ld hx) (kk ls hl)
    · cases h
  | lload_n k =>
    obtain rfl : len = 1 := by simpa [x_lok] using hlen
    obtain ⟨x, hx, rfl, rfl, rfl⟩ := x_ldl_inv h
    exact lv_lload_n hexec hb hdg rfl (hl.ld hx) (kk ls hl)
  | lload i =>
    dsimp only [x_pure] at h
    split at h
    · next h2 =>
      subst h2
      obtain ⟨x, hx, rfl, rfl, rfl⟩ := x_ldl_inv h
      exact lv_lload hexec hb hdg (hl.ld hx) (kk ls hl)
    · cases h
  | aload_n k =>
    obtain rfl : len = 1 := by simpa [x_lok] using hlen
    obtain ⟨v, hx, hv, rfl, rfl, rfl⟩ := x_lda_inv h
    rcases hv with ⟨a, rfl⟩ | rfl | ⟨a, rfl⟩
    · exact lv_aload_n hexec hb hdg rfl (hl.ld hx) (kk ls hl)
    · exact lv_aload_nN hexec hb hdg rfl (hl.ld hx) (kk ls hl)
    · exact lv_aload_n hexec hb hdg rfl (hl.ld hx) (kk ls hl)
  | aload i =>
    dsimp only [x_pure] at h
    split at h
    · next h2 =>
      subst h2
      obtain ⟨v, hx, hv, rfl, rfl, rfl⟩ := x_lda_inv h
      rcases hv with ⟨a, rfl⟩ | rfl | ⟨a, rfl⟩
      · exact lv_aload hexec hb hdg (hl.ld hx) (kk ls hl)
      · exact lv_aloadN hexec hb hdg (hl.ld hx) (kk ls hl)
      · exact lv_aload hexec hb hdg (hl.ld hx) (kk ls hl)
    · cases h
  | istore_n k =>
    obtain rfl : len = 1 := by simpa [x_lok] using hlen
    obtain ⟨x, r, rfl, hs, rfl, rfl⟩ := x_sti_inv h
    exact lv_istore_n hexec hb hdg rfl hl.has (x_st1_lt hs) rfl fun ls2 h2 => kk ls2 (x_keep1 hs h2)
  | istore i =>
    dsimp only [x_pure] at h
    split at h
    · next h2 =>
      subst h2
      obtain ⟨x, r, rfl, hs, rfl, rfl⟩ := x_sti_inv h
      exact lv_istore hexec hb hdg hl.has (x_st1_lt hs) rfl fun ls2 h2 => kk ls2 (x_keep1 hs h2)
    · cases h
  | lstore_n k =>
    obtain rfl : len = 1 := by simpa [x_lok] using hlen
    obtain ⟨x, r, rfl, hs, rfl, rfl⟩ := x_stl_inv h
    exact lv_lstore_n hexec hb hdg rfl hl.has (x_st2_lt hs) rfl fun ls2 h2 => kk ls2 (x_keep2 hs h2)
  | lstore i =>
    dsimp only [x_pure] at h
    split at h
    · next h2 =>
      subst h2
      obtain ⟨x, r, rfl, hs, rfl, rfl⟩ := x_stl_inv h
      exact lv_lstore hexec hb hdg hl.has (x_st2_lt hs) rfl fun ls2 h2 => kk ls2 (x_keep2 hs h2)
    · cases h
  | astore_n k =>
    obtain rfl : len = 1 := by simpa [x_lok] using hlen
    obtain ⟨v, r, rfl, hv, hs, rfl, rfl⟩ := x_sta_inv h
    rcases hv with ⟨a, rfl⟩ | rfl
    · exact lv_astore_n hexec hb hdg rfl hl.has (x_st1_lt hs) rfl fun ls2 h2 => kk ls2 (x_keep1 hs h2)
    · exact lv_astore_nN hexec hb hdg rfl hl.has (x_st1_lt hs) rfl fun ls2 h2 => kk ls2 (x_keep1 hs h2)
  | astore i =>
    dsimp only [x_pure] at h
    split at h
    · next h2 =>
      subst h2
      obtain ⟨v, r, rfl, hv, hs, rfl, rfl⟩ := x_sta_inv h
      rcases hv with ⟨a, rfl⟩ | rfl
      · exact lv_astore hexec hb hdg hl.has (x_st1_lt hs) rfl fun ls2 h2 => kk ls2 (x_keep1 hs h2)
      · exact lv_astoreN hexec hb hdg hl.has (x_st1_lt hs) rfl fun ls2 h2 => kk ls2 (x_keep1 hs h2)
    · cases h
  | iinc i n =>
    dsimp only [x_pure] at h
    split at h
    · next h2 =>
      subst h2
      split at h
      · next x hx =>
        cases hs : x_st1 L i (.int (x + Int32.ofInt n)) with
        | none => rw [hs] at h; cases h
        | some M =>
          rw [hs] at h
          cases h
          obtain ⟨k, hk⟩ := List.getElem?_of_mem (x_lv_mem (z := z) (b := b) (x_ld_some hx))
          exact lv_iinc hexec hb hdg hl.has hk rfl (x_st1_lt hs) rfl fun ls2 h2 => kk ls2 (x_keep1 hs h2)
      · cases h
    · cases h
  | iadd =>
    obtain rfl : len = 1 := by simpa [x_lok] using hlen
    obtain ⟨x, y, r, rfl, rfl, rfl, rfl⟩ := x_b2_inv h
    exact lv_iadd hexec hb hdg (kk ls hl)
  | isub =>
    obtain rfl : len = 1 := by simpa [x_lok] using hlen
    obtain ⟨x, y, r, rfl, rfl, rfl, rfl⟩ := x_b2_inv h
    exact lv_isub hexec hb hdg (kk ls hl)
  | imul =>
    obtain rfl : len = 1 := by simpa [x_lok] using hlen
    obtain ⟨x, y, r, rfl, rfl, rfl, rfl⟩ := x_b2_inv h
    exact lv_imul hexec hb hdg (kk ls hl)
  | iand =>
    obtain rfl : len = 1 := by simpa [x_lok] using hlen
    obtain ⟨x, y, r, rfl, rfl, rfl, rfl⟩ := x_b2_inv h
    exact lv_iand hexec hb hdg (kk ls hl)
  | ior =>
    obtain rfl : len = 1 := by simpa [x_lok] using hlen
    obtain ⟨x, y, r, rfl, rfl, rfl, rfl⟩ := x_b2_inv h
    exact lv_ior hexec hb hdg (kk ls hl)
  | ixor =>
    obtain rfl : len = 1 := by simpa [x_lok] using hlen
    obtain ⟨x, y, r, rfl, rfl, rfl, rfl⟩ := x_b2_inv h
    exact lv_ixor hexec hb hdg (kk ls hl)
  | ishl =>
    obtain rfl : len = 1 := by simpa [x_lok] using hlen
    obtain ⟨x, y, r, rfl, rfl, rfl, rfl⟩ := x_b2_inv h
    exact lv_ishl hexec hb hdg (kk ls hl)
  | ishr =>
    obtain rfl : len = 1 := by simpa [x_lok] using hlen
    obtain ⟨x, y, r, rfl, rfl, rfl, rfl⟩ := x_b2_inv h
    exact lv_ishr hexec hb hdg (kk ls hl)
  | iushr =>
    obtain rfl : len = 1 := by simpa [x_lok] using hlen
    obtain ⟨x, y, r, rfl, rfl, rfl, rfl⟩ := x_b2_inv h
    exact lv_iushr hexec hb hdg rfl (kk ls hl)
  | idiv =>
    obtain rfl : len = 1 := by simpa [x_lok] using hlen
    obtain ⟨x, y, r, rfl, hy, rfl, rfl, rfl⟩ := x_d2_inv h
    exact lv_idiv hexec hb hdg hy (kk ls hl)
  | irem =>
    obtain rfl : len = 1 := by simpa [x_lok] using hlen
    obtain ⟨x, y, r, rfl, hy, rfl, rfl, rfl⟩ := x_d2_inv h
    exact lv_irem hexec hb hdg hy (kk ls hl)
  | ineg =>
    obtain rfl : len = 1 := by simpa [x_lok] using hlen
    obtain ⟨x, r, rfl, rfl, rfl, rfl⟩ := x_i1_inv h
    exact lv_ineg hexec hb hdg (kk ls hl)
  | ladd =>
    obtain rfl : len = 1 := by simpa [x_lok] using hlen
    obtain ⟨x, y, r, rfl, rfl, rfl, rfl⟩ := x_l2_inv h
    exact lv_ladd hexec hb hdg (kk ls hl)
  | lsub =>
    obtain rfl : len = 1 := by simpa [x_lok] using hlen
    obtain ⟨x, y, r, rfl, rfl, rfl, rfl⟩ := x_l2_inv h
    exact lv_lsub hexec hb hdg (kk ls hl)
  | lmul =>
    obtain rfl : len = 1 := by simpa [x_lok] using hlen
    obtain ⟨x, y, r, rfl, rfl, rfl, rfl⟩ := x_l2_inv h
    exact lv_lmul hexec hb hdg (kk ls hl)
  | land =>
    obtain rfl : len = 1 := by simpa [x_lok] using hlen
    obtain ⟨x, y, r, rfl, rfl, rfl, rfl⟩ := x_l2_inv h
    exact lv_land hexec hb hdg (kk ls hl)
  | lor =>
    obtain rfl : len = 1 := by simpa [x_lok] using hlen
    obtain ⟨x, y, r, rfl, rfl, rfl, rfl⟩ := x_l2_inv h
    exact lv_lor hexec hb hdg (kk ls hl)
  | lxor =>
    obtain rfl : len = 1 := by simpa [x_lok] using hlen
    obtain ⟨x, y, r, rfl, rfl, rfl, rfl⟩ := x_l2_inv h
    exact lv_lxor hexec hb hdg (kk ls hl)
  | ldiv =>
    obtain rfl : len = 1 := by simpa [x_lok] using hlen
    obtain ⟨x, y, r, rfl, hy, rfl, rfl, rfl⟩ := x_m2_inv h
    exact lv_ldiv hexec hb hdg hy (kk ls hl)
  | lrem =>
    obtain rfl : len = 1 := by simpa [x_lok] using hlen
    obtain ⟨x, y, r, rfl, hy, rfl, rfl, rfl⟩ := x_m2_inv h
    exact lv_lrem hexec hb hdg hy (kk ls hl)
  | lneg =>
    obtain rfl : len = 1 := by simpa [x_lok] using hlen
    obtain ⟨x, r, rfl, rfl, rfl, rfl⟩ := x_j1_inv h
    exact lv_lneg hexec hb hdg (kk ls hl)
  | lcmp =>
    obtain rfl : len = 1 := by simpa [x_lok] using hlen
    obtain ⟨x, y, r, rfl, rfl, rfl, rfl⟩ := x_l2_inv h
    exact W.lcmp hexec hb hdg (kk ls hl)
  | lshl =>
    obtain rfl : len = 1 := by simpa [x_lok] using hlen
    obtain ⟨x, y, r, rfl, rfl, rfl, rfl⟩ := x_s2_inv h
    exact lv_lshl hexec hb hdg rfl (kk ls hl)
  | lshr =>
    obtain rfl : len = 1 := by simpa [x_lok] using hlen
    obtain ⟨x, y, r, rfl, rfl, rfl, rfl⟩ := x_s2_inv h
    exact lv_lshr hexec hb hdg rfl (kk ls hl)
  | lushr =>
    obtain rfl : len = 1 := by simpa [x_lok] using hlen
    obtain ⟨x, y, r, rfl, rfl, rfl, rfl⟩ := x_s2_inv h
    exact lv_lushr hexec hb hdg rfl (kk ls hl)
  | i2l =>
    obtain rfl : len = 1 := by simpa [x_lok] using hlen
    obtain ⟨x, r, rfl, rfl, rfl, rfl⟩ := x_i1_inv h
    exact lv_i2l hexec hb hdg rfl (kk ls hl)
  | i2b =>
    obtain rfl : len = 1 := by simpa [x_lok] using hlen
    obtain ⟨x, r, rfl, rfl, rfl, rfl⟩ := x_i1_inv h
    exact lv_i2b hexec hb hdg rfl (kk ls hl)
  | i2s =>
    obtain rfl : len = 1 := by simpa [x_lok] using hlen
    obtain ⟨x, r, rfl, rfl, rfl, rfl⟩ := x_i1_inv h
    exact lv_i2s hexec hb hdg rfl (kk ls hl)
  | l2i =>
    obtain rfl : len = 1 := by simpa [x_lok] using hlen
    obtain ⟨x, r, rfl, rfl, rfl, rfl⟩ := x_j1_inv h
    exact lv_l2i hexec hb hdg rfl (kk ls hl)
  | dup =>
    obtain rfl : len = 1 := by simpa [x_lok] using hlen
    dsimp only [x_pure] at h
    split at h
    · next v r =>
      split at h
      · next hv => cases h; exact lv_dup hexec hb hdg ((x_cv_cat z b v).trans hv) (kk ls hl)
      · cases h
    · cases h
  | pop =>
    obtain rfl : len = 1 := by simpa [x_lok] using hlen
    dsimp only [x_pure] at h
    split at h
    · next v r =>
      split at h
      · next hv => cases h; exact lv_pop hexec hb hdg ((x_cv_cat z b v).trans hv) (kk ls hl)
      · cases h
    · cases h
  | dup2 =>
    obtain rfl : len = 1 := by simpa [x_lok] using hlen
    dsimp only [x_pure] at h
    split at h
    · next v r =>
      split at h
      · next hv => cases h; exact lv_dup2_2 hexec hb hdg ((x_cv_cat z b v).trans hv) (kk ls hl)
      · split at h
        · next w r =>
          split at h
          · next hv => cases h; exact lv_dup2_11 hexec hb hdg ((x_cv_cat z b v).trans hv.1) ((x_cv_cat z b w).trans hv.2) (kk ls hl)
          · cases h
        · cases h
    · cases h
  | pop2 =>
    obtain rfl : len = 1 := by simpa [x_lok] using hlen
    dsimp only [x_pure] at h
    split at h
    · next v r =>
      split at h
      · next hv => cases h; exact lv_pop2_2 hexec hb hdg ((x_cv_cat z b v).trans hv) (kk ls hl)
      · cases h
    · cases h
  | goto off =>
    obtain rfl : len = 3 := by simpa [x_lok] using hlen
    obtain ⟨ht, rfl, rfl⟩ := x_jmp_inv h
    exact lv_goto hexec hb hdg ht (kk ls hl)
  | ifCond co off =>
    obtain rfl : len = 3 := by simpa [x_lok] using hlen
    exact x_sim_if hexec hb hdg h fun hL => kk ls (hL ▸ hl)
  | if_icmp co off =>
    obtain rfl : len = 3 := by simpa [x_lok] using hlen
    exact x_sim_ic hexec hb hdg h fun hL => kk ls (hL ▸ hl)
  | ifnonnull off =>
    obtain rfl : len = 3 := by simpa [x_lok] using hlen
    dsimp only [x_pure] at h
    split at h
    · next a r =>
      obtain ⟨ht, rfl, rfl⟩ := x_jmp_inv h
      exact lv_ifnonnull hexec hb hdg ht (kk ls hl)
    · next r => cases h; exact lv_ifnonnullN hexec hb hdg (kk ls hl)
    · cases h
  | tableswitch d lo hi offs =>
    dsimp only [x_pure] at h
    split at h
    · next x r =>
      split at h
      · next hx =>
        obtain ⟨ht, rfl, rfl⟩ := x_jmp_inv h
        exact lv_tableOut hexec hb hdg hx ht (kk ls hl)
      · next hx =>
        split at h
        · next o ho =>
          obtain ⟨ht, rfl, rfl⟩ := x_jmp_inv h
          exact lv_tableIn hexec hb hdg (fun q => hx (Or.inl q)) (fun q => hx (Or.inr q)) ho ht (kk ls hl)
        · cases h
    · cases h
  | lookupswitch d ps =>
    dsimp only [x_pure] at h
    split at h
    · next x r =>
      split at h
      · next hx =>
        obtain ⟨ht, rfl, rfl⟩ := x_jmp_inv h
        exact lv_lookup hexec hb hdg hx rfl ht (kk ls hl)
      · cases h
    · cases h
  | _ => exact (x_no (show (none : Option xP) = some (pc', L', st') from h)).elim
end XSM
end
section
/-! The pure world and the heap. -/
theorem x_wl_get {cA : Nat → ClassId} {z b : Nat} {S : xS} {i : Nat} {e : xE} (h : S[i]? = some e) : (x_wl cA z b S)[i]? = some (z + i, x_ce cA z b e) := by
  unfold x_wl
  rw [List.getElem?_mapIdx, h]
  rfl
theorem x_wl_len (cA : Nat → ClassId) (z b : Nat) (S : xS) : (x_wl cA z b S).length = S.length := by
  unfold x_wl
  exact List.length_mapIdx
theorem x_wl_inv {cA : Nat → ClassId} {z b : Nat} {S : xS} {i : Nat} {q : Nat × va_E} (h : (x_wl cA z b S)[i]? = some q) : ∃ e, S[i]? = some e ∧ q = (z + i, x_ce cA z b e) := by
  unfold x_wl at h
  rw [List.getElem?_mapIdx] at h
  cases he : S[i]? with
  | none => rw [he] at h; cases h
  | some e => rw [he] at h; cases h; exact ⟨e, rfl, rfl⟩
theorem x_wl_set (cA : Nat → ClassId) (z b : Nat) (S : xS) (i : Nat) (e : xE) : (x_wl cA z b S).set i (z + i, x_ce cA z b e) = x_wl cA z b (S.set i e) := by
  apply List.ext_getElem?
  intro j
  by_cases hij : i = j
  · subst hij
    by_cases hl : i < S.length
    · rw [List.getElem?_set_self (by rw [x_wl_len]; exact hl), x_wl_get (List.getElem?_set_self hl)]
    · rw [List.getElem?_eq_none (by rw [List.length_set, x_wl_len]; omega), List.getElem?_eq_none (by rw [x_wl_len, List.length_set]; omega)]
  · rw [List.getElem?_set_ne hij]
    unfold x_wl
    rw [List.getElem?_mapIdx, List.getElem?_mapIdx, List.getElem?_set_ne hij]
theorem x_wl_app (cA : Nat → ClassId) (z b : Nat) (S : xS) (e : xE) : x_wl cA z b (S ++ [e]) = x_wl cA z b S ++ [(z + S.length, x_ce cA z b e)] := by
  unfold x_wl
  rw [List.mapIdx_append]
  simp
theorem x_wl_D (cA : Nat → ClassId) (z b : Nat) (S : xS) : va_D (fun q => z ≤ q) (x_wl cA z b S) := by
  refine ⟨fun i j p q hi hj hpq => ?_, fun k q hk => ?_⟩
  · obtain ⟨e1, -, rfl⟩ := x_wl_inv hi
    obtain ⟨e2, -, rfl⟩ := x_wl_inv hj
    simp only at hpq
    omega
  · obtain ⟨e, -, rfl⟩ := x_wl_inv hk
    exact Nat.le_add_right _ _
/-- the heap's cells from z on are the world's -/
def x_Wd (D : va_G) (cl : List vw_C) (cA : Nat → ClassId) (z b : Nat) (S : xS) (H : Heap) : Prop := H.size = z + S.length ∧ va_P D cl (x_wl cA z b S) H
def x_sz (e : xE) : Nat := match e with
  | .inl (_, fs) => fs.length
  | .inr (_, n, _) => n
def x_slots (S : xS) : Nat := (S.map x_sz).sum
theorem x_slots_app (S : xS) (e : xE) : x_slots (S ++ [e]) = x_slots S + x_sz e := by simp [x_slots]
theorem x_slots_set {S : xS} {i : Nat} {e0 e : xE} (h : S[i]? = some e0) (he : x_sz e = x_sz e0) : x_slots (S.set i e) = x_slots S := by
  induction S generalizing i with
  | nil => rfl
  | cons a t ih =>
    cases i with
    | zero =>
      simp only [List.getElem?_cons_zero, Option.some.injEq] at h
      subst h
      simp [x_slots, he]
    | succ k =>
      simp only [List.getElem?_cons_succ] at h
      have := ih h
      simp only [x_slots] at this ⊢
      simp only [List.set_cons_succ, List.map_cons, List.sum_cons, this]
theorem x_Wd.stored {D : va_G} {cl : List vw_C} {cA : Nat → ClassId} {z b : Nat} {S : xS} {H H1 : Heap} {i : Nat} {e0 e : xE} (h : x_Wd D cl cA z b S H) (hi : S[i]? = some e0) (he : va_at D cl (z + i, x_ce cA z b e) H1) (hz : H1.size = H.size) (oq : ∀ q : Nat, q ≠ z + i → H1[q]? = H[q]?) : x_Wd D cl cA z b (S.set i e) H1 := by
  refine ⟨by rw [hz, h.1, List.length_set], ?_⟩
  rw [← x_wl_set]
  exact h.2.set (x_wl_D cA z b S) (x_wl_get hi) he oq
theorem x_Wd.pushed {D : va_G} {cl : List vw_C} {cA : Nat → ClassId} {z b : Nat} {S : xS} {H H1 : Heap} {e : xE} (h : x_Wd D cl cA z b S H) (he : va_at D cl (z + S.length, x_ce cA z b e) H1) (hz : H1.size = H.size + 1) (oq : ∀ q : Nat, q < H.size → H1[q]? = H[q]?) : x_Wd D cl cA z b (S ++ [e]) H1 := by
  refine ⟨by rw [hz, h.1, List.length_append]; simp; omega, ?_⟩
  rw [x_wl_app]
  refine (h.2.kept fun k q hk => oq q.1 (h.2 k q hk).lt).app fun k q hk => ?_
  have hz : k < 1 := (List.getElem?_eq_some_iff.mp hk).1
  rw [show k = 0 by omega] at hk
  cases hk
  exact he
theorem x_obj_inv {S : xS} {a : Nat} {q : Nat × List Value} (h : x_obj S a = some q) : S[a]? = some (.inl q) := by
  unfold x_obj at h
  split at h
  · next hq => cases h; exact hq
  · cases h
theorem x_arr_inv {S : xS} {a : Nat} {q : Nat × vp_A} (h : x_arr S a = some q) : S[a]? = some (.inr q) := by
  unfold x_arr at h
  split at h
  · next hq => cases h; exact hq
  · cases h
/-- the sorts of arrays -/
def x_ty (t : Nat) : FieldType := match t with
  | 0 => .int
  | 1 => .long
  | 2 => .byte
  | 3 => .boolean
  | 4 => .object "WireHouse$Bytes"
  | 5 => .object "WireHouse$Schema"
  | _ => .object "WireHouse$Tree"
def x_tys (cA : Nat → ClassId) : List (ClassId × FieldType) := (List.range 7).map fun t => (cA t, x_ty t)
theorem x_tys_get (cA : Nat → ClassId) {t : Nat} (h : t < 7) : (x_tys cA)[t]? = some (cA t, x_ty t) := by
  unfold x_tys
  rw [List.getElem?_map, List.getElem?_range h]
  rfl
theorem x_in_vp {i : Int32} {n : Nat} (h : x_in i n) : vp_in i n := fun q => by
  rcases q with q | q
  · exact Int32.not_lt.mpr h.1 q
  · exact Nat.not_le.mpr h.2 q
/-- what is asked of a descriptor's sort -/
def x_tyOk (d : String) (tc : Int) : Prop := ∃ ty, parseFieldDescriptor d = some ty ∧ ((tc = 0 ∧ ty = .int) ∨ (tc = 1 ∧ ty = .long) ∨ (tc = 2 ∧ ty = .boolean) ∨ (tc = 3 ∧ ((∃ n, ty = .object n) ∨ ∃ t, ty = .array t)))
theorem x_fit_ok {d : String} {tc : Int} {v : Value} (h : x_tyOk d tc) (hf : x_fit tc v = true) (z b : Nat) : ∃ ty, parseFieldDescriptor d = some ty ∧ narrow ty (x_cv z b v) = x_cv z b v ∧ fits ty (x_cv z b v) = true := by
  obtain ⟨ty, hp, h⟩ := h
  refine ⟨ty, hp, ?_⟩
  rcases h with ⟨rfl, rfl⟩ | ⟨rfl, rfl⟩ | ⟨rfl, rfl⟩ | ⟨rfl, ⟨n, rfl⟩ | ⟨t, rfl⟩⟩ <;> cases v <;> simp [x_fit, x_cv, narrow, fits] at hf ⊢
  · rcases hf with rfl | rfl <;> decide
/-- classes of the world: their words are there, their fields' types, their values at birth -/
def x_okC (cl : List vw_C) (df : List (List Value)) (Ts : List Jvm.Cond) : Prop := ∀ (ci : Nat) (C : String) (T : u_T) (N : Nat), cl[ci]? = some (C, T, N) → (∀ w ∈ u_ws C T N, w ∈ Ts) ∧
  (∃ ty : Nat → FieldType, (∀ k, k < N → parseFieldDescriptor (T k).2.2.1 = some (ty k)) ∧ ∃ fs, df[ci]? = some fs ∧ fs.length = N ∧ (∀ v ∈ fs, ∀ z b, x_cv z b v = v) ∧ ∀ j, j < N → defaultValue (ty j) = vp_V fs j) ∧
  (∀ a, a < N → ∀ b, b < N → a ≠ b → (T a).2.1 ≠ (T b).2.1) ∧ Cond.instantiable C N ∈ Ts ∧ Cond.initialized C ∈ Ts
/-- a field's link: a plain one, or one to a nest mate's -/
def x_okF (cl : List vw_C) (Ts : List Jvm.Cond) (own : String) (i : Nat) (q : Nat × Nat × Int) (fin : Bool) : Prop := ∃ (C : String) (T : u_T) (N : Nat), cl[q.1]? = some (C, T, N) ∧ q.2.1 < N ∧ Cond.fieldLink own i C (T q.2.1).2.1 (T q.2.1).2.2.1 ∈ Ts ∧ (T q.2.1).1 = C ∧ (T q.2.1).2.2.2 = fin ∧ x_tyOk (T q.2.1).2.2.1 q.2.2
def x_okFN (cl : List vw_C) (Ts : List Jvm.Cond) (own : String) (i : Nat) (q : Nat × Nat × Int) : Prop := ∃ (C host : String) (T : u_T) (N : Nat), cl[q.1]? = some (C, T, N) ∧ q.2.1 < N ∧ Cond.fieldLinkNest own i C (T q.2.1).2.1 (T q.2.1).2.2.1 host ∈ Ts ∧ (T q.2.1).1 = C
/-- a method is what the tables say: its word, its rows -/
def x_okM (Ts : List Jvm.Cond) (M : xM) : Prop := Cond.code M.1 M.2.1 M.2.2.1 M.2.2.2.1 ∈ Ts ∧ plainName M.1.cls = true ∧ (M.1.cls ≠ "java/lang/invoke/MethodHandle" ∧ M.1.cls ≠ "java/lang/invoke/VarHandle") ∧ (M.2.2.2.2.1 = 2 → M.1.name = "<init>") ∧ M.2.2.1 ≤ 45 ∧
  ∀ q ∈ M.2.2.2.2.2.1, decode M.2.1 q.1 = .ok (q.2.1, q.2.2) ∧ x_lok q.2.1 q.2.2 = true
def x_np (M : xM) (n : Nat) : Prop := (parseMethodDescriptor M.1.desc).map (fun d => d.parameters.length) = some n
/-- a pool entry is what the tables say -/
def x_okL (cl : List vw_C) (MT : List xM) (Ts : List Jvm.Cond) (own : String) (i : Nat) (q : xL) : Prop := match q.1 with
  | 0 => x_okF cl Ts own i q.2 false
  | 1 => x_okF cl Ts own i q.2 true ∧ ∃ (C : String) (T : u_T) (N : Nat), cl[q.2.1]? = some (C, T, N) ∧ C = own
  | 2 => x_okFN cl Ts own i q.2
  | 16 => x_okF cl Ts own i q.2 true
  | 3 => ∃ (M : xM) (ci : Nat) (C : String) (T : u_T) (N : Nat), MT[q.2.1]? = some M ∧ q.2.2.2 = (ci : Int) ∧ cl[ci]? = some (C, T, N) ∧ M.1.cls = C ∧ x_np M q.2.2.1 ∧ Cond.methodLink own i M.1 ∈ Ts ∧ Cond.instanceMethod M.1 ∈ Ts ∧ Cond.selects C M.1 M.1 ∈ Ts ∧ Cond.initialized C ∈ Ts
  | 4 => ∃ (M : xM) (ci : Nat) (C host : String) (T : u_T) (N : Nat), MT[q.2.1]? = some M ∧ q.2.2.2 = (ci : Int) ∧ cl[ci]? = some (C, T, N) ∧ M.1.cls = C ∧ x_np M q.2.2.1 ∧ Cond.methodLinkNest own i M.1 host ∈ Ts ∧ Cond.instanceMethod M.1 ∈ Ts ∧ Cond.selects C M.1 M.1 ∈ Ts ∧ Cond.initialized C ∈ Ts
  | 5 => ∃ M : xM, MT[q.2.1]? = some M ∧ x_np M q.2.2.1 ∧ Cond.methodLink own i M.1 ∈ Ts ∧ Cond.static M.1 ∈ Ts ∧ Cond.initialized M.1.cls ∈ Ts
  | 6 => ∃ (M : xM) (host : String), MT[q.2.1]? = some M ∧ x_np M q.2.2.1 ∧ Cond.methodLinkNest own i M.1 host ∈ Ts ∧ Cond.static M.1 ∈ Ts ∧ Cond.initialized M.1.cls ∈ Ts
  | 7 => ∃ M : xM, MT[q.2.1]? = some M ∧ x_np M q.2.2.1 ∧ M.1.name = "<init>" ∧ M.2.2.2.1 = none ∧ Cond.methodLink own i M.1 ∈ Ts ∧ Cond.instanceMethod M.1 ∈ Ts ∧ Cond.initialized M.1.cls ∈ Ts
  | 8 => ∃ (M : xM) (host : String), MT[q.2.1]? = some M ∧ x_np M q.2.2.1 ∧ M.1.name = "<init>" ∧ M.2.2.2.1 = none ∧ Cond.methodLinkNest own i M.1 host ∈ Ts ∧ Cond.instanceMethod M.1 ∈ Ts ∧ Cond.initialized M.1.cls ∈ Ts
  | 9 => Cond.methodLink own i objectInit ∈ Ts ∧ Cond.instanceMethod objectInit ∈ Ts ∧ Cond.code objectInit ⟨#[0xb1]⟩ 1 none ∈ Ts
  | 10 => Cond.methodLink own i Lib.Math.max.name ∈ Ts ∧ Cond.static Lib.Math.max.name ∈ Ts ∧ Cond.initialized "java/lang/Math" ∈ Ts ∧ Cond.code Lib.Math.max.name Lib.Math.max.code 2 (some .int) ∈ Ts
  | 11 => Cond.methodLink own i Lib.Math.min.name ∈ Ts ∧ Cond.static Lib.Math.min.name ∈ Ts ∧ Cond.initialized "java/lang/Math" ∈ Ts ∧ Cond.code Lib.Math.min.name Lib.Math.min.code 2 (some .int) ∈ Ts
  | 12 => ∃ (C : String) (T : u_T) (N : Nat), cl[q.2.1]? = some (C, T, N) ∧ Cond.classLink own i C ∈ Ts
  | 13 => 4 ≤ q.2.1 ∧ q.2.1 < 7 ∧ ∃ C : String, x_ty q.2.1 = .object C ∧ Cond.classLink own i C ∈ Ts ∧ Cond.arrayOver (.object C) ∈ Ts
  | 14 => Cond.constant own i (Int32.ofInt q.2.2.2) ∈ Ts
  | 15 => Cond.constantLong own i (Int64.ofInt q.2.2.2) ∈ Ts
  | 99 => True
  | _ => False
/-- a method table is what the tables say -/
def x_okT (cl : List vw_C) (MT : List xM) (Ts : List Jvm.Cond) : Prop := ∀ (j : Nat) (M : xM), MT[j]? = some M → x_okM Ts M ∧ ∀ q ∈ M.2.2.2.2.2.2, x_okL cl MT Ts M.1.cls q.1 q.2
theorem x_lookup {α : Type} (l : List (Nat × α)) (i : Nat) (v : α) (h : l.lookup i = some v) : (i, v) ∈ l := by
  induction l with
  | nil => cases h
  | cons a t ih =>
    obtain ⟨k, w⟩ := a
    simp only [List.lookup] at h
    split at h
    · next he =>
      have hk : i = k := by simpa using he
      have hv : w = v := Option.some.inj h
      rw [hk, hv]
      exact List.mem_cons_self
    · exact List.mem_cons_of_mem _ (ih h)
theorem x_pool_ok {cl : List vw_C} {MT : List xM} {Ts : List Jvm.Cond} {M : xM} (h : ∀ q ∈ M.2.2.2.2.2.2, x_okL cl MT Ts M.1.cls q.1 q.2) (i : Nat) : x_okL cl MT Ts M.1.cls i (x_pool M i) := by
  unfold x_pool
  split
  · next q hq => exact h (i, q) (x_lookup _ _ _ hq)
  · trivial
theorem x_row_ok {Ts : List Jvm.Cond} {M : xM} (h : x_okM Ts M) {pc : Nat} {ins : Instr} {len : Nat} (hr : x_row M pc = some (ins, len)) : decode M.2.1 pc = .ok (ins, len) ∧ x_lok ins len = true :=
  h.2.2.2.2.2 (pc, ins, len) (x_lookup _ _ _ hr)
end
section
/-! The pure machine's steps on the heap are the real machine's. -/
section XSH
variable {p : Program} {l : Launch} {e : Env} {R : Room} {s : State} {m : MethodId} {args : Array Value} {below : List Frame} {meth : Method} {c : Code} {H : Heap} {locs : List Loc} {cells slots : Nat} {Q : State → Prop}
variable {cc : ByteArray} {pc : Nat} {ls : Array Slot} {z b : Nat} {L L' : xLs} {st st' : List Value} {pc' : Nat} {S S' : xS} {D : va_G} {cl : List vw_C} {cA : Nat → ClassId} {MT : List xM} {df : List (List Value)} {Ts : List Jvm.Cond} {own : String} {M : xM} {i : Nat}
theorem x_rf_cv (z b : Nat) (o : Option Nat) : va_rf (o.map fun q => z + q) = x_cv z b (va_rf o) := by cases o <;> rfl
theorem x_map_get {z b : Nat} {fs : List Value} {k : Nat} {v : Value} (h : fs[k]? = some v) : (fs.map (x_cv z b))[k]? = some (x_cv z b v) := by rw [List.getElem?_map, h]; rfl
set_option maxHeartbeats 4000000 in
theorem x_sim_get (hexec : p.tables.exec = Jvm.exec) (hb : c.code = cc) (hts : ∀ w ∈ Ts, w.before args s = true) (hown : s.vm.findClass own = some m.cls) (hK : va_K D cl (x_tys cA) s) (hC : x_okC cl df Ts) (hq : x_okL cl MT Ts own i (x_pool M i)) (hdg : decode cc pc = .ok (.getfield i, 3)) (hW : x_Wd D cl cA z b S H)
    (h : x_get M i pc L st S = some (pc', L', st', S')) (kk : L' = L → S' = S → W p l e R s m args below meth c H locs cells slots Q (F0 m pc' ls (st'.map (x_cv z b)))) : W p l e R s m args below meth c H locs cells slots Q (F0 m pc ls (st.map (x_cv z b))) := by
  rcases hp : x_pool M i with ⟨kd, ci, k, tc⟩
  rw [hp] at hq
  unfold x_get at h
  rw [hp] at h
  dsimp only at h
  split at h
  · next hkd =>
    split at h
    · next a r =>
      split at h
      · next cj fs ho =>
        split at h
        · next hci =>
          subst hci
          split at h
          · next v hv =>
            cases h
            have hg := x_wl_get (cA := cA) (z := z) (b := b) (x_obj_inv ho)
            have fin : x_okF cl Ts own i (cj, k, tc) false ∨ x_okF cl Ts own i (cj, k, tc) true ∨ x_okFN cl Ts own i (cj, k, tc) := by
              rcases hkd with hkd | rfl
              · rcases (show kd = 0 ∨ kd = 1 ∨ kd = 2 by omega) with rfl | rfl | rfl
                · exact Or.inl hq
                · exact Or.inr (Or.inl hq.1)
                · exact Or.inr (Or.inr hq)
              · exact Or.inr (Or.inl hq)
            rcases fin with ⟨C, T, N, h1, h2, h3, h4, -⟩ | ⟨C, T, N, h1, h2, h3, h4, -⟩ | ⟨C, host, T, N, h1, h2, h3, h4⟩
            · exact va_get (C := C) (T := T) (N := N) hexec hb hts (hC _ _ _ _ h1).1 hown hK hW.2 a hg h1 k h2 (hts _ h3) (fun x hx => by rw [h4] at hx; exact hx) (x_map_get hv) hdg (kk rfl rfl)
            · exact va_get (C := C) (T := T) (N := N) hexec hb hts (hC _ _ _ _ h1).1 hown hK hW.2 a hg h1 k h2 (hts _ h3) (fun x hx => by rw [h4] at hx; exact hx) (x_map_get hv) hdg (kk rfl rfl)
            · exact va_getN (C := C) (T := T) (N := N) (host := host) hexec hb hts (hC _ _ _ _ h1).1 hown hK hW.2 a hg h1 k h2 (hts _ h3) (fun x hx => by rw [h4] at hx; exact hx) (x_map_get hv) hdg (kk rfl rfl)
          · cases h
        · cases h
      · cases h
    · cases h
  · cases h
set_option maxHeartbeats 4000000 in
theorem x_sim_put (hexec : p.tables.exec = Jvm.exec) (hb : c.code = cc) (hts : ∀ w ∈ Ts, w.before args s = true) (hown : s.vm.findClass own = some m.cls) (hK : va_K D cl (x_tys cA) s) (hC : x_okC cl df Ts) (hq : x_okL cl MT Ts own i (x_pool M i)) (hini : M.2.2.2.2.1 = 2 → meth.name = "<init>") (hdg : decode cc pc = .ok (.putfield i, 3)) (hW : x_Wd D cl cA z b S H) (hS : va_S (fun q => z ≤ q) s.heap H locs)
    (h : x_put M i pc L st S = some (pc', L', st', S')) (kk : ∀ (H1 : Heap) (locs1 : List Loc), L' = L → S'.length = S.length → x_slots S' = x_slots S → x_Wd D cl cA z b S' H1 → va_S (fun q => z ≤ q) s.heap H1 locs1 → W p l e R s m args below meth c H1 locs1 cells slots Q (F0 m pc' ls (st'.map (x_cv z b)))) : W p l e R s m args below meth c H locs cells slots Q (F0 m pc ls (st.map (x_cv z b))) := by
  rcases hp : x_pool M i with ⟨kd, ci, k, tc⟩
  rw [hp] at hq
  unfold x_put at h
  rw [hp] at h
  dsimp only at h
  split at h
  · next hkd =>
    split at h
    · next v a r =>
      split at h
      · next cj fs ho =>
        split at h
        · next hci =>
          obtain ⟨rfl, hkl, hfit⟩ := hci
          cases h
          have hS0 := x_obj_inv ho
          have hg := x_wl_get (cA := cA) (z := z) (b := b) hS0
          have fin : (x_okF cl Ts own i (cj, k, tc) false) ∨ (x_okF cl Ts own i (cj, k, tc) true ∧ meth.name = "<init>" ∧ ∃ (C : String) (T : u_T) (N : Nat), cl[cj]? = some (C, T, N) ∧ C = own) := by
            rcases hkd with rfl | ⟨rfl, hM⟩
            · exact Or.inl hq
            · exact Or.inr ⟨hq.1, hini hM, hq.2⟩
          have goal : ∀ {C : String} {T : u_T} {N : Nat}, cl[cj]? = some (C, T, N) → k < N → ∀ (cell : Cell) (f : Field), (∀ x y, x < N → y < N → x ≠ y → (D.2 cj) x ≠ (D.2 cj) y) → cell.cls = D.1 cj → cell.vm = .none → (∀ j, j < N → cell.slots[D.2 cj j]? = some (vp_V (fs.map (x_cv z b)) j)) → f.slot = D.2 cj k →
              ∀ H' : Heap, H'[z + a]? = some (cell.setSlot f.slot (x_cv z b v)) → H'.size = H.size → (∀ q, q ≠ z + a → H'[q]? = H[q]?) → W p l e R s m args below meth c H' (locs ++ [⟨z + a, f.slot⟩]) cells slots Q (F0 m (pc + 3) ls (List.map (x_cv z b) st')) := by
            intro C T N h1 h2 cell f hap q2 q3 q4 hsl H' e1 e2 e3
            rw [hsl] at e1
            refine kk H' _ rfl List.length_set (x_slots_set hS0 (by simp [x_sz])) (hW.stored hS0 ?_ e2 e3) (hS.put e2 e3 (Nat.le_add_right z a))
            refine ⟨_, h1, ?_⟩
            rw [show (fs.set k v).map (x_cv z b) = (fs.map (x_cv z b)).set k (x_cv z b v) by rw [List.map_set]]
            exact t_OB.to (V := updV (vp_V (fs.map (x_cv z b))) k (x_cv z b v)) ⟨_, e1, q2, q3, t_set q4 hap h2 _⟩ (fun j _ => vp_updV_set (by rw [List.length_map]; exact hkl) _ j)
          rcases fin with ⟨C, T, N, h1, h2, h3, h4, h5, h6⟩ | ⟨⟨C, T, N, h1, h2, h3, h4, h5, h6⟩, hin2, C', T', N', h1', hCo⟩
          · obtain ⟨hin, ⟨ty0, hty, -⟩, hnm, -, -⟩ := hC _ _ _ _ h1
            obtain ⟨ty, hd, hn, hft⟩ := x_fit_ok h6 hfit z b
            have hap := va_apart (own := own) hts hin ty0 hty hnm hK h1
            obtain ⟨r', hr1, cell, q1, q2, q3, q4⟩ := hW.2 a _ hg
            have hr : r' = (C, T, N) := Option.some.inj (hr1.symm.trans h1)
            subst hr
            obtain ⟨hSl, hfc, kC, hkC, hkind⟩ := hK.1 cj _ h1
            obtain ⟨cf, kf, fi, f, hi, hsl⟩ := hSl k h2
            have hlay := hts _ (hin _ (u_in_lay h2))
            unfold u_lay at hlay
            rw [if_neg (by rw [h5]; decide)] at hlay
            have hst := (u_facts hfc hkC (u_lays hts hin h2) hi).1
            have h7 := u_store hfc hkC hkind hlay hi hd hn hft
            exact W.putK hexec hb (f := f) ⟨hown, hts _ h3, ⟨_, _, _, by rw [h4] at hi; exact hi⟩, hst⟩ (by rw [q2]; exact h7) q1 q3 (by rw [hsl]; exact k2_hasslot (q4 k h2)) rfl rfl hdg (goal h1 h2 cell f hap q2 q3 q4 hsl)
          · obtain ⟨hin, ⟨ty0, hty, -⟩, hnm, -, -⟩ := hC _ _ _ _ h1
            obtain ⟨ty, hd, hn, hft⟩ := x_fit_ok h6 hfit z b
            have hap := va_apart (own := own) hts hin ty0 hty hnm hK h1
            obtain ⟨r', hr1, cell, q1, q2, q3, q4⟩ := hW.2 a _ hg
            have hr : r' = (C, T, N) := Option.some.inj (hr1.symm.trans h1)
            subst hr
            have hCC : C = own := by
              have := h1.symm.trans h1'
              cases this
              exact hCo
            obtain ⟨hSl, hfc, kC, hkC, hkind⟩ := hK.1 cj _ h1
            obtain ⟨cf, kf, fi, f, hi, hsl⟩ := hSl k h2
            have hlay := hts _ (hin _ (u_in_lay h2))
            unfold u_lay at hlay
            rw [if_pos h5] at hlay
            have hst := (u_facts hfc hkC (u_lays hts hin h2) hi).1
            have hcf : m.cls = cf := by
              obtain ⟨_, _, c', _, _, _, -, -, hf', -, -, -, hown2, -⟩ := Cond.laysFinal_spec hlay
              have e1 : c' = cf := by have := hi.symm.trans hf'; simp at this; exact this.1.symm
              rw [h4, hCC] at hown2
              rw [← e1]; exact Option.some.inj (hown.symm.trans hown2)
            have h7 := u_fits hfc hkC hkind (Or.inr hlay) hi hd hn hft
            exact W.putFinK hexec hb hown (hts _ h3) (by rw [h4] at hi; exact hi) hst hcf hin2 (by rw [q2]; exact h7) q1 q3 (by rw [hsl]; exact k2_hasslot (q4 k h2)) rfl rfl hdg (goal h1 h2 cell f hap q2 q3 q4 hsl)
        · cases h
      · cases h
    · cases h
  · cases h
end XSH
end
section
/-! The pure machine's steps on arrays are the real machine's. -/
section XSA
variable {p : Program} {l : Launch} {e : Env} {R : Room} {s : State} {m : MethodId} {args : Array Value} {below : List Frame} {meth : Method} {c : Code} {H : Heap} {locs : List Loc} {cells slots : Nat} {Q : State → Prop}
variable {cc : ByteArray} {pc : Nat} {ls : Array Slot} {z b : Nat} {L L' : xLs} {st st' : List Value} {pc' : Nat} {S S' : xS} {D : va_G} {cl : List vw_C} {cA : Nat → ClassId} {MT : List xM} {df : List (List Value)} {Ts : List Jvm.Cond} {own : String} {M : xM} {i : Nat}
abbrev x_scrOk (b z : Nat) (scr : Option (Nat × (Nat → Int32))) (s : State) : Prop := ∀ (n : Nat) (f : Nat → Int32), scr = some (n, f) → va_X b n f s s.heap ∧ b < s.heap.size ∧ b < z
theorem x_sim_iald {scr : Option (Nat × (Nat → Int32))} (hexec : p.tables.exec = Jvm.exec) (hb : c.code = cc) (hK : va_K D cl (x_tys cA) s) (hX : x_scrOk b z scr s) (hdg : decode cc pc = .ok (.iaload, 1)) (hW : x_Wd D cl cA z b S H) (hS : va_S (fun q => z ≤ q) s.heap H locs)
    (h : x_iald scr pc L st S = some (pc', L', st', S')) (kk : L' = L → S' = S → W p l e R s m args below meth c H locs cells slots Q (F0 m pc' ls (st'.map (x_cv z b)))) : W p l e R s m args below meth c H locs cells slots Q (F0 m pc ls (st.map (x_cv z b))) := by
  unfold x_iald at h
  split at h
  · next j a r =>
    split at h
    · next n f ha =>
      split at h
      · next hin =>
        cases h
        exact va_iald hexec hb hK hW.2 a 0 (x_wl_get (cA := cA) (z := z) (b := b) (x_arr_inv ha)) (x_tys_get cA (t := 0) (by decide)) (x_in_vp hin) hdg (kk rfl rfl)
      · cases h
    · cases h
  · next j a r =>
    split at h
    · next n f =>
      split at h
      · next hin =>
        cases h
        obtain ⟨h1, h2, h3⟩ := hX n f rfl
        exact va_sld hexec hb h1 h2 (Nat.not_le.mpr h3) hS (x_in_vp hin) hdg (kk rfl rfl)
      · cases h
    · cases h
  · cases h
theorem x_sim_bald (hexec : p.tables.exec = Jvm.exec) (hb : c.code = cc) (hK : va_K D cl (x_tys cA) s) (hdg : decode cc pc = .ok (.baload, 1)) (hW : x_Wd D cl cA z b S H)
    (h : x_bald pc L st S = some (pc', L', st', S')) (kk : L' = L → S' = S → W p l e R s m args below meth c H locs cells slots Q (F0 m pc' ls (st'.map (x_cv z b)))) : W p l e R s m args below meth c H locs cells slots Q (F0 m pc ls (st.map (x_cv z b))) := by
  unfold x_bald at h
  split at h
  · next j a r =>
    split at h
    · next n f ha =>
      split at h
      · next hin =>
        cases h
        exact va_bald hexec hb hK hW.2 a 2 (x_wl_get (cA := cA) (z := z) (b := b) (x_arr_inv ha)) (x_tys_get cA (t := 2) (by decide)) (x_in_vp hin) hdg (kk rfl rfl)
      · cases h
    · next n f ha =>
      split at h
      · next hin =>
        cases h
        exact va_zald hexec hb hK hW.2 a 3 (x_wl_get (cA := cA) (z := z) (b := b) (x_arr_inv ha)) (x_tys_get cA (t := 3) (by decide)) (x_in_vp hin) hdg (kk rfl rfl)
      · cases h
    · cases h
  · cases h
theorem x_sim_lald (hexec : p.tables.exec = Jvm.exec) (hb : c.code = cc) (hK : va_K D cl (x_tys cA) s) (hdg : decode cc pc = .ok (.laload, 1)) (hW : x_Wd D cl cA z b S H)
    (h : x_lald pc L st S = some (pc', L', st', S')) (kk : L' = L → S' = S → W p l e R s m args below meth c H locs cells slots Q (F0 m pc' ls (st'.map (x_cv z b)))) : W p l e R s m args below meth c H locs cells slots Q (F0 m pc ls (st.map (x_cv z b))) := by
  unfold x_lald at h
  split at h
  · next j a r =>
    split at h
    · next n f ha =>
      split at h
      · next hin =>
        cases h
        exact va_lald hexec hb hK hW.2 a 1 (x_wl_get (cA := cA) (z := z) (b := b) (x_arr_inv ha)) (x_tys_get cA (t := 1) (by decide)) (x_in_vp hin) hdg (kk rfl rfl)
      · cases h
    · cases h
  · cases h
theorem x_ty_obj {t : Nat} (h : 4 ≤ t) : ∃ C, x_ty t = .object C := by
  match t, h with
  | 4, _ => exact ⟨_, rfl⟩
  | 5, _ => exact ⟨_, rfl⟩
  | k + 6, _ => exact ⟨_, rfl⟩
theorem x_sim_aald (hexec : p.tables.exec = Jvm.exec) (hb : c.code = cc) (hK : va_K D cl (x_tys cA) s) (hdg : decode cc pc = .ok (.aaload, 1)) (hW : x_Wd D cl cA z b S H)
    (h : x_aald pc L st S = some (pc', L', st', S')) (kk : L' = L → S' = S → W p l e R s m args below meth c H locs cells slots Q (F0 m pc' ls (st'.map (x_cv z b)))) : W p l e R s m args below meth c H locs cells slots Q (F0 m pc ls (st.map (x_cv z b))) := by
  unfold x_aald at h
  split at h
  · next j a r =>
    split at h
    · next t n f ha =>
      split at h
      · next hin =>
        cases h
        obtain ⟨C, hCt⟩ := x_ty_obj hin.1
        have ht := x_tys_get cA (t := t) (by omega)
        rw [hCt] at ht
        have k1 := kk rfl rfl
        rw [List.map_cons, ← x_rf_cv] at k1
        exact va_aldq hexec hb hK hW.2 a t (x_wl_get (cA := cA) (z := z) (b := b) (x_arr_inv ha)) ht (x_in_vp hin.2.2) hdg k1
      · cases h
    · cases h
  · cases h
theorem x_sim_alen {scr : Option (Nat × (Nat → Int32))} (hexec : p.tables.exec = Jvm.exec) (hb : c.code = cc) (hK : va_K D cl (x_tys cA) s) (hX : x_scrOk b z scr s) (hdg : decode cc pc = .ok (.arraylength, 1)) (hW : x_Wd D cl cA z b S H) (hS : va_S (fun q => z ≤ q) s.heap H locs)
    (h : x_alen scr pc L st S = some (pc', L', st', S')) (kk : L' = L → S' = S → W p l e R s m args below meth c H locs cells slots Q (F0 m pc' ls (st'.map (x_cv z b)))) : W p l e R s m args below meth c H locs cells slots Q (F0 m pc ls (st.map (x_cv z b))) := by
  unfold x_alen at h
  split at h
  · next a r =>
    split at h
    · next t n x ha =>
      split at h
      · next ht =>
        cases h
        refine va_alen hexec hb hK hW.2 a t (x_wl_get (cA := cA) (z := z) (b := b) (x_arr_inv ha)) (x_tys_get cA (t := t) (by omega)) ?_ hdg (kk rfl rfl)
        obtain f | f | f | f | f := x <;> rfl
      · cases h
    · cases h
  · next a r =>
    split at h
    · next n f =>
      cases h
      obtain ⟨h1, h2, h3⟩ := hX n f rfl
      exact va_slen hexec hb h1 h2 (Nat.not_le.mpr h3) hS hdg (kk rfl rfl)
    · cases h
  · cases h
abbrev x_KK (D : va_G) (cl : List vw_C) (cA : Nat → ClassId) (z b : Nat) (s : State) (L L' : xLs) (S S' : xS) (G : Heap → List Loc → Prop) : Prop := ∀ (H1 : Heap) (locs1 : List Loc), L' = L → S'.length = S.length → x_slots S' = x_slots S → x_Wd D cl cA z b S' H1 → va_S (fun q => z ≤ q) s.heap H1 locs1 → G H1 locs1
set_option maxHeartbeats 4000000 in
theorem x_sim_iast (hexec : p.tables.exec = Jvm.exec) (hb : c.code = cc) (hK : va_K D cl (x_tys cA) s) (hdg : decode cc pc = .ok (.iastore, 1)) (hW : x_Wd D cl cA z b S H) (hS : va_S (fun q => z ≤ q) s.heap H locs)
    (h : x_iast pc L st S = some (pc', L', st', S')) (kk : x_KK D cl cA z b s L L' S S' fun H1 locs1 => W p l e R s m args below meth c H1 locs1 cells slots Q (F0 m pc' ls (st'.map (x_cv z b)))) : W p l e R s m args below meth c H locs cells slots Q (F0 m pc ls (st.map (x_cv z b))) := by
  unfold x_iast at h
  split at h
  · next x j a r =>
    split at h
    · next n f ha =>
      split at h
      · next hin =>
        cases h
        have hS0 := x_arr_inv ha
        have hg : (x_wl cA z b S)[a]? = some (z + a, .inl (cA 0, n, .inl f)) := x_wl_get hS0
        have hin2 := x_in_vp hin
        refine W.iast hexec hb (hW.2 a _ hg) ((hK.2 0 _ (x_tys_get cA (t := 0) (by decide))).1 n (fun j => .int (f j))) (fun q => by cases q) (by show ¬ (j < 0 ∨ (arrV _ _ _).slots.size ≤ _); rw [arrV_size]; exact hin2) rfl rfl hdg fun H1 e z1 oq => ?_
        refine kk H1 _ rfl List.length_set (x_slots_set hS0 rfl) (hW.stored hS0 ?_ z1 oq) (hS.put z1 oq (Nat.le_add_right z a))
        show H1[z + a]? = some (vp_cell (cA 0) (n, .inl (upd f j.toNatClampNeg x)))
        rw [e]
        show some ((vp_cell (cA 0) (n, .inl f)).setSlot _ _) = _
        rw [vp_cell_i, vp_cell_i, arrV_store]
        congr 2
        funext q
        by_cases hq : q = j.toNatClampNeg
        · subst hq
          simp [updV, upd]
        · simp [updV, upd, hq]
      · cases h
    · cases h
  · cases h
set_option maxHeartbeats 4000000 in
theorem x_sim_bast (hexec : p.tables.exec = Jvm.exec) (hb : c.code = cc) (hK : va_K D cl (x_tys cA) s) (hdg : decode cc pc = .ok (.bastore, 1)) (hW : x_Wd D cl cA z b S H) (hS : va_S (fun q => z ≤ q) s.heap H locs)
    (h : x_bast pc L st S = some (pc', L', st', S')) (kk : x_KK D cl cA z b s L L' S S' fun H1 locs1 => W p l e R s m args below meth c H1 locs1 cells slots Q (F0 m pc' ls (st'.map (x_cv z b)))) : W p l e R s m args below meth c H locs cells slots Q (F0 m pc ls (st.map (x_cv z b))) := by
  unfold x_bast at h
  split at h
  · next x j a r =>
    split at h
    · next n f ha =>
      split at h
      · next hin =>
        cases h
        have hS0 := x_arr_inv ha
        have hg : (x_wl cA z b S)[a]? = some (z + a, .inl (cA 2, n, .inl f)) := x_wl_get hS0
        have hin2 := x_in_vp hin
        refine W.bast hexec hb (hW.2 a _ hg) ((hK.2 2 _ (x_tys_get cA (t := 2) (by decide))).1 n (fun j => .int (f j))) (fun q => by cases q) (by show ¬ (j < 0 ∨ (arrV _ _ _).slots.size ≤ _); rw [arrV_size]; exact hin2) rfl rfl hdg fun H1 e z1 oq => ?_
        refine kk H1 _ rfl List.length_set (x_slots_set hS0 rfl) (hW.stored hS0 ?_ z1 oq) (hS.put z1 oq (Nat.le_add_right z a))
        show H1[z + a]? = some (vp_cell (cA 2) (n, .inl (upd f j.toNatClampNeg (vp_nar .byte x))))
        rw [e]
        show some ((vp_cell (cA 2) (n, .inl f)).setSlot _ _) = _
        rw [vp_cell_i, vp_cell_i, arrV_store]
        congr 2
        funext q
        by_cases hq : q = j.toNatClampNeg
        · subst hq
          simp [updV, upd, vp_nar, narrow]
        · simp [updV, upd, hq]
      · cases h
    · next n f ha =>
      split at h
      · next hin =>
        cases h
        have hS0 := x_arr_inv ha
        have hg : (x_wl cA z b S)[a]? = some (z + a, .inl (cA 3, n, .inl f)) := x_wl_get hS0
        have hin2 := x_in_vp hin
        refine W.zast hexec hb (hW.2 a _ hg) ((hK.2 3 _ (x_tys_get cA (t := 3) (by decide))).1 n (fun j => .int (f j))) (fun q => by cases q) (by show ¬ (j < 0 ∨ (arrV _ _ _).slots.size ≤ _); rw [arrV_size]; exact hin2) rfl rfl hdg fun H1 e z1 oq => ?_
        refine kk H1 _ rfl List.length_set (x_slots_set hS0 rfl) (hW.stored hS0 ?_ z1 oq) (hS.put z1 oq (Nat.le_add_right z a))
        show H1[z + a]? = some (vp_cell (cA 3) (n, .inl (upd f j.toNatClampNeg (vp_nar .boolean x))))
        rw [e]
        show some ((vp_cell (cA 3) (n, .inl f)).setSlot _ _) = _
        rw [vp_cell_i, vp_cell_i, arrV_store]
        congr 2
        funext q
        by_cases hq : q = j.toNatClampNeg
        · subst hq
          simp [updV, upd, vp_nar, narrow]
        · simp [updV, upd, hq]
      · cases h
    · cases h
  · cases h
set_option maxHeartbeats 4000000 in
theorem x_sim_last (hexec : p.tables.exec = Jvm.exec) (hb : c.code = cc) (hK : va_K D cl (x_tys cA) s) (hdg : decode cc pc = .ok (.lastore, 1)) (hW : x_Wd D cl cA z b S H) (hS : va_S (fun q => z ≤ q) s.heap H locs)
    (h : x_last pc L st S = some (pc', L', st', S')) (kk : x_KK D cl cA z b s L L' S S' fun H1 locs1 => W p l e R s m args below meth c H1 locs1 cells slots Q (F0 m pc' ls (st'.map (x_cv z b)))) : W p l e R s m args below meth c H locs cells slots Q (F0 m pc ls (st.map (x_cv z b))) := by
  unfold x_last at h
  split at h
  · next x j a r =>
    split at h
    · next n f ha =>
      split at h
      · next hin =>
        cases h
        have hS0 := x_arr_inv ha
        have hg : (x_wl cA z b S)[a]? = some (z + a, .inl (cA 1, n, .inr (.inl f))) := x_wl_get hS0
        have hin2 := x_in_vp hin
        refine W.last hexec hb (hW.2 a _ hg) ((hK.2 1 _ (x_tys_get cA (t := 1) (by decide))).1 n (fun j => .long (f j))) (fun q => by cases q) (by show ¬ (j < 0 ∨ (arrV _ _ _).slots.size ≤ _); rw [arrV_size]; exact hin2) rfl rfl hdg fun H1 e z1 oq => ?_
        refine kk H1 _ rfl List.length_set (x_slots_set hS0 rfl) (hW.stored hS0 ?_ z1 oq) (hS.put z1 oq (Nat.le_add_right z a))
        show H1[z + a]? = some (vp_cell (cA 1) (n, .inr (.inl (vp_updL f j.toNatClampNeg x))))
        rw [e]
        show some ((vp_cell (cA 1) (n, .inr (.inl f))).setSlot _ _) = _
        rw [vp_cell_l, vp_cell_l, arrV_store]
        congr 2
        funext q
        by_cases hq : q = j.toNatClampNeg
        · subst hq
          simp [updV, vp_updL]
        · simp [updV, vp_updL, hq]
      · cases h
    · cases h
  · cases h
end XSA
end
section
/-! The pure machine's making, storing of references, constants. -/
section XSN
variable {p : Program} {l : Launch} {e : Env} {R : Room} {s : State} {m : MethodId} {args : Array Value} {below : List Frame} {meth : Method} {c : Code} {H : Heap} {locs : List Loc} {cells slots : Nat} {Q : State → Prop}
variable {cc : ByteArray} {pc : Nat} {ls : Array Slot} {z b : Nat} {L L' : xLs} {st st' : List Value} {pc' : Nat} {S S' : xS} {D : va_G} {cl : List vw_C} {cA : Nat → ClassId} {MT : List xM} {df : List (List Value)} {Ts : List Jvm.Cond} {own : String} {M : xM} {i : Nat}
/-- array classes: their words, the classes of what they hold -/
def x_okZ (cl : List vw_C) (Ts : List Jvm.Cond) : Prop := (∀ t, t < 4 → Cond.arrayClass (x_ty t) ∈ Ts) ∧ ∀ t, 4 ≤ t → t ≤ 6 → ∃ r : vw_C, cl[x_tc t]? = some r ∧ x_ty t = .object r.1
set_option maxHeartbeats 4000000 in
theorem x_sim_aast (hexec : p.tables.exec = Jvm.exec) (hb : c.code = cc) (hK : va_K D cl (x_tys cA) s) (hZ : x_okZ cl Ts) (hdg : decode cc pc = .ok (.aastore, 1)) (hW : x_Wd D cl cA z b S H) (hS : va_S (fun q => z ≤ q) s.heap H locs)
    (h : x_aast pc L st S = some (pc', L', st', S')) (kk : x_KK D cl cA z b s L L' S S' fun H1 locs1 => W p l e R s m args below meth c H1 locs1 cells slots Q (F0 m pc' ls (st'.map (x_cv z b)))) : W p l e R s m args below meth c H locs cells slots Q (F0 m pc ls (st.map (x_cv z b))) := by
  unfold x_aast at h
  split at h
  · next v j a r =>
    split at h
    · next t n f ci fs ha hv =>
      split at h
      · next hin =>
        obtain ⟨h4, h6, rfl, hin1⟩ := hin
        cases h
        obtain ⟨r, hc, hty⟩ := hZ.2 t h4 h6
        have hS0 := x_arr_inv ha
        have hg : (x_wl cA z b S)[a]? = some (z + a, .inl (cA t, n, .inr (.inr (.inr (.inr fun i => (f i).map fun q => z + q))))) := x_wl_get hS0
        have hgv := x_wl_get (cA := cA) (z := z) (b := b) (x_obj_inv hv)
        have hin2 := x_in_vp hin1
        have hlt : j.toNatClampNeg < n := Nat.not_le.mp fun q => hin2 (Or.inr q)
        have h0 : ¬ j < 0 := fun q => hin2 (Or.inl q)
        have ht := x_tys_get cA (t := t) (by omega)
        rw [hty] at ht
        obtain ⟨r', hr', cellV, g1, g2, g3, -⟩ := hW.2 v _ hgv
        have hcls := (hK.1 _ r hc).2
        obtain ⟨kA, comp, k1, k2, k3, -⟩ := (hK.2 t _ ht).2
        have hcomp : comp = D.1 (x_tc t) := Option.some.inj (k3.symm.trans hcls.1)
        subst hcomp
        obtain ⟨kC, hkC, -⟩ := hcls.2
        refine W.aast hexec hb (hW.2 a _ hg) (fun q h => by cases h) (fun h => by cases h) k1 k2 rfl hkC ⟨h0, by show _ < (arrV _ _ _).slots.size; rw [arrV_size]; exact hlt⟩ g1 (fun q h => by rw [g3] at h; cases h) (by rw [g2]; exact hkC) (by rw [g2]; exact va_assign hcls) rfl rfl hdg fun H1 e z1 oq => ?_
        refine kk H1 _ rfl List.length_set (x_slots_set hS0 rfl) (hW.stored hS0 ?_ z1 oq) (hS.put z1 oq (Nat.le_add_right z a))
        show H1[z + a]? = some (vp_cell (cA t) (n, .inr (.inr (.inr (.inr fun i => (va_up f j.toNatClampNeg (some v) i).map fun q => z + q)))))
        rw [e]
        show some ((vp_cell (cA t) (n, .inr (.inr (.inr (.inr fun i => (f i).map fun q => z + q))))).setSlot _ _) = _
        rw [vp_cell_q, vp_cell_q, arrV_store]
        congr 2
        funext q
        by_cases hq : q = j.toNatClampNeg
        · subst hq
          simp [updV, va_up, va_rf]
        · simp [updV, va_up, hq]
      · cases h
    · cases h
  · cases h
abbrev x_KN (D : va_G) (cl : List vw_C) (cA : Nat → ClassId) (z b : Nat) (s : State) (L L' : xLs) (S S' : xS) (locs : List Loc) (cells slots : Nat) (G : Heap → Nat → Nat → Prop) : Prop := ∀ (H1 : Heap) (c1 s1 : Nat), L' = L → c1 + S.length = cells + S'.length → s1 + x_slots S = slots + x_slots S' → x_Wd D cl cA z b S' H1 → va_S (fun q => z ≤ q) s.heap H1 locs → G H1 c1 s1
theorem x_S_new {z : Nat} {H0 H H1 : Heap} {locs : List Loc} (hS : va_S (fun q => z ≤ q) H0 H locs) (z1 : H1.size = H.size + 1) (o1 : ∀ q, q < H.size → H1[q]? = H[q]?) : va_S (fun q => z ≤ q) H0 H1 locs := ⟨Nat.le_trans hS.1 (by omega), fun x h1 h2 => (o1 x (Nat.lt_of_lt_of_le h1 hS.1)).trans (hS.2.1 x h1 h2), hS.2.2⟩
theorem x_nm_of {U : State} {c1 : ClassId} {ty : FieldType} (h : va_RA U c1 ty) : U.vm.findClass ("[" ++ ty.toString) = some c1 := by
  cases ty <;> first | exact h | (obtain ⟨_, _, _, _, _, h⟩ := h; exact h)
set_option maxHeartbeats 4000000 in
theorem x_sim_newa (hexec : p.tables.exec = Jvm.exec) (hb : c.code = cc) (hts : ∀ w ∈ Ts, w.before args s = true) (hK : va_K D cl (x_tys cA) s) (hZ : x_okZ cl Ts) {ty : ArrayType} (hdg : decode cc pc = .ok (.newarray ty, 2)) (hW : x_Wd D cl cA z b S H) (hS : va_S (fun q => z ≤ q) s.heap H locs)
    (h : x_newa ty pc L st S = some (pc', L', st', S')) (hr1 : cells + S'.length ≤ R.cells + S.length) (hr2 : slots + x_slots S' ≤ R.slots + x_slots S)
    (kk : x_KN D cl cA z b s L L' S S' locs cells slots fun H1 c1 s1 => W p l e R s m args below meth c H1 locs c1 s1 Q (F0 m pc' ls (st'.map (x_cv z b)))) : W p l e R s m args below meth c H locs cells slots Q (F0 m pc ls (st.map (x_cv z b))) := by
  unfold x_newa at h
  split at h
  · next n r =>
    split at h
    · next hn =>
      have go : ∀ (t : Nat) (a0 : vp_A), t < 4 → newarray.typeOf ty = x_ty t → componentBytes (x_ty t) ≤ 8 → a0.1 = n.toNatClampNeg → (∀ c1 : ClassId, vp_cell c1 (x_ca z a0) = arrV c1 n.toNatClampNeg (fun _ => defaultValue (x_ty t))) →
          some (pc + 2, L, Value.ref S.length :: r, S ++ [Sum.inr (t, a0)]) = some (pc', L', st', S') → W p l e R s m args below meth c H locs cells slots Q (F0 m pc ls ((Value.int n :: r).map (x_cv z b))) := by
        intro t a0 ht hty hcb ha1 ha h
        cases h
        rw [List.length_append, List.length_singleton] at hr1
        rw [x_slots_app] at hr2
        have hsz : x_sz (.inr (t, a0)) = n.toNatClampNeg := ha1
        rw [hsz] at hr2
        have harr := hts _ (hZ.1 t ht)
        rw [← hty] at harr hcb
        have hbt : n.toNatClampNeg * componentBytes (newarray.typeOf ty) ≤ 536870912 := Nat.le_trans (Nat.mul_le_mul hn.2 hcb) (by decide)
        refine va_newaK (N := n.toNatClampNeg) hexec hb harr rfl hdg rfl (Int32.not_lt.mpr hn.1) rfl hbt (by omega) (by omega) hW.1 fun H1 c1 e1 z1 o1 hAr hNm => ?_
        rw [← hW.1] at z1 o1
        have hc : c1 = cA t := by
          have := (hK.2 t _ (x_tys_get cA (t := t) (by omega))).2
          have := x_nm_of this
          rw [hty] at hNm
          exact Option.some.inj (hNm.symm.trans this)
        subst hc
        refine kk H1 _ _ rfl (by rw [List.length_append, List.length_singleton]; omega) (by rw [x_slots_app, hsz]; omega) (hW.pushed ?_ z1 o1) (x_S_new hS z1 o1)
        show H1[z + S.length]? = some (vp_cell (cA t) (x_ca z a0))
        rw [ha, ← hty]
        exact e1
      cases ty with
      | int => exact go 0 (n.toNatClampNeg, .inl fun _ => 0) (by decide) rfl (by decide) rfl (fun c1 => rfl) h
      | long => exact go 1 (n.toNatClampNeg, .inr (.inl fun _ => 0)) (by decide) rfl (by decide) rfl (fun c1 => rfl) h
      | byte => exact go 2 (n.toNatClampNeg, .inl fun _ => 0) (by decide) rfl (by decide) rfl (fun c1 => rfl) h
      | boolean => exact go 3 (n.toNatClampNeg, .inl fun _ => 0) (by decide) rfl (by decide) rfl (fun c1 => rfl) h
      | _ => cases h
    · cases h
  · cases h
set_option maxHeartbeats 4000000 in
theorem x_sim_newq (hexec : p.tables.exec = Jvm.exec) (hb : c.code = cc) (hts : ∀ w ∈ Ts, w.before args s = true) (hown : s.vm.findClass own = some m.cls) (hK : va_K D cl (x_tys cA) s) (hq : x_okL cl MT Ts own i (x_pool M i)) (hdg : decode cc pc = .ok (.anewarray i, 3)) (hW : x_Wd D cl cA z b S H) (hS : va_S (fun q => z ≤ q) s.heap H locs)
    (h : x_newq M i pc L st S = some (pc', L', st', S')) (hr1 : cells + S'.length ≤ R.cells + S.length) (hr2 : slots + x_slots S' ≤ R.slots + x_slots S)
    (kk : x_KN D cl cA z b s L L' S S' locs cells slots fun H1 c1 s1 => W p l e R s m args below meth c H1 locs c1 s1 Q (F0 m pc' ls (st'.map (x_cv z b)))) : W p l e R s m args below meth c H locs cells slots Q (F0 m pc ls (st.map (x_cv z b))) := by
  rcases hp : x_pool M i with ⟨kd, t, w1, w2⟩
  rw [hp] at hq
  unfold x_newq at h
  rw [hp] at h
  dsimp only at h
  split at h
  · next hkd =>
    subst hkd
    split at h
    · next n r =>
      split at h
      · next hn =>
        cases h
        obtain ⟨h4, h7, C, hCt, hcl, hov⟩ := hq
        dsimp only at h4 h7 hCt
        rw [List.length_append, List.length_singleton] at hr1
        rw [x_slots_app] at hr2
        have hsz : x_sz (.inr (t, n.toNatClampNeg, .inr (.inr (.inr (.inr fun _ => none))))) = n.toNatClampNeg := rfl
        rw [hsz] at hr2
        refine W.anew hexec hb hown (hts _ hcl) (hts _ hov) rfl hdg rfl (Int32.not_lt.mpr hn.1) (Nat.le_trans (Nat.mul_le_mul_right 4 hn.2) (by decide)) (by omega) (by omega) fun c1 kA comp f1 f2 f3 f4 => ?_
        generalize hH1 : H.push ({ cls := c1, slots := Array.replicate n.toNatClampNeg .null, vm := .none } : Cell) = H1
        have z1 : H1.size = H.size + 1 := by rw [← hH1, Array.size_push]
        have e1 : H1[H.size]? = some (arrV c1 n.toNatClampNeg (fun _ => .null)) := by rw [← hH1, Array.getElem?_push_size, ← arrV_new]
        have o1 : ∀ q : Nat, q < H.size → H1[q]? = H[q]? := fun q hq => by rw [← hH1, Array.getElem?_push, if_neg (Nat.ne_of_lt hq)]
        have hc : c1 = cA t := by
          have := (hK.2 t _ (x_tys_get cA (t := t) h7)).2
          have := x_nm_of this
          rw [hCt] at this
          exact Option.some.inj (f1.symm.trans this)
        subst hc
        have k1 := kk H1 (cells + 1) (slots + n.toNatClampNeg) rfl (by rw [List.length_append, List.length_singleton]; omega) (by rw [x_slots_app, hsz]; omega) (hW.pushed (by
          show H1[z + S.length]? = some (vp_cell (cA t) (n.toNatClampNeg, .inr (.inr (.inr (.inr fun _ => none)))))
          rw [vp_cell_q, ← hW.1]
          exact e1) z1 o1) (x_S_new hS z1 o1)
        rw [hW.1]
        exact k1
      · cases h
    · cases h
  · cases h
set_option maxHeartbeats 4000000 in
theorem x_sim_new (hexec : p.tables.exec = Jvm.exec) (hb : c.code = cc) (hts : ∀ w ∈ Ts, w.before args s = true) (hown : s.vm.findClass own = some m.cls) (hK : va_K D cl (x_tys cA) s) (hC : x_okC cl df Ts) (hq : x_okL cl MT Ts own i (x_pool M i)) (hdg : decode cc pc = .ok (.new i, 3)) (hW : x_Wd D cl cA z b S H) (hS : va_S (fun q => z ≤ q) s.heap H locs)
    (h : x_new df M i pc L st S = some (pc', L', st', S')) (hr1 : cells + S'.length ≤ R.cells + S.length) (hr2 : slots + x_slots S' ≤ R.slots + x_slots S)
    (kk : x_KN D cl cA z b s L L' S S' locs cells slots fun H1 c1 s1 => W p l e R s m args below meth c H1 locs c1 s1 Q (F0 m pc' ls (st'.map (x_cv z b)))) : W p l e R s m args below meth c H locs cells slots Q (F0 m pc ls (st.map (x_cv z b))) := by
  rcases hp : x_pool M i with ⟨kd, ci, w1, w2⟩
  rw [hp] at hq
  unfold x_new at h
  rw [hp] at h
  dsimp only at h
  split at h
  · next hkd =>
    subst hkd
    split at h
    · next fs hfs =>
      cases h
      obtain ⟨C, T, N, hc, hcl⟩ := hq
      dsimp only at hc
      obtain ⟨hin, ⟨ty, hty, fs', hfs', hlen, hcv, hdv⟩, -, hinst, hini⟩ := hC _ _ _ _ hc
      have : fs' = fs := Option.some.inj (hfs'.symm.trans hfs)
      subst this
      rw [List.length_append, List.length_singleton] at hr1
      rw [x_slots_app] at hr2
      have hsz : x_sz (.inl (ci, fs')) = N := hlen
      rw [hsz] at hr2
      have hKn := hK.1 ci _ hc
      refine W.newcK hexec hb hown (hts _ hcl) (hts _ hinst) (hts _ hini) rfl hdg (by omega) (by omega) hKn.2.1 hW.1 fun H1 kC hkC e1 z1 o1 => ?_
      rw [← hW.1] at z1 o1
      refine kk H1 _ _ rfl (by rw [List.length_append, List.length_singleton]; omega) (by rw [x_slots_app, hsz]; omega) (hW.pushed ?_ z1 o1) (x_S_new hS z1 o1)
      refine ⟨_, hc, (u_born ty hts hin hKn hkC e1 hty).to fun j hj => ?_⟩
      show defaultValue (ty j) = vp_V (fs'.map (x_cv z b)) j
      rw [hdv j hj, show fs'.map (x_cv z b) = fs' from by
        conv => rhs; rw [← List.map_id fs']
        exact List.map_congr_left fun v hv => hcv v hv z b]
    · cases h
  · cases h
theorem x_sim_ldc (hexec : p.tables.exec = Jvm.exec) (hb : c.code = cc) (hts : ∀ w ∈ Ts, w.before args s = true) (hown : s.vm.findClass own = some m.cls) (hq : x_okL cl MT Ts own i (x_pool M i)) (hdg : decode cc pc = .ok (.ldc i, 2))
    (h : x_ldc M i 2 pc L st S = some (pc', L', st', S')) (kk : L' = L → S' = S → W p l e R s m args below meth c H locs cells slots Q (F0 m pc' ls (st'.map (x_cv z b)))) : W p l e R s m args below meth c H locs cells slots Q (F0 m pc ls (st.map (x_cv z b))) := by
  rcases hp : x_pool M i with ⟨kd, ci, w1, w2⟩
  rw [hp] at hq
  unfold x_ldc at h
  rw [hp] at h
  dsimp only at h
  split at h
  · next hkd =>
    subst hkd
    cases h
    exact lv_ldc hexec hb hown (hts _ hq) hdg (kk rfl rfl)
  · cases h
theorem x_sim_ldcw (hexec : p.tables.exec = Jvm.exec) (hb : c.code = cc) (hts : ∀ w ∈ Ts, w.before args s = true) (hown : s.vm.findClass own = some m.cls) (hq : x_okL cl MT Ts own i (x_pool M i)) (hdg : decode cc pc = .ok (.ldc_w i, 3))
    (h : x_ldc M i 3 pc L st S = some (pc', L', st', S')) (kk : L' = L → S' = S → W p l e R s m args below meth c H locs cells slots Q (F0 m pc' ls (st'.map (x_cv z b)))) : W p l e R s m args below meth c H locs cells slots Q (F0 m pc ls (st.map (x_cv z b))) := by
  rcases hp : x_pool M i with ⟨kd, ci, w1, w2⟩
  rw [hp] at hq
  unfold x_ldc at h
  rw [hp] at h
  dsimp only at h
  split at h
  · next hkd =>
    subst hkd
    cases h
    exact lv_ldcw hexec hb hown (hts _ hq) hdg (kk rfl rfl)
  · cases h
theorem x_sim_ldc2 (hexec : p.tables.exec = Jvm.exec) (hb : c.code = cc) (hts : ∀ w ∈ Ts, w.before args s = true) (hown : s.vm.findClass own = some m.cls) (hq : x_okL cl MT Ts own i (x_pool M i)) (hdg : decode cc pc = .ok (.ldc2_w i, 3))
    (h : x_ldc2 M i pc L st S = some (pc', L', st', S')) (kk : L' = L → S' = S → W p l e R s m args below meth c H locs cells slots Q (F0 m pc' ls (st'.map (x_cv z b)))) : W p l e R s m args below meth c H locs cells slots Q (F0 m pc ls (st.map (x_cv z b))) := by
  rcases hp : x_pool M i with ⟨kd, ci, w1, w2⟩
  rw [hp] at hq
  unfold x_ldc2 at h
  rw [hp] at h
  dsimp only at h
  split at h
  · next hkd =>
    subst hkd
    cases h
    exact lv_ldc2 hexec hb hown (hts _ hq) hdg (kk rfl rfl)
  · cases h
end XSN
end
section
/-! Calls, returns, whole methods: the pure machine's runs are the real machine's. -/
theorem x_st1_len {L L' : xLs} {i : Nat} {v : Value} (h : x_st1 L i v = some L') : L'.length = L.length := by
  unfold x_st1 at h
  split at h
  · cases h; simp [x_cl_len]
  · cases h
theorem x_st2_len {L L' : xLs} {i : Nat} {v : Value} (h : x_st2 L i v = some L') : L'.length = L.length := by
  unfold x_st2 at h
  split at h
  · cases h; simp [x_cl_len]
  · cases h
theorem x_br_len {cd : Prop} {d : Decidable cd} {pc pc' : Nat} {off : Int} {L L' : xLs} {r st' : List Value} (h : x_br cd d pc off L r = some (pc', L', st')) : L'.length = L.length := by
  unfold x_br at h
  split at h
  · cases h; rfl
  · cases h
theorem x_if_len {co : ClassFile.Cond} {pc pc' : Nat} {off : Int} {L L' : xLs} {st st' : List Value} (h : x_if co pc off L st = some (pc', L', st')) : L'.length = L.length := by
  unfold x_if at h
  split at h
  · cases co <;> exact x_br_len h
  · cases h
theorem x_ic_len {co : ClassFile.Cond} {pc pc' : Nat} {off : Int} {L L' : xLs} {st st' : List Value} (h : x_ic co pc off L st = some (pc', L', st')) : L'.length = L.length := by
  unfold x_ic at h
  split at h
  · cases co <;> exact x_br_len h
  · cases h
set_option maxHeartbeats 4000000 in
theorem x_pure_len {ins : Instr} {len pc pc' : Nat} {L L' : xLs} {st st' : List Value} (h : x_pure ins len pc L st = some (pc', L', st')) : L'.length = L.length := by
  cases ins with
  | iconst n => cases h; rfl
  | bipush n => cases h; rfl
  | sipush n => cases h; rfl
  | lconst n => cases h; rfl
  | iload_n k => obtain ⟨x, hx, rfl, rfl, rfl⟩ := x_ldi_inv h; rfl
  | iload i => dsimp only [x_pure] at h; split at h; (obtain ⟨x, hx, rfl, rfl, rfl⟩ := x_ldi_inv h; rfl); cases h
  | lload_n k => obtain ⟨x, hx, rfl, rfl, rfl⟩ := x_ldl_inv h; rfl
  | lload i => dsimp only [x_pure] at h; split at h; (obtain ⟨x, hx, rfl, rfl, rfl⟩ := x_ldl_inv h; rfl); cases h
  | aload_n k => obtain ⟨v, hx, hv, rfl, rfl, rfl⟩ := x_lda_inv h; rfl
  | aload i => dsimp only [x_pure] at h; split at h; (obtain ⟨v, hx, hv, rfl, rfl, rfl⟩ := x_lda_inv h; rfl); cases h
  | istore_n k => obtain ⟨x, r, rfl, hs, rfl, rfl⟩ := x_sti_inv h; exact x_st1_len hs
  | istore i => dsimp only [x_pure] at h; split at h; (obtain ⟨x, r, rfl, hs, rfl, rfl⟩ := x_sti_inv h; exact x_st1_len hs); cases h
  | lstore_n k => obtain ⟨x, r, rfl, hs, rfl, rfl⟩ := x_stl_inv h; exact x_st2_len hs
  | lstore i => dsimp only [x_pure] at h; split at h; (obtain ⟨x, r, rfl, hs, rfl, rfl⟩ := x_stl_inv h; exact x_st2_len hs); cases h
  | astore_n k => obtain ⟨v, r, rfl, hv, hs, rfl, rfl⟩ := x_sta_inv h; exact x_st1_len hs
  | astore i => dsimp only [x_pure] at h; split at h; (obtain ⟨v, r, rfl, hv, hs, rfl, rfl⟩ := x_sta_inv h; exact x_st1_len hs); cases h
  | iinc i n =>
    dsimp only [x_pure] at h
    split at h
    · split at h
      · next x hx =>
        cases hs : x_st1 L i (.int (x + Int32.ofInt n)) with
        | none => rw [hs] at h; cases h
        | some M => rw [hs] at h; cases h; exact x_st1_len hs
      · cases h
    · cases h
  | iadd => obtain ⟨x, y, r, rfl, rfl, rfl, rfl⟩ := x_b2_inv h; rfl
  | isub => obtain ⟨x, y, r, rfl, rfl, rfl, rfl⟩ := x_b2_inv h; rfl
  | imul => obtain ⟨x, y, r, rfl, rfl, rfl, rfl⟩ := x_b2_inv h; rfl
  | iand => obtain ⟨x, y, r, rfl, rfl, rfl, rfl⟩ := x_b2_inv h; rfl
  | ior => obtain ⟨x, y, r, rfl, rfl, rfl, rfl⟩ := x_b2_inv h; rfl
  | ixor => obtain ⟨x, y, r, rfl, rfl, rfl, rfl⟩ := x_b2_inv h; rfl
  | ishl => obtain ⟨x, y, r, rfl, rfl, rfl, rfl⟩ := x_b2_inv h; rfl
  | ishr => obtain ⟨x, y, r, rfl, rfl, rfl, rfl⟩ := x_b2_inv h; rfl
  | iushr => obtain ⟨x, y, r, rfl, rfl, rfl, rfl⟩ := x_b2_inv h; rfl
  | idiv => obtain ⟨x, y, r, rfl, hy, rfl, rfl, rfl⟩ := x_d2_inv h; rfl
  | irem => obtain ⟨x, y, r, rfl, hy, rfl, rfl, rfl⟩ := x_d2_inv h; rfl
  | ladd => obtain ⟨x, y, r, rfl, rfl, rfl, rfl⟩ := x_l2_inv h; rfl
  | lsub => obtain ⟨x, y, r, rfl, rfl, rfl, rfl⟩ := x_l2_inv h; rfl
  | lmul => obtain ⟨x, y, r, rfl, rfl, rfl, rfl⟩ := x_l2_inv h; rfl
  | land => obtain ⟨x, y, r, rfl, rfl, rfl, rfl⟩ := x_l2_inv h; rfl
  | lor => obtain ⟨x, y, r, rfl, rfl, rfl, rfl⟩ := x_l2_inv h; rfl
  | lxor => obtain ⟨x, y, r, rfl, rfl, rfl, rfl⟩ := x_l2_inv h; rfl
  | lcmp => obtain ⟨x, y, r, rfl, rfl, rfl, rfl⟩ := x_l2_inv h; rfl
  | ldiv => obtain ⟨x, y, r, rfl, hy, rfl, rfl, rfl⟩ := x_m2_inv h; rfl
  | lrem => obtain ⟨x, y, r, rfl, hy, rfl, rfl, rfl⟩ := x_m2_inv h; rfl
  | ineg => obtain ⟨x, r, rfl, rfl, rfl, rfl⟩ := x_i1_inv h; rfl
  | i2l => obtain ⟨x, r, rfl, rfl, rfl, rfl⟩ := x_i1_inv h; rfl
  | i2b => obtain ⟨x, r, rfl, rfl, rfl, rfl⟩ := x_i1_inv h; rfl
  | i2s => obtain ⟨x, r, rfl, rfl, rfl, rfl⟩ := x_i1_inv h; rfl
  | lneg => obtain ⟨x, r, rfl, rfl, rfl, rfl⟩ := x_j1_inv h; rfl
  | l2i => obtain ⟨x, r, rfl, rfl, rfl, rfl⟩ := x_j1_inv h; rfl
  | lshl => obtain ⟨x, y, r, rfl, rfl, rfl, rfl⟩ := x_s2_inv h; rfl
  | lshr => obtain ⟨x, y, r, rfl, rfl, rfl, rfl⟩ := x_s2_inv h; rfl
  | lushr => obtain ⟨x, y, r, rfl, rfl, rfl, rfl⟩ := x_s2_inv h; rfl
  | dup =>
    dsimp only [x_pure] at h
    split at h
    · split at h
      · cases h; rfl
      · cases h
    · cases h
  | pop =>
    dsimp only [x_pure] at h
    split at h
    · split at h
      · cases h; rfl
      · cases h
    · cases h
  | pop2 =>
    dsimp only [x_pure] at h
    split at h
    · split at h
      · cases h; rfl
      · cases h
    · cases h
  | dup2 =>
    dsimp only [x_pure] at h
    split at h
    · split at h
      · cases h; rfl
      · split at h
        · split at h
          · cases h; rfl
          · cases h
        · cases h
    · cases h
  | goto off => obtain ⟨ht, rfl, rfl⟩ := x_jmp_inv h; rfl
  | ifCond co off => exact x_if_len h
  | if_icmp co off => exact x_ic_len h
  | ifnonnull off =>
    dsimp only [x_pure] at h
    split at h
    · obtain ⟨ht, rfl, rfl⟩ := x_jmp_inv h; rfl
    · cases h; rfl
    · cases h
  | tableswitch d lo hi offs =>
    dsimp only [x_pure] at h
    split at h
    · split at h
      · obtain ⟨ht, rfl, rfl⟩ := x_jmp_inv h; rfl
      · split at h
        · obtain ⟨ht, rfl, rfl⟩ := x_jmp_inv h; rfl
        · cases h
    · cases h
  | lookupswitch d ps =>
    dsimp only [x_pure] at h
    split at h
    · split at h
      · obtain ⟨ht, rfl, rfl⟩ := x_jmp_inv h; rfl
      · cases h
    · cases h
  | _ => exact (x_no (show (none : Option xP) = some (pc', L', st') from h)).elim
end
section
/-! Worlds grow. -/
abbrev x_le (S S' : xS) : Prop := S.length ≤ S'.length ∧ x_slots S ≤ x_slots S'
theorem x_le_rf (S : xS) : x_le S S := ⟨Nat.le_refl _, Nat.le_refl _⟩
theorem x_le_tr {S S1 S2 : xS} (h : x_le S S1) (h2 : x_le S1 S2) : x_le S S2 := ⟨Nat.le_trans h.1 h2.1, Nat.le_trans h.2 h2.2⟩
theorem x_le_set {S : xS} {i : Nat} {e0 e : xE} (h : S[i]? = some e0) (he : x_sz e = x_sz e0) : x_le S (S.set i e) := ⟨by simp, by rw [x_slots_set h he]; exact Nat.le_refl _⟩
theorem x_le_app (S : xS) (e : xE) : x_le S (S ++ [e]) := ⟨by simp, by rw [x_slots_app]; exact Nat.le_add_right _ _⟩
section XMO
variable {df : List (List Value)} {scr : Option (Nat × (Nat → Int32))} {M : xM} {ins : Instr} {i k pc pc' : Nat} {L L' : xLs} {st st' : List Value} {S S' : xS}
abbrev x_mo (L L' : xLs) (S S' : xS) : Prop := L' = L ∧ x_le S S'
theorem x_get_mo (h : x_get M i pc L st S = some (pc', L', st', S')) : x_mo L L' S S' := by
  unfold x_get at h
  dsimp only at h
  repeat' split at h
  all_goals first | (cases h; done) | (cases h; exact ⟨rfl, x_le_rf _⟩)
theorem x_put_mo (h : x_put M i pc L st S = some (pc', L', st', S')) : x_mo L L' S S' := by
  unfold x_put at h
  dsimp only at h
  split at h
  · split at h
    · split at h
      · next ho =>
        split at h
        · next hc => cases h; exact ⟨rfl, x_le_set (x_obj_inv ho) (by simp [x_sz])⟩
        · cases h
      · cases h
    · cases h
  · cases h
theorem x_iald_mo (h : x_iald scr pc L st S = some (pc', L', st', S')) : x_mo L L' S S' := by
  unfold x_iald at h
  repeat' split at h
  all_goals first | (cases h; done) | (cases h; exact ⟨rfl, x_le_rf _⟩)
theorem x_bald_mo (h : x_bald pc L st S = some (pc', L', st', S')) : x_mo L L' S S' := by
  unfold x_bald at h
  repeat' split at h
  all_goals first | (cases h; done) | (cases h; exact ⟨rfl, x_le_rf _⟩)
theorem x_lald_mo (h : x_lald pc L st S = some (pc', L', st', S')) : x_mo L L' S S' := by
  unfold x_lald at h
  repeat' split at h
  all_goals first | (cases h; done) | (cases h; exact ⟨rfl, x_le_rf _⟩)
theorem x_aald_mo (h : x_aald pc L st S = some (pc', L', st', S')) : x_mo L L' S S' := by
  unfold x_aald at h
  repeat' split at h
  all_goals first | (cases h; done) | (cases h; exact ⟨rfl, x_le_rf _⟩)
theorem x_alen_mo (h : x_alen scr pc L st S = some (pc', L', st', S')) : x_mo L L' S S' := by
  unfold x_alen at h
  repeat' split at h
  all_goals first | (cases h; done) | (cases h; exact ⟨rfl, x_le_rf _⟩)
theorem x_iast_mo (h : x_iast pc L st S = some (pc', L', st', S')) : x_mo L L' S S' := by
  unfold x_iast at h
  split at h
  · split at h
    · next ha =>
      split at h
      · cases h; exact ⟨rfl, x_le_set (x_arr_inv ha) rfl⟩
      · cases h
    · cases h
  · cases h
theorem x_bast_mo (h : x_bast pc L st S = some (pc', L', st', S')) : x_mo L L' S S' := by
  unfold x_bast at h
  split at h
  · split at h
    · next ha =>
      split at h
      · cases h; exact ⟨rfl, x_le_set (x_arr_inv ha) rfl⟩
      · cases h
    · next ha =>
      split at h
      · cases h; exact ⟨rfl, x_le_set (x_arr_inv ha) rfl⟩
      · cases h
    · cases h
  · cases h
theorem x_last_mo (h : x_last pc L st S = some (pc', L', st', S')) : x_mo L L' S S' := by
  unfold x_last at h
  split at h
  · split at h
    · next ha =>
      split at h
      · cases h; exact ⟨rfl, x_le_set (x_arr_inv ha) rfl⟩
      · cases h
    · cases h
  · cases h
theorem x_aast_mo (h : x_aast pc L st S = some (pc', L', st', S')) : x_mo L L' S S' := by
  unfold x_aast at h
  split at h
  · split at h
    · next ha hv =>
      split at h
      · cases h; exact ⟨rfl, x_le_set (x_arr_inv ha) rfl⟩
      · cases h
    · cases h
  · cases h
theorem x_newa_mo {ty : ArrayType} (h : x_newa ty pc L st S = some (pc', L', st', S')) : x_mo L L' S S' := by
  unfold x_newa at h
  repeat' split at h
  all_goals first | (cases h; done) | (cases h; exact ⟨rfl, x_le_app _ _⟩)
theorem x_newq_mo (h : x_newq M i pc L st S = some (pc', L', st', S')) : x_mo L L' S S' := by
  unfold x_newq at h
  dsimp only at h
  repeat' split at h
  all_goals first | (cases h; done) | (cases h; exact ⟨rfl, x_le_app _ _⟩)
theorem x_new_mo (h : x_new df M i pc L st S = some (pc', L', st', S')) : x_mo L L' S S' := by
  unfold x_new at h
  dsimp only at h
  repeat' split at h
  all_goals first | (cases h; done) | (cases h; exact ⟨rfl, x_le_app _ _⟩)
theorem x_ldc_mo (h : x_ldc M i k pc L st S = some (pc', L', st', S')) : x_mo L L' S S' := by
  unfold x_ldc at h
  dsimp only at h
  repeat' split at h
  all_goals first | (cases h; done) | (cases h; exact ⟨rfl, x_le_rf _⟩)
theorem x_ldc2_mo (h : x_ldc2 M i pc L st S = some (pc', L', st', S')) : x_mo L L' S S' := by
  unfold x_ldc2 at h
  dsimp only at h
  repeat' split at h
  all_goals first | (cases h; done) | (cases h; exact ⟨rfl, x_le_rf _⟩)
theorem x_heap_mo (h : x_heap df scr M ins pc L st S = some (pc', L', st', S')) : x_mo L L' S S' := by
  cases ins with
  | getfield i => exact x_get_mo h
  | putfield i => exact x_put_mo h
  | iaload => exact x_iald_mo h
  | baload => exact x_bald_mo h
  | laload => exact x_lald_mo h
  | aaload => exact x_aald_mo h
  | iastore => exact x_iast_mo h
  | bastore => exact x_bast_mo h
  | lastore => exact x_last_mo h
  | aastore => exact x_aast_mo h
  | arraylength => exact x_alen_mo h
  | newarray ty => exact x_newa_mo h
  | anewarray i => exact x_newq_mo h
  | new i => exact x_new_mo h
  | ldc i => exact x_ldc_mo h
  | ldc_w i => exact x_ldc_mo h
  | ldc2_w i => exact x_ldc2_mo h
  | _ => exact (x_no (show (none : Option xY) = some (pc', L', st', S') from h)).elim
abbrev x_cmo (call : xO) : Prop := ∀ (j : Nat) (as : List Value) (S : xS) (r : Option Value) (S' : xS), call j as S = some (r, S') → x_le S S'
theorem x_call_mo {call : xO} (hc : x_cmo call) {j : Nat} {as : List Value} (h : x_call call j as pc L st S = some (pc', L', st', S')) : x_mo L L' S S' := by
  unfold x_call at h
  split at h
  · split at h
    · next v S1 hv => cases h; exact ⟨rfl, hc _ _ _ _ _ hv⟩
    · cases h
  · cases h
theorem x_inv_mo {call : xO} (hc : x_cmo call) (h : x_inv call M ins pc L st S = some (pc', L', st', S')) : x_mo L L' S S' := by
  cases ins with
  | invokevirtual i =>
    dsimp only [x_inv] at h
    repeat' split at h
    all_goals first | (cases h; done) | exact x_call_mo hc h
  | invokespecial i =>
    dsimp only [x_inv] at h
    repeat' split at h
    all_goals first | exact x_call_mo hc h | (cases h; exact ⟨rfl, x_le_rf _⟩) | (cases h; done)
  | invokestatic i =>
    dsimp only [x_inv] at h
    repeat' split at h
    all_goals first | exact x_call_mo hc h | (cases h; exact ⟨rfl, x_le_rf _⟩) | (cases h; done)
  | _ => exact (x_no (show (none : Option xY) = some (pc', L', st', S') from h)).elim
theorem x_step_mo {call : xO} (hc : x_cmo call) (h : x_step df scr call M pc L st S = some (.inl (pc', L', st', S'))) : L'.length = L.length ∧ x_le S S' := by
  unfold x_step at h
  split at h
  · cases h
  · split at h
    · cases hr : x_ret M _ st with
      | none => rw [hr] at h; cases h
      | some v => rw [hr] at h; cases h
    · split at h
      · next hp => cases h; exact ⟨x_pure_len hp, x_le_rf _⟩
      · split at h
        · next hy => cases h; have := x_heap_mo hy; exact ⟨by rw [this.1], this.2⟩
        · obtain ⟨y, hi, he⟩ := Option.map_eq_some_iff.mp h
          cases he
          have := x_inv_mo hc hi
          exact ⟨by rw [this.1], this.2⟩
theorem x_run_mo {call : xO} (hc : x_cmo call) : ∀ (n pc : Nat) (L : xLs) (st : List Value) (S : xS) (r : Option Value) (S' : xS), x_run df scr call M n pc L st S = some (r, S') → x_le S S' := by
  intro n
  induction n with
  | zero => intro pc L st S r S' h; cases h
  | succ n ih =>
    intro pc L st S r S' h
    unfold x_run at h
    split at h
    · cases h
    · next q hq =>
      cases h
      unfold x_step at hq
      split at hq
      · cases hq
      · split at hq
        · cases hr : x_ret M _ st with
          | none => rw [hr] at hq; cases hq
          | some v => rw [hr] at hq; cases hq; exact x_le_rf _
        · split at hq
          · cases hq
          · split at hq
            · cases hq
            · obtain ⟨y, hi, he⟩ := Option.map_eq_some_iff.mp hq
              cases he
    · next hq => exact x_le_tr (x_step_mo hc hq).2 (ih _ _ _ _ _ _ h)
theorem x_do_mo (df : List (List Value)) (MT : List xM) (n : Nat) : ∀ d, x_cmo (x_do df MT n d) := by
  intro d
  induction d with
  | zero => intro j as S r S' h; cases h
  | succ d ih =>
    intro j as S r S' h
    simp only [x_do] at h
    split at h
    · cases h
    · split at h
      · cases h
      · exact x_run_mo ih _ _ _ _ _ _ _ h
end XMO
end
section
/-! Calls. -/
def x_ws (Ts : List Jvm.Cond) (M : xM) : List Jvm.Cond := Cond.code M.1 M.2.1 M.2.2.1 M.2.2.2.1 :: Ts
def x_rm (d mc ms : Nat) : Room := { frames := d, cells := mc, slots := ms, locals := 64 * d }
def x_Pc (D : va_G) (cl : List vw_C) (cA : Nat → ClassId) (z b : Nat) (as : List Value) (S : xS) : Array Value → State → Prop := va_Pc (as.map (x_cv z b)) fun U => x_Wd D cl cA z b S U.heap ∧ va_K D cl (x_tys cA) U
def x_Qc (D : va_G) (cl : List vw_C) (cA : Nat → ClassId) (z b : Nat) (r : Option Value) (S' : xS) : Array Value → State → Outcome → State → Prop := fun _ st o t => o = .returned (r.map (x_cv z b)) ∧ x_Wd D cl cA z b S' t.heap ∧ va_K D cl (x_tys cA) t ∧ va_F (fun q => z ≤ q) st t
abbrev x_spec (l : Launch) (D : va_G) (cl : List vw_C) (cA : Nat → ClassId) (z b : Nat) (MT : List xM) (Ts : List Jvm.Cond) (d : Nat) (call : xO) : Prop := ∀ (j : Nat) (as : List Value) (S : xS) (r : Option Value) (S' : xS) (M : xM), MT[j]? = some M → call j as S = some (r, S') →
  Met l M.1 (x_ws Ts M) (x_rm d (S'.length - S.length) (x_slots S' - x_slots S)) (x_Pc D cl cA z b as S) (x_Qc D cl cA z b r S') (S'.length - S.length) (x_slots S' - x_slots S) (fun q => z ≤ q)
theorem x_blind (D : va_G) (cl : List vw_C) (cA : Nat → ClassId) (z b : Nat) (as : List Value) (S : xS) : FrameBlind (x_Pc D cl cA z b as S) := fun a U g mk ⟨q0, q1, q2⟩ => ⟨q0, q1, va_K.moved (u := U) (U := U.calling g mk a) (Vm.Alike.refl U.vm) q2⟩
section XSC
variable {p : Program} {l : Launch} {e : Env} {R : Room} {s : State} {m : MethodId} {args : Array Value} {below : List Frame} {meth : Method} {c : Code} {H : Heap} {locs : List Loc} {cells slots : Nat} {Q : State → Prop}
variable {cc : ByteArray} {pc : Nat} {ls : Array Slot} {z b : Nat} {L L' : xLs} {st st' : List Value} {pc' : Nat} {S S' : xS} {D : va_G} {cl : List vw_C} {cA : Nat → ClassId} {MT : List xM} {df : List (List Value)} {Ts : List Jvm.Cond} {own : String} {M : xM} {i : Nat}
theorem x_after {st0 rest : List Value} {r : Option Value} {a : Array Value} {mc ms : Nat} (hr : va_Run p l e R s m args below meth c H locs cells slots mc ms (F0 m pc ls st0) rest (x_Qc D cl cA z b r S' a) (fun q => z ≤ q)) (hS : va_S (fun q => z ≤ q) s.heap H locs)
    (kk : ∀ (H1 : Heap) (locs1 : List Loc), x_Wd D cl cA z b S' H1 → va_S (fun q => z ≤ q) s.heap H1 locs1 → W p l e R s m args below meth c H1 locs1 (cells + mc) (slots + ms) Q (F0 m (pc + 3) ls ((r.map (x_cv z b)).toList ++ rest))) : W p l e R s m args below meth c H locs cells slots Q (F0 m pc ls st0) := by
  intro T hT X
  obtain ⟨v, st₀, t, T', Lo, h0, X', hL, e1, e2, ⟨hv, hw, hk, hz, hkp⟩, stp⟩ := hr T hT X
  cases hv
  rw [h0] at hz hkp
  obtain ⟨t2, a1, b1⟩ := kk T'.heap (locs ++ Lo) (by rw [e1]; exact hw)
    ⟨Nat.le_trans hS.1 (by rw [e1]; exact hz), fun q h1 h2 => by rw [e1, hkp q (Nat.lt_of_lt_of_le h1 hS.1) h2]; exact hS.2.1 q h1 h2, fun q hq => by
      rcases List.mem_append.mp hq with h | h
      · exact hS.2.2 q h
      · exact hL q h⟩ T' rfl X'
  exact ⟨t2, stp t2 a1, b1⟩
theorem x_goodM (hG : GoodIn Ts Ts) {M' : xM} (h : x_okM Ts M') : GoodIn Ts (x_ws Ts M') := fun w hw => by
  rcases List.mem_cons.mp hw with rfl | hw
  · exact hG _ h.1
  · exact hG _ hw
theorem x_toL (r : Option Value) (z b : Nat) (rest : List Value) : (r.map (x_cv z b)).toList ++ rest.map (x_cv z b) = (r.toList ++ rest).map (x_cv z b) := by cases r <;> rfl
theorem x_wsum (z b : Nat) (rest : List Value) : ((rest.map (x_cv z b)).map fun v => v.category).sum = x_w rest := by
  unfold x_w
  rw [List.map_map]
  congr 1
  exact List.map_congr_left fun v _ => x_cv_cat z b v
theorem x_stk {np : Nat} {a : Nat} {rest : List Value} (h : st.drop np = .ref a :: rest) : st.map (x_cv z b) = ((st.take np).reverse.map (x_cv z b)).reverse ++ .ref (z + a) :: rest.map (x_cv z b) := by
  conv => lhs; rw [← List.take_append_drop np st, h]
  rw [List.map_append, List.map_reverse, List.reverse_reverse]
  rfl
theorem x_stkS (np : Nat) : st.map (x_cv z b) = ((st.take np).reverse.map (x_cv z b)).reverse ++ (st.drop np).map (x_cv z b) := by
  conv => lhs; rw [← List.take_append_drop np st]
  rw [List.map_append, List.map_reverse, List.reverse_reverse]
/-- what a call needs of the caller's room -/
theorem x_room {d : Nat} (hR : d + 1 ≤ R.frames ∧ 64 * (d + 1) ≤ R.locals) {M' : xM} (h : M'.2.2.1 ≤ 45) (mc ms : Nat) : (x_rm d mc ms).frames + 1 ≤ R.frames ∧ 8 + (M'.2.2.1 + 11) + (x_rm d mc ms).locals ≤ R.locals := ⟨hR.1, by
  show 8 + (M'.2.2.1 + 11) + 64 * d ≤ R.locals
  omega⟩
set_option maxHeartbeats 8000000 in
theorem x_sim_inv {ins : Instr} {len d : Nat} {call : xO} (hexec : p.tables.exec = Jvm.exec) (hb : c.code = cc) (hml : c.maxLocals = L.length) (hts : ∀ w ∈ Ts, w.before args s = true) (hG : GoodIn Ts Ts) (hown : s.vm.findClass own = some m.cls) (hK : va_K D cl (x_tys cA) s) (hT : x_okT cl MT Ts) (hq : ∀ i, x_okL cl MT Ts own i (x_pool M i)) (hspec : x_spec l D cl cA z b MT Ts d call) (hmo : x_cmo call)
    (hR : d + 1 ≤ R.frames ∧ 64 * (d + 1) ≤ R.locals) (hdg : decode cc pc = .ok (ins, len)) (hlen : x_lok ins len = true) (hW : x_Wd D cl cA z b S H) (hS : va_S (fun q => z ≤ q) s.heap H locs) (hl : x_LR z b L ls)
    (h : x_inv call M ins pc L st S = some (pc', L', st', S')) (hr1 : cells + S'.length ≤ R.cells + S.length) (hr2 : slots + x_slots S' ≤ R.slots + x_slots S)
    (kk : ∀ (H1 : Heap) (locs1 : List Loc) (c1 s1 : Nat), L' = L → c1 + S.length = cells + S'.length → s1 + x_slots S = slots + x_slots S' → x_Wd D cl cA z b S' H1 → va_S (fun q => z ≤ q) s.heap H1 locs1 → W p l e R s m args below meth c H1 locs1 c1 s1 Q (F0 m pc' ls (st'.map (x_cv z b)))) : W p l e R s m args below meth c H locs cells slots Q (F0 m pc ls (st.map (x_cv z b))) := by
  have hfix : CallFix p m c cc L.length s args Ts own := ⟨hexec, hb, hml, hown, hts⟩
  have hmo2 := x_inv_mo hmo h
  have hsize : ls.size = L.length := hl.1
  cases ins with
  | invokevirtual i =>
    obtain rfl : len = 3 := by simpa [x_lok] using hlen
    have hq := hq i
    dsimp only [x_inv] at h
    rcases hp : x_pool M i with ⟨kd, j, np, ci⟩
    rw [hp] at h hq
    dsimp only at h
    split at h
    · next hkd =>
      split at h
      · next a rest hdrop =>
        split at h
        · next cj fs ho =>
          split at h
          · next hci =>
            unfold x_call at h
            split at h
            · next hw =>
              split at h
              · next v S1 hv =>
                cases h
                have hg := x_wl_get (cA := cA) (z := z) (b := b) (x_obj_inv ho)
                have hn : ((st.take np).reverse.map (x_cv z b)).length = np := by simp; omega
                have hpre : ∀ U : State, U.heap = H → s.WarmedH U.vm → x_Pc D cl cA z b (.ref a :: (st.take np).reverse) S (Value.ref (z + a) :: (st.take np).reverse.map (x_cv z b)).toArray U := fun U hU hWm => ⟨rfl, by rw [hU]; exact hW, va_K.moved hWm.alike hK⟩
                have hrm := hmo2.2
                have fin : ∀ {a0 : Array Value}, va_Run p l e R s m args below meth c H locs cells slots (S'.length - S.length) (x_slots S' - x_slots S) (F0 m pc ls (st.map (x_cv z b))) (rest.map (x_cv z b)) (x_Qc D cl cA z b v S' a0) (fun q => z ≤ q) → W p l e R s m args below meth c H locs cells slots Q (F0 m pc ls (st.map (x_cv z b))) := fun hr => x_after hr hS fun H1 locs1 h1 h2 => by
                  rw [x_toL]
                  exact kk H1 locs1 _ _ rfl (by omega) (by omega) h1 h2
                rcases hkd.1 with rfl | rfl
                · obtain ⟨M', ci', C, T, N, h1, h2, h3, h4, h5, h6, h7, h8, h9⟩ := hq
                  dsimp only at h1 h2 h5
                  have hcc : cj = ci' := by omega
                  subst hcc
                  subst h4
                  have hM' := (hT _ _ h1).1
                  refine fin (va_runV (ws := x_ws Ts M') (rm := x_rm d (S'.length - S.length) (x_slots S' - x_slots S)) hfix (hspec _ _ _ _ _ _ h1 hv) ⟨callB_of np hts (x_goodM hG hM') rfl rfl rfl (hts _ h9) (hts _ h6) ⟨hM'.2.2.1.1, hM'.2.2.1.2, h5⟩ (x_room hR hM'.2.2.2.2.1 _ _), hts _ h7, hts _ h8⟩ ⟨x_blind D cl cA z b _ S, va_recv hK hW.2 h3 hg, hpre⟩ rfl hn hsize (x_stk hdrop) (by rw [x_wsum]; show 2 * 0 + _ ≤ 8; omega) hdg ⟨by omega, by omega⟩)
                · obtain ⟨M', ci', C, host, T, N, h1, h2, h3, h4, h5, h6, h7, h8, h9⟩ := hq
                  dsimp only at h1 h2 h5
                  have hcc : cj = ci' := by omega
                  subst hcc
                  subst h4
                  have hM' := (hT _ _ h1).1
                  refine fin (va_runVN (ws := x_ws Ts M') (rm := x_rm d (S'.length - S.length) (x_slots S' - x_slots S)) hfix (hspec _ _ _ _ _ _ h1 hv) ⟨va_cnB np hts (x_goodM hG hM') rfl rfl rfl (va_Nw.of rfl (hts _ h6)) (hts _ h9) ⟨hM'.2.2.1.1, hM'.2.2.1.2, h5⟩ (x_room hR hM'.2.2.2.2.1 _ _), hts _ h7, hts _ h8⟩ ⟨x_blind D cl cA z b _ S, va_recv hK hW.2 h3 hg, hpre⟩ rfl hn hsize (x_stk hdrop) (by rw [x_wsum]; show 2 * 0 + _ ≤ 8; omega) hdg ⟨by omega, by omega⟩)
              · cases h
            · cases h
          · cases h
        · cases h
      · cases h
    · cases h
  | invokespecial i =>
    obtain rfl : len = 3 := by simpa [x_lok] using hlen
    have hq := hq i
    dsimp only [x_inv] at h
    rcases hp : x_pool M i with ⟨kd, j, np, ci⟩
    rw [hp] at h hq
    dsimp only at h
    split at h
    · next hkd =>
      subst hkd
      obtain ⟨h1, h2, h3⟩ := hq
      split at h
      · next a rest =>
        split at h
        · next hw =>
          cases h
          refine W.objInit hexec hb hown (hts _ h1) (hts _ h2) (hts _ h3) rfl (hsize.trans hml.symm) rfl hdg (by omega) (by
            show 2 * 0 + ((st'.map (x_cv z b)).map fun v => v.category).sum + 12 ≤ R.locals
            rw [x_wsum]
            omega) ?_
          exact kk H locs cells slots rfl rfl rfl hW hS
        · cases h
      · cases h
    · split at h
      · next hkd =>
        split at h
        · next a rest hdrop =>
          unfold x_call at h
          split at h
          · next hw =>
            split at h
            · next v S1 hv =>
              cases h
              have hn : ((st.take np).reverse.map (x_cv z b)).length = np := by simp; omega
              have hpre : ∀ U : State, U.heap = H → s.WarmedH U.vm → x_Pc D cl cA z b (.ref a :: (st.take np).reverse) S (Value.ref (z + a) :: (st.take np).reverse.map (x_cv z b)).toArray U := fun U hU hWm => ⟨rfl, by rw [hU]; exact hW, va_K.moved hWm.alike hK⟩
              have hrm := hmo2.2
              have fin : ∀ {a0 : Array Value}, va_Run p l e R s m args below meth c H locs cells slots (S'.length - S.length) (x_slots S' - x_slots S) (F0 m pc ls (st.map (x_cv z b))) (rest.map (x_cv z b)) (x_Qc D cl cA z b v S' a0) (fun q => z ≤ q) → W p l e R s m args below meth c H locs cells slots Q (F0 m pc ls (st.map (x_cv z b))) := fun hr => x_after hr hS fun H1 locs1 h1 h2 => by
                rw [x_toL]
                exact kk H1 locs1 _ _ rfl (by omega) (by omega) h1 h2
              rcases hkd.1 with rfl | rfl
              · obtain ⟨M', h1, h5, h6, h7, h8, h9, h10⟩ := hq
                dsimp only at h1 h5
                have hM' := (hT _ _ h1).1
                refine fin (va_runI (ws := x_ws Ts M') (rm := x_rm d (S'.length - S.length) (x_slots S' - x_slots S)) hfix (hspec _ _ _ _ _ _ h1 hv) ⟨callB_of np hts (x_goodM hG hM') (by unfold x_ws; rw [h7]) rfl rfl (hts _ h10) (hts _ h8) ⟨hM'.2.2.1.1, hM'.2.2.1.2, h5⟩ (x_room hR hM'.2.2.2.2.1 _ _), h6, hts _ h9⟩ ⟨x_blind D cl cA z b _ S, hpre⟩ rfl hn hsize (x_stk hdrop) (by rw [x_wsum]; show 2 * 0 + _ ≤ 8; omega) hdg ⟨by omega, by omega⟩)
              · obtain ⟨M', host, h1, h5, h6, h7, h8, h9, h10⟩ := hq
                dsimp only at h1 h5
                have hM' := (hT _ _ h1).1
                refine fin (va_runIN (ws := x_ws Ts M') (rm := x_rm d (S'.length - S.length) (x_slots S' - x_slots S)) hfix (hspec _ _ _ _ _ _ h1 hv) ⟨va_cnB np hts (x_goodM hG hM') (by unfold x_ws; rw [h7]) rfl rfl (va_Nw.of rfl (hts _ h8)) (hts _ h10) ⟨hM'.2.2.1.1, hM'.2.2.1.2, h5⟩ (x_room hR hM'.2.2.2.2.1 _ _), h6, hts _ h9⟩ ⟨x_blind D cl cA z b _ S, hpre⟩ rfl hn hsize (x_stk hdrop) (by rw [x_wsum]; show 2 * 0 + _ ≤ 8; omega) hdg ⟨by omega, by omega⟩)
            · cases h
          · cases h
        · cases h
      · cases h
  | invokestatic i =>
    obtain rfl : len = 3 := by simpa [x_lok] using hlen
    have hq := hq i
    dsimp only [x_inv] at h
    rcases hp : x_pool M i with ⟨kd, j, np, ci⟩
    rw [hp] at h hq
    dsimp only at h
    split at h
    · next hkd =>
      subst hkd
      obtain ⟨h1, h2, h3, h4⟩ := hq
      split at h
      · next y x rest =>
        split at h
        · next hw =>
          cases h
          exact va_mmax hexec hb (hml.trans hsize.symm) hown (hts _ h1) (hts _ h2) (hts _ h3) (hts _ h4) (by omega) (by rw [x_wsum]; omega) (by omega) (by omega) hdg (kk H locs cells slots rfl rfl rfl hW hS)
        · cases h
      · cases h
    · split at h
      · next hkd =>
        subst hkd
        obtain ⟨h1, h2, h3, h4⟩ := hq
        split at h
        · next y x rest =>
          split at h
          · next hw =>
            cases h
            exact va_mmin hexec hb (hml.trans hsize.symm) hown (hts _ h1) (hts _ h2) (hts _ h3) (hts _ h4) (by omega) (by rw [x_wsum]; omega) (by omega) (by omega) hdg (kk H locs cells slots rfl rfl rfl hW hS)
          · cases h
        · cases h
      · split at h
        · next hkd =>
          unfold x_call at h
          split at h
          · next hw =>
            split at h
            · next v S1 hv =>
              cases h
              have hn : ((st.take np).reverse.map (x_cv z b)).length = np := by simp; omega
              have hpre : ∀ U : State, U.heap = H → s.WarmedH U.vm → x_Pc D cl cA z b (st.take np).reverse S ((st.take np).reverse.map (x_cv z b)).toArray U := fun U hU hWm => ⟨rfl, by rw [hU]; exact hW, va_K.moved hWm.alike hK⟩
              have hrm := hmo2.2
              have fin : ∀ {a0 : Array Value}, va_Run p l e R s m args below meth c H locs cells slots (S'.length - S.length) (x_slots S' - x_slots S) (F0 m pc ls (st.map (x_cv z b))) ((st.drop np).map (x_cv z b)) (x_Qc D cl cA z b v S' a0) (fun q => z ≤ q) → W p l e R s m args below meth c H locs cells slots Q (F0 m pc ls (st.map (x_cv z b))) := fun hr => x_after hr hS fun H1 locs1 h1 h2 => by
                rw [x_toL]
                exact kk H1 locs1 _ _ rfl (by omega) (by omega) h1 h2
              rcases hkd.1 with rfl | rfl
              · obtain ⟨M', h1, h5, h6, h7, h8⟩ := hq
                dsimp only at h1 h5
                have hM' := (hT _ _ h1).1
                refine fin (va_runS (ws := x_ws Ts M') (rm := x_rm d (S'.length - S.length) (x_slots S' - x_slots S)) hfix (hspec _ _ _ _ _ _ h1 hv) ⟨callB_of np hts (x_goodM hG hM') rfl rfl rfl (hts _ h8) (hts _ h6) ⟨hM'.2.2.1.1, hM'.2.2.1.2, h5⟩ (x_room hR hM'.2.2.2.2.1 _ _), hts _ h7⟩ ⟨x_blind D cl cA z b _ S, hpre⟩ rfl hn hsize (x_stkS np) (by rw [x_wsum]; show 2 * 0 + _ ≤ 8; omega) hdg ⟨by omega, by omega⟩)
              · obtain ⟨M', host, h1, h5, h6, h7, h8⟩ := hq
                dsimp only at h1 h5
                have hM' := (hT _ _ h1).1
                refine fin (va_runSN (ws := x_ws Ts M') (rm := x_rm d (S'.length - S.length) (x_slots S' - x_slots S)) hfix (hspec _ _ _ _ _ _ h1 hv) ⟨va_cnB np hts (x_goodM hG hM') rfl rfl rfl (va_Nw.of rfl (hts _ h6)) (hts _ h8) ⟨hM'.2.2.1.1, hM'.2.2.1.2, h5⟩ (x_room hR hM'.2.2.2.2.1 _ _), hts _ h7, trivial⟩ ⟨x_blind D cl cA z b _ S, hpre⟩ rfl hn hsize (x_stkS np) (by rw [x_wsum]; show 2 * 0 + _ ≤ 8; omega) hdg ⟨by omega, by omega⟩)
            · cases h
          · cases h
        · cases h
  | _ => exact (x_no (show (none : Option xY) = some (pc', L', st', S') from h)).elim
end XSC
end
section
/-! Runs: a frame's, a method's. -/
section XSR
variable {p : Program} {l : Launch} {e : Env} {R : Room} {s : State} {m : MethodId} {args : Array Value} {below : List Frame} {meth : Method} {c : Code} {H : Heap} {locs : List Loc} {cells slots : Nat} {Q : State → Prop}
variable {cc : ByteArray} {pc : Nat} {ls : Array Slot} {z b : Nat} {L L' : xLs} {st st' : List Value} {pc' : Nat} {S S' : xS} {D : va_G} {cl : List vw_C} {cA : Nat → ClassId} {MT : List xM} {df : List (List Value)} {Ts : List Jvm.Cond} {own : String} {M : xM} {i : Nat}
set_option maxHeartbeats 8000000 in
theorem x_sim_heap {scr : Option (Nat × (Nat → Int32))} {ins : Instr} {len : Nat} (hexec : p.tables.exec = Jvm.exec) (hb : c.code = cc) (hts : ∀ w ∈ Ts, w.before args s = true) (hown : s.vm.findClass own = some m.cls) (hK : va_K D cl (x_tys cA) s) (hC : x_okC cl df Ts) (hZ : x_okZ cl Ts) (hX : x_scrOk b z scr s) (hq : ∀ i, x_okL cl MT Ts own i (x_pool M i)) (hini : M.2.2.2.2.1 = 2 → meth.name = "<init>")
    (hdg : decode cc pc = .ok (ins, len)) (hlen : x_lok ins len = true) (hW : x_Wd D cl cA z b S H) (hS : va_S (fun q => z ≤ q) s.heap H locs)
    (h : x_heap df scr M ins pc L st S = some (pc', L', st', S')) (hr1 : cells + S'.length ≤ R.cells + S.length) (hr2 : slots + x_slots S' ≤ R.slots + x_slots S)
    (kk : ∀ (H1 : Heap) (locs1 : List Loc) (c1 s1 : Nat), L' = L → c1 + S.length = cells + S'.length → s1 + x_slots S = slots + x_slots S' → x_Wd D cl cA z b S' H1 → va_S (fun q => z ≤ q) s.heap H1 locs1 → W p l e R s m args below meth c H1 locs1 c1 s1 Q (F0 m pc' ls (st'.map (x_cv z b)))) : W p l e R s m args below meth c H locs cells slots Q (F0 m pc ls (st.map (x_cv z b))) := by
  have k0 : L' = L → S' = S → W p l e R s m args below meth c H locs cells slots Q (F0 m pc' ls (st'.map (x_cv z b))) := fun h1 h2 => kk H locs cells slots h1 (by rw [h2]) (by rw [h2]) (by rw [h2]; exact hW) hS
  have k1 : x_KK D cl cA z b s L L' S S' fun H1 locs1 => W p l e R s m args below meth c H1 locs1 cells slots Q (F0 m pc' ls (st'.map (x_cv z b))) := fun H1 locs1 h1 h2 h3 h4 h5 => kk H1 locs1 cells slots h1 (by rw [h2]) (by rw [h3]) h4 h5
  have k2 : x_KN D cl cA z b s L L' S S' locs cells slots fun H1 c1 s1 => W p l e R s m args below meth c H1 locs c1 s1 Q (F0 m pc' ls (st'.map (x_cv z b))) := fun H1 c1 s1 h1 h2 h3 h4 h5 => kk H1 locs c1 s1 h1 h2 h3 h4 h5
  cases ins with
  | getfield i =>
    obtain rfl : len = 3 := by simpa [x_lok] using hlen
    exact x_sim_get hexec hb hts hown hK hC (hq i) hdg hW h k0
  | putfield i =>
    obtain rfl : len = 3 := by simpa [x_lok] using hlen
    exact x_sim_put hexec hb hts hown hK hC (hq i) hini hdg hW hS h k1
  | iaload =>
    obtain rfl : len = 1 := by simpa [x_lok] using hlen
    exact x_sim_iald hexec hb hK hX hdg hW hS h k0
  | baload =>
    obtain rfl : len = 1 := by simpa [x_lok] using hlen
    exact x_sim_bald hexec hb hK hdg hW h k0
  | laload =>
    obtain rfl : len = 1 := by simpa [x_lok] using hlen
    exact x_sim_lald hexec hb hK hdg hW h k0
  | aaload =>
    obtain rfl : len = 1 := by simpa [x_lok] using hlen
    exact x_sim_aald hexec hb hK hdg hW h k0
  | iastore =>
    obtain rfl : len = 1 := by simpa [x_lok] using hlen
    exact x_sim_iast hexec hb hK hdg hW hS h k1
  | bastore =>
    obtain rfl : len = 1 := by simpa [x_lok] using hlen
    exact x_sim_bast hexec hb hK hdg hW hS h k1
  | lastore =>
    obtain rfl : len = 1 := by simpa [x_lok] using hlen
    exact x_sim_last hexec hb hK hdg hW hS h k1
  | aastore =>
    obtain rfl : len = 1 := by simpa [x_lok] using hlen
    exact x_sim_aast hexec hb hK hZ hdg hW hS h k1
  | arraylength =>
    obtain rfl : len = 1 := by simpa [x_lok] using hlen
    exact x_sim_alen hexec hb hK hX hdg hW hS h k0
  | newarray ty =>
    obtain rfl : len = 2 := by simpa [x_lok] using hlen
    exact x_sim_newa hexec hb hts hK hZ hdg hW hS h hr1 hr2 k2
  | anewarray i =>
    obtain rfl : len = 3 := by simpa [x_lok] using hlen
    exact x_sim_newq hexec hb hts hown hK (hq i) hdg hW hS h hr1 hr2 k2
  | new i =>
    obtain rfl : len = 3 := by simpa [x_lok] using hlen
    exact x_sim_new hexec hb hts hown hK hC (hq i) hdg hW hS h hr1 hr2 k2
  | ldc i =>
    obtain rfl : len = 2 := by simpa [x_lok] using hlen
    exact x_sim_ldc hexec hb hts hown (hq i) hdg h k0
  | ldc_w i =>
    obtain rfl : len = 3 := by simpa [x_lok] using hlen
    exact x_sim_ldcw hexec hb hts hown (hq i) hdg h k0
  | ldc2_w i =>
    obtain rfl : len = 3 := by simpa [x_lok] using hlen
    exact x_sim_ldc2 hexec hb hts hown (hq i) hdg h k0
  | _ => exact (x_no (show (none : Option xY) = some (pc', L', st', S') from h)).elim
set_option maxHeartbeats 8000000 in
theorem x_sim_run {scr : Option (Nat × (Nat → Int32))} {d n0 z0 : Nat} {call : xO} {r : Option Value} {SF : xS} (hexec : p.tables.exec = Jvm.exec) (hb : c.code = M.2.1) (hts : ∀ w ∈ Ts, w.before args s = true) (hG : GoodIn Ts Ts) (hown : s.vm.findClass M.1.cls = some m.cls) (hK : va_K D cl (x_tys cA) s) (hC : x_okC cl df Ts) (hZ : x_okZ cl Ts) (hT : x_okT cl MT Ts) (hMo : x_okM Ts M) (hX : x_scrOk b z scr s) (hq : ∀ q ∈ M.2.2.2.2.2.2, x_okL cl MT Ts M.1.cls q.1 q.2) (hini : M.2.2.2.2.1 = 2 → meth.name = "<init>")
    (hspec : x_spec l D cl cA z b MT Ts d call) (hmo : x_cmo call) (hR : d + 1 ≤ R.frames ∧ 64 * (d + 1) ≤ R.locals) (hr1 : SF.length ≤ R.cells + n0) (hr2 : x_slots SF ≤ R.slots + z0)
    (hret : ∀ (pc : Nat) (ls : Array Slot) (st : List Value) (ins : Instr) (len : Nat) (H : Heap) (locs : List Loc) (cells slots : Nat), decode M.2.1 pc = .ok (ins, len) → x_lok ins len = true → x_ret M ins st = some r → x_Wd D cl cA z b SF H → va_S (fun q => z ≤ q) s.heap H locs → cells + n0 = SF.length → slots + z0 = x_slots SF → W p l e R s m args below meth c H locs cells slots Q (F0 m pc ls (st.map (x_cv z b)))) :
    ∀ (n pc : Nat) (L : xLs) (st : List Value) (S : xS) (H : Heap) (locs : List Loc) (cells slots : Nat) (ls : Array Slot), x_run df scr call M n pc L st S = some (r, SF) → c.maxLocals = L.length → x_LR z b L ls → x_Wd D cl cA z b S H → va_S (fun q => z ≤ q) s.heap H locs → cells + n0 = S.length → slots + z0 = x_slots S → W p l e R s m args below meth c H locs cells slots Q (F0 m pc ls (st.map (x_cv z b))) := by
  intro n
  induction n with
  | zero => intro pc L st S H locs cells slots ls h; cases h
  | succ n ih =>
    intro pc L st S H locs cells slots ls h hml hl hW hS hc1 hs1
    unfold x_run at h
    split at h
    · cases h
    · next q hstep =>
      cases h
      unfold x_step at hstep
      split at hstep
      · cases hstep
      · next ins len hrow =>
        obtain ⟨hdg, hlen⟩ := x_row_ok hMo hrow
        split at hstep
        · obtain ⟨v, hv, he⟩ := Option.map_eq_some_iff.mp hstep
          cases he
          exact hret pc ls st ins len H locs cells slots hdg hlen hv hW hS hc1 hs1
        · split at hstep
          · cases hstep
          · split at hstep
            · cases hstep
            · obtain ⟨y, hi, he⟩ := Option.map_eq_some_iff.mp hstep
              cases he
    · next pc1 L1 st1 S1 hstep =>
      have hmono := x_run_mo (df := df) (scr := scr) (M := M) hmo n pc1 L1 st1 S1 r SF h
      have hs2 := x_step_mo hmo hstep
      unfold x_step at hstep
      split at hstep
      · cases hstep
      · next ins len hrow =>
        obtain ⟨hdg, hlen⟩ := x_row_ok hMo hrow
        split at hstep
        · obtain ⟨v, hv, he⟩ := Option.map_eq_some_iff.mp hstep
          cases he
        · split at hstep
          · next hp =>
            cases hstep
            exact x_sim_pure hexec hb hdg hlen hp hl fun ls2 hl2 => ih _ _ _ _ H locs cells slots ls2 h (by rw [hml, hs2.1]) hl2 hW hS hc1 hs1
          · split at hstep
            · next hy =>
              cases hstep
              exact x_sim_heap hexec hb hts hown hK hC hZ hX (x_pool_ok hq) hini hdg hlen hW hS hy (by have := hmono.1; omega) (by have := hmono.2; omega) fun H1 locs1 c1 s1 g1 g2 g3 g4 g5 => ih _ _ _ _ H1 locs1 c1 s1 ls h (by rw [hml, g1]) (by rw [g1]; exact hl) g4 g5 (by omega) (by omega)
            · obtain ⟨y, hi, he⟩ := Option.map_eq_some_iff.mp hstep
              cases he
              exact x_sim_inv hexec hb hml hts hG hown hK hT (x_pool_ok hq) hspec hmo hR hdg hlen hW hS hl hi (by have := hmono.1; omega) (by have := hmono.2; omega) fun H1 locs1 c1 s1 g1 g2 g3 g4 g5 => ih _ _ _ _ H1 locs1 c1 s1 ls h (by rw [hml, g1]) (by rw [g1]; exact hl) g4 g5 (by omega) (by omega)
end XSR
theorem x_sl_get {z b : Nat} (vs : List Value) : ∀ (i : Nat) (v : Value), (x_sl vs)[i]? = some (some v) → (lg_sl (vs.map (x_cv z b)))[i]? = some (.val (x_cv z b v)) := by
  induction vs with
  | nil => intro i v h; cases h
  | cons a t ih =>
    intro i v h
    simp only [x_sl, List.flatMap_cons] at h
    simp only [lg_sl, List.map_cons, List.flatMap_cons, x_cv_cat]
    by_cases ha : a.category = 2
    · rw [if_pos ha] at h ⊢
      match i, h with
      | 0, h => cases h; rfl
      | 1, h => cases h
      | k + 2, h => exact ih k v h
    · rw [if_neg ha] at h ⊢
      match i, h with
      | 0, h => cases h; rfl
      | k + 1, h => exact ih k v h
theorem x_sl_len {z b : Nat} (vs : List Value) : (lg_sl (vs.map (x_cv z b))).length = (x_sl vs).length := by
  induction vs with
  | nil => rfl
  | cons a t ih =>
    simp only [lg_sl, x_sl, List.map_cons, List.flatMap_cons, List.length_append, x_cv_cat] at ih ⊢
    rw [ih]
    by_cases ha : a.category = 2
    · rw [if_pos ha, if_pos ha]; rfl
    · rw [if_neg ha, if_neg ha]; rfl
theorem x_entry_ok {z b n : Nat} {vs : List Value} {L : xLs} (h : x_entry n vs = some L) : L.length = n ∧ x_LR z b L ((lg_sl (vs.map (x_cv z b)) ++ List.replicate (n - (lg_sl (vs.map (x_cv z b))).length) Slot.unset).toArray) := by
  unfold x_entry at h
  split at h
  · next hle =>
    cases h
    have h1 := lv_entry (vs.map (x_cv z b)) (n := n) (by rw [x_sl_len]; exact hle)
    refine ⟨by simp; omega, by simp [x_sl_len], h1.2.1, fun i v hi => ?_⟩
    by_cases hl : i < (x_sl vs).length
    · rw [List.getElem?_append_left hl] at hi
      have := x_sl_get (z := z) (b := b) vs i v hi
      show ((lg_sl (vs.map (x_cv z b)) ++ _).toArray)[i]? = _
      rw [List.getElem?_toArray, List.getElem?_append_left (by rw [x_sl_len]; exact hl)]
      exact this
    · rw [List.getElem?_append_right (by omega)] at hi
      have := List.getElem?_eq_some_iff.mp hi
      obtain ⟨h2, h3⟩ := this
      rw [List.getElem_replicate] at h3
      cases h3
  · cases h
end
section
/-! Whole methods: what x_do says of a method is its contract. -/
section XME
variable {p : Program} {l : Launch} {e : Env} {R : Room} {s : State} {m : MethodId} {args : Array Value} {below : List Frame} {meth : Method} {c : Code} {H : Heap} {locs : List Loc} {cells slots : Nat}
variable {pc : Nat} {ls : Array Slot} {z b : Nat} {st : List Value} {SF : xS} {D : va_G} {cl : List vw_C} {cA : Nat → ClassId} {MT : List xM} {df : List (List Value)} {Ts : List Jvm.Cond} {M : xM}
set_option maxHeartbeats 4000000 in
theorem x_end {r : Option Value} {ins : Instr} {len mc ms : Nat} (hexec : p.tables.exec = Jvm.exec) (hb : c.code = M.2.1) (hr : meth.sig.returnType = M.2.2.2.1) (hlocks : meth.locks = false) (hK : va_K D cl (x_tys cA) s) (hdg : decode M.2.1 pc = .ok (ins, len)) (hlen : x_lok ins len = true) (h : x_ret M ins st = some r) (hW : x_Wd D cl cA z b SF H) (hS : va_S (fun q => z ≤ q) s.heap H locs) (h1 : cells = mc) (h2 : slots = ms) :
    W p l e R s m args below meth c H locs cells slots (MQ below (x_Qc D cl cA z b r SF) args s mc ms (fun q => z ≤ q)) (F0 m pc ls (st.map (x_cv z b))) := by
  subst h1
  subst h2
  have q : ∀ t : State, t.heap = H → s.WarmedH t.vm → x_Qc D cl cA z b r SF args s (.returned (r.map (x_cv z b))) t := fun t ht hWm => ⟨rfl, by rw [ht]; exact hW, va_K.moved hWm.alike hK, hS.F ht⟩
  unfold x_ret at h
  split at h
  · next hty =>
    cases h
    obtain rfl : len = 1 := by simpa [x_lok] using hlen
    exact W.vret hexec hb (hr.trans hty) q hS.2.2 hdg hlocks
  · next v hty =>
    cases h
    obtain rfl : len = 1 := by simpa [x_lok] using hlen
    exact W.iret hexec hb (hr.trans hty) q hS.2.2 hdg hlocks
  · next v hty =>
    split at h
    · next hv =>
      cases h
      obtain rfl : len = 1 := by simpa [x_lok] using hlen
      exact W.zret hexec hb (hr.trans hty) (by rcases hv with rfl | rfl <;> decide) q hS.2.2 hdg hlocks
    · cases h
  · next v hty =>
    cases h
    obtain rfl : len = 1 := by simpa [x_lok] using hlen
    exact W.lret hexec hb (hr.trans hty) q hS.2.2 hdg hlocks
  · next n a hty =>
    cases h
    obtain rfl : len = 1 := by simpa [x_lok] using hlen
    exact W.aret (v := .ref (z + a)) hexec hb (hr.trans hty) (Or.inl ⟨_, rfl⟩) (Or.inr ⟨_, rfl⟩) q hS.2.2 hdg hlocks
  · next n hty =>
    cases h
    obtain rfl : len = 1 := by simpa [x_lok] using hlen
    exact W.aret (v := .null) hexec hb (hr.trans hty) (Or.inl ⟨_, rfl⟩) (Or.inl rfl) q hS.2.2 hdg hlocks
  · cases h
end XME
set_option maxHeartbeats 4000000 in
/-- the contracts of all methods -/
theorem x_met (l : Launch) (D : va_G) (cl : List vw_C) (cA : Nat → ClassId) (z b : Nat) (MT : List xM) (df : List (List Value)) (Ts : List Jvm.Cond) (n : Nat) (hG : GoodIn Ts Ts) (hC : x_okC cl df Ts) (hZ : x_okZ cl Ts) (hT : x_okT cl MT Ts) : ∀ d, x_spec l D cl cA z b MT Ts d (x_do df MT n d) := by
  intro d
  induction d with
  | zero => intro j as S r S' M hM h; cases h
  | succ d ih =>
    intro j as S r S' M hM h
    have hmo := x_do_mo df MT n (d + 1) j as S r S' h
    simp only [x_do, hM] at h
    split at h
    · cases h
    · next L hL =>
      obtain ⟨hMo, hq⟩ := hT j M hM
      refine Met.ofW (cc := M.2.1) (maxL := M.2.2.1) (ret := M.2.2.2.1) hMo.2.1 rfl ?_
      intro p e s m args below meth c s₁ B hml hv
      obtain ⟨rfl, hW, hK⟩ := hv
      have hts : ∀ w ∈ Ts, w.before (as.map (x_cv z b)).toArray s = true := fun w hw => atoms_spec (ws := x_ws Ts M) B.pre w (List.mem_cons_of_mem _ hw)
      obtain ⟨hlen, hLR⟩ := x_entry_ok (z := z) (b := b) hL
      rw [lg_entry_eq]
      exact x_sim_run (M := M) (n0 := S.length) (z0 := x_slots S) (scr := none) (d := d) (R := (headSpec (x_ws Ts M) (x_rm (d + 1) (S'.length - S.length) (x_slots S' - x_slots S))).room) B.exec B.bytes hts hG (findClass_of_methodNamed B.named) hK hC hZ hT hMo (fun _ _ h => by cases h) hq (fun h2 => (name_of_methodNamed B.named B.method).1.trans (hMo.2.2.2.1 h2)) ih (x_do_mo df MT n d) ⟨Nat.le_refl _, Nat.le_refl _⟩
        (by show S'.length ≤ (S'.length - S.length) + S.length; have := hmo.1; omega) (by show x_slots S' ≤ (x_slots S' - x_slots S) + x_slots S; have := hmo.2; omega)
        (fun pc ls st ins len H locs cells slots h1 h2 h3 h4 h5 h6 h7 => x_end B.exec B.bytes B.returns B.notSynchronized hK h1 h2 h3 h4 h5 (by omega) (by omega))
        n 0 L [] S s.heap [] 0 0 _ h (by rw [hml, hlen]) hLR hW va_S.rf (by omega) (by omega)
end
