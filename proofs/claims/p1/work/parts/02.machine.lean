/-! A pure machine: worlds are lists of objects and arrays by their numbers (a reference is a number in the list), methods are rows of decoded instructions, constant pool entries are looked up in a list.
What it does is tied to the real machine once, for all methods (parts 03 to 05); after that a method's contract is a statement about x_run alone. -/
abbrev xE : Type := (Nat × List Value) ⊕ (Nat × vp_A)
abbrev xS : Type := List xE
/-- a constant pool entry: its kind and three numbers -/
abbrev xL : Type := Nat × Nat × Nat × Int
/-- a method: name, code, locals, answer, kind (0 static, 1 of an object, 2 a constructor), decoded rows, pool (both in drawers of 32 places) -/
abbrev xM : Type := MethodName × ByteArray × Nat × Option FieldType × Nat × List (List (Nat × Instr × Nat)) × List (List (Nat × xL))
abbrev xLs : Type := List (Option Value)
/-- real values: the world's numbers begin at the address z; the script lies at b -/
def x_cv (z b : Nat) : Value → Value
  | .ref a => .ref (z + a)
  | .retAddr _ => .ref b
  | v => v
def x_ca (z : Nat) (a : vp_A) : vp_A := match a with
  | (n, .inr (.inr (.inr (.inr f)))) => (n, .inr (.inr (.inr (.inr fun i => (f i).map (fun q => z + q)))))
  | a => a
def x_ce (cA : Nat → ClassId) (z b : Nat) : xE → va_E
  | .inl (ci, fs) => .inr (ci, fs.map (x_cv z b))
  | .inr (t, a) => .inl (cA t, x_ca z a)
def x_wl (cA : Nat → ClassId) (z b : Nat) (S : xS) : va_W := S.mapIdx fun i e => (z + i, x_ce cA z b e)
def x_ld (L : xLs) (i : Nat) : Option Value := match L[i]? with
  | some (some v) => some v
  | _ => none
def x_two : Option Value → Bool
  | some (.long _) => true
  | some (.double _) => true
  | _ => false
def x_cl (L : xLs) (i : Nat) : xLs := match i with
  | 0 => L
  | k + 1 => if x_two (x_ld L k) = true then L.set k none else L
def x_st1 (L : xLs) (i : Nat) (v : Value) : Option xLs := if i < L.length then some ((x_cl L i).set i (some v)) else none
def x_st2 (L : xLs) (i : Nat) (v : Value) : Option xLs := if i + 1 < L.length then some (((x_cl L i).set (i + 1) none).set i (some v)) else none
abbrev xP : Type := Nat × xLs × List Value
def x_b2 (pc : Nat) (L : xLs) (st : List Value) (f : Int32 → Int32 → Value) : Option xP := match st with
  | .int y :: .int x :: r => some (pc + 1, L, f x y :: r)
  | _ => none
def x_d2 (pc : Nat) (L : xLs) (st : List Value) (f : Int32 → Int32 → Value) : Option xP := match st with
  | .int y :: .int x :: r => if y = 0 then none else some (pc + 1, L, f x y :: r)
  | _ => none
def x_l2 (pc : Nat) (L : xLs) (st : List Value) (f : Int64 → Int64 → Value) : Option xP := match st with
  | .long y :: .long x :: r => some (pc + 1, L, f x y :: r)
  | _ => none
def x_m2 (pc : Nat) (L : xLs) (st : List Value) (f : Int64 → Int64 → Value) : Option xP := match st with
  | .long y :: .long x :: r => if y = 0 then none else some (pc + 1, L, f x y :: r)
  | _ => none
def x_s2 (pc : Nat) (L : xLs) (st : List Value) (f : Int64 → Int32 → Value) : Option xP := match st with
  | .int y :: .long x :: r => some (pc + 1, L, f x y :: r)
  | _ => none
def x_i1 (pc : Nat) (L : xLs) (st : List Value) (f : Int32 → Value) : Option xP := match st with
  | .int x :: r => some (pc + 1, L, f x :: r)
  | _ => none
def x_j1 (pc : Nat) (L : xLs) (st : List Value) (f : Int64 → Value) : Option xP := match st with
  | .long x :: r => some (pc + 1, L, f x :: r)
  | _ => none
def x_ldi (pc k : Nat) (L : xLs) (st : List Value) (i : Nat) : Option xP := match x_ld L i with
  | some (.int x) => some (pc + k, L, .int x :: st)
  | _ => none
def x_ldl (pc k : Nat) (L : xLs) (st : List Value) (i : Nat) : Option xP := match x_ld L i with
  | some (.long x) => some (pc + k, L, .long x :: st)
  | _ => none
def x_lda (pc k : Nat) (L : xLs) (st : List Value) (i : Nat) : Option xP := match x_ld L i with
  | some (.ref x) => some (pc + k, L, .ref x :: st)
  | some .null => some (pc + k, L, .null :: st)
  | some (.retAddr x) => some (pc + k, L, .retAddr x :: st)
  | _ => none
def x_sti (pc k : Nat) (L : xLs) (st : List Value) (i : Nat) : Option xP := match st with
  | .int x :: r => (x_st1 L i (.int x)).map fun L' => (pc + k, L', r)
  | _ => none
def x_stl (pc k : Nat) (L : xLs) (st : List Value) (i : Nat) : Option xP := match st with
  | .long x :: r => (x_st2 L i (.long x)).map fun L' => (pc + k, L', r)
  | _ => none
def x_sta (pc k : Nat) (L : xLs) (st : List Value) (i : Nat) : Option xP := match st with
  | .ref x :: r => (x_st1 L i (.ref x)).map fun L' => (pc + k, L', r)
  | .null :: r => (x_st1 L i .null).map fun L' => (pc + k, L', r)
  | _ => none
def x_jmp (pc : Nat) (off : Int) (L : xLs) (st : List Value) : Option xP := if 0 ≤ (pc : Int) + off then some (((pc : Int) + off).toNat, L, st) else none
def x_br (c : Prop) (d : Decidable c) (pc : Nat) (off : Int) (L : xLs) (st : List Value) : Option xP := if 0 ≤ (pc : Int) + off then some (@ite _ c d ((pc : Int) + off).toNat (pc + 3), L, st) else none
def x_if (co : ClassFile.Cond) (pc : Nat) (off : Int) (L : xLs) (st : List Value) : Option xP := match st with
  | .int x :: r => match co with
    | .eq => x_br (x = 0) inferInstance pc off L r
    | .ne => x_br (x ≠ 0) inferInstance pc off L r
    | .lt => x_br (x < 0) inferInstance pc off L r
    | .ge => x_br (0 ≤ x) inferInstance pc off L r
    | .gt => x_br (0 < x) inferInstance pc off L r
    | .le => x_br (x ≤ 0) inferInstance pc off L r
  | _ => none
def x_ic (co : ClassFile.Cond) (pc : Nat) (off : Int) (L : xLs) (st : List Value) : Option xP := match st with
  | .int y :: .int x :: r => match co with
    | .eq => x_br (x = y) inferInstance pc off L r
    | .ne => x_br (x ≠ y) inferInstance pc off L r
    | .lt => x_br (x < y) inferInstance pc off L r
    | .ge => x_br (y ≤ x) inferInstance pc off L r
    | .gt => x_br (y < x) inferInstance pc off L r
    | .le => x_br (x ≤ y) inferInstance pc off L r
  | _ => none
/-- what touches the frame alone -/
def x_pure (ins : Instr) (len pc : Nat) (L : xLs) (st : List Value) : Option xP := match ins with
  | .iconst n => some (pc + 1, L, .int (Int32.ofInt n) :: st)
  | .bipush n => some (pc + 2, L, .int (Int8.ofInt n).toInt32 :: st)
  | .sipush n => some (pc + 3, L, .int (Int16.ofInt n).toInt32 :: st)
  | .lconst n => some (pc + 1, L, .long (Int64.ofNat (n : Nat)) :: st)
  | .iload_n k => x_ldi pc 1 L st k
  | .iload i => if len = 2 then x_ldi pc 2 L st i else none
  | .lload_n k => x_ldl pc 1 L st k
  | .lload i => if len = 2 then x_ldl pc 2 L st i else none
  | .aload_n k => x_lda pc 1 L st k
  | .aload i => if len = 2 then x_lda pc 2 L st i else none
  | .istore_n k => x_sti pc 1 L st k
  | .istore i => if len = 2 then x_sti pc 2 L st i else none
  | .lstore_n k => x_stl pc 1 L st k
  | .lstore i => if len = 2 then x_stl pc 2 L st i else none
  | .astore_n k => x_sta pc 1 L st k
  | .astore i => if len = 2 then x_sta pc 2 L st i else none
  | .iinc i n => if len = 3 then (match x_ld L i with
    | some (.int x) => (x_st1 L i (.int (x + Int32.ofInt n))).map fun L' => (pc + 3, L', st)
    | _ => none) else none
  | .iadd => x_b2 pc L st fun x y => .int (x + y)
  | .isub => x_b2 pc L st fun x y => .int (x - y)
  | .imul => x_b2 pc L st fun x y => .int (x * y)
  | .iand => x_b2 pc L st fun x y => .int (x &&& y)
  | .ior => x_b2 pc L st fun x y => .int (x ||| y)
  | .ixor => x_b2 pc L st fun x y => .int (x ^^^ y)
  | .ishl => x_b2 pc L st fun x y => .int (x <<< (y &&& 31))
  | .ishr => x_b2 pc L st fun x y => .int (x >>> (y &&& 31))
  | .iushr => x_b2 pc L st fun x y => .int (x.toUInt32 >>> (y.toUInt32 &&& Int32.toUInt32 31)).toInt32
  | .idiv => x_d2 pc L st fun x y => .int (x / y)
  | .irem => x_d2 pc L st fun x y => .int (x - x / y * y)
  | .ineg => x_i1 pc L st fun x => .int (-x)
  | .ladd => x_l2 pc L st fun x y => .long (x + y)
  | .lsub => x_l2 pc L st fun x y => .long (x - y)
  | .lmul => x_l2 pc L st fun x y => .long (x * y)
  | .land => x_l2 pc L st fun x y => .long (x &&& y)
  | .lor => x_l2 pc L st fun x y => .long (x ||| y)
  | .lxor => x_l2 pc L st fun x y => .long (x ^^^ y)
  | .ldiv => x_m2 pc L st fun x y => .long (x / y)
  | .lrem => x_m2 pc L st fun x y => .long (x - x / y * y)
  | .lneg => x_j1 pc L st fun x => .long (-x)
  | .lcmp => x_l2 pc L st fun x y => .int (lg_cmp x y)
  | .lshl => x_s2 pc L st fun x y => .long (x <<< (y.toInt64 &&& 63))
  | .lshr => x_s2 pc L st fun x y => .long (x >>> (y.toInt64 &&& 63))
  | .lushr => x_s2 pc L st fun x y => .long (x.toUInt64 >>> (y.toInt64.toUInt64 &&& Int64.toUInt64 63)).toInt64
  | .i2l => x_i1 pc L st fun x => .long x.toInt64
  | .l2i => x_j1 pc L st fun x => .int x.toInt32
  | .i2b => x_i1 pc L st fun x => .int x.toInt8.toInt32
  | .i2s => x_i1 pc L st fun x => .int x.toInt16.toInt32
  | .dup => match st with
    | v :: r => if v.category = 1 then some (pc + 1, L, v :: v :: r) else none
    | _ => none
  | .pop => match st with
    | v :: r => if v.category = 1 then some (pc + 1, L, r) else none
    | _ => none
  | .dup2 => match st with
    | v :: r => if v.category = 2 then some (pc + 1, L, v :: v :: r) else (match r with
      | w :: r => if v.category = 1 ∧ w.category = 1 then some (pc + 1, L, v :: w :: v :: w :: r) else none
      | _ => none)
    | _ => none
  | .pop2 => match st with
    | v :: r => if v.category = 2 then some (pc + 1, L, r) else none
    | _ => none
  | .goto off => x_jmp pc off L st
  | .ifCond co off => x_if co pc off L st
  | .if_icmp co off => x_ic co pc off L st
  | .ifnonnull off => match st with
    | .ref _ :: r => x_jmp pc off L r
    | .null :: r => some (pc + 3, L, r)
    | _ => none
  | .tableswitch d lo hi offs => match st with
    | .int x :: r => if x.toInt < lo ∨ hi < x.toInt then x_jmp pc d L r else (match offs[(x.toInt - lo).toNat]? with
      | some o => x_jmp pc o L r
      | none => none)
    | _ => none
  | .lookupswitch d ps => match st with
    | .int x :: r => if (ps.toList.zip (ps.toList.drop 1)).all (fun (a, next) => a.1 < next.1) = true then x_jmp pc (Op.lookupswitch.offset ps.toList d x.toInt) L r else none
    | _ => none
  | _ => none
def x_obj (S : xS) (a : Nat) : Option (Nat × List Value) := match S[a]? with
  | some (.inl q) => some q
  | _ => none
def x_arr (S : xS) (a : Nat) : Option (Nat × vp_A) := match S[a]? with
  | some (.inr q) => some q
  | _ => none
/-- a place of an array -/
abbrev x_in (i : Int32) (n : Nat) : Prop := 0 ≤ i ∧ i.toNatClampNeg < n
/-- whether a field of a sort (0 int, 1 long, 2 boolean, 3 a reference) may hold a value -/
def x_fit (tc : Int) (v : Value) : Bool := match v with
  | .int x => tc == 0 || (tc == 2 && (x == 0 || x == 1))
  | .long _ => tc == 1
  | .null => tc == 3
  | .ref _ => tc == 3
  | _ => false
abbrev xY : Type := Nat × xLs × List Value × xS
def x_find {α : Type} (l : List (List (Nat × α))) (i : Nat) : Option α := match l[i / 32]? with
  | some d => d.lookup i
  | none => none
def x_pool (M : xM) (i : Nat) : xL := match x_find M.2.2.2.2.2.2 i with
  | some q => q
  | none => (99, 0, 0, 0)
def x_get (M : xM) (i pc : Nat) (L : xLs) (st : List Value) (S : xS) : Option xY := match x_pool M i with
  | (kd, ci, k, _) => if kd ≤ 2 ∨ kd = 16 then (match st with
    | .ref a :: r => (match x_obj S a with
      | some (cj, fs) => if cj = ci then (match fs[k]? with
        | some v => some (pc + 3, L, v :: r, S)
        | none => none) else none
      | none => none)
    | _ => none) else none
def x_put (M : xM) (i pc : Nat) (L : xLs) (st : List Value) (S : xS) : Option xY := match x_pool M i with
  | (kd, ci, k, tc) => if kd = 0 ∨ (kd = 1 ∧ M.2.2.2.2.1 = 2) then (match st with
    | v :: .ref a :: r => (match x_obj S a with
      | some (cj, fs) => if cj = ci ∧ k < fs.length ∧ x_fit tc v = true then some (pc + 3, L, r, S.set a (.inl (cj, fs.set k v))) else none
      | none => none)
    | _ => none) else none
def x_iald (scr : Option (Nat × (Nat → Int32))) (pc : Nat) (L : xLs) (st : List Value) (S : xS) : Option xY := match st with
  | .int i :: .ref a :: r => (match x_arr S a with
    | some (0, n, .inl f) => if x_in i n then some (pc + 1, L, .int (f i.toNatClampNeg) :: r, S) else none
    | _ => none)
  | .int i :: .retAddr _ :: r => (match scr with
    | some (n, f) => if x_in i n then some (pc + 1, L, .int (f i.toNatClampNeg) :: r, S) else none
    | none => none)
  | _ => none
def x_bald (pc : Nat) (L : xLs) (st : List Value) (S : xS) : Option xY := match st with
  | .int i :: .ref a :: r => (match x_arr S a with
    | some (2, n, .inl f) => if x_in i n then some (pc + 1, L, .int (f i.toNatClampNeg) :: r, S) else none
    | some (3, n, .inl f) => if x_in i n then some (pc + 1, L, .int (f i.toNatClampNeg) :: r, S) else none
    | _ => none)
  | _ => none
def x_lald (pc : Nat) (L : xLs) (st : List Value) (S : xS) : Option xY := match st with
  | .int i :: .ref a :: r => (match x_arr S a with
    | some (1, n, .inr (.inl f)) => if x_in i n then some (pc + 1, L, .long (f i.toNatClampNeg) :: r, S) else none
    | _ => none)
  | _ => none
def x_aald (pc : Nat) (L : xLs) (st : List Value) (S : xS) : Option xY := match st with
  | .int i :: .ref a :: r => (match x_arr S a with
    | some (t, n, .inr (.inr (.inr (.inr f)))) => if 4 ≤ t ∧ t ≤ 6 ∧ x_in i n then some (pc + 1, L, va_rf (f i.toNatClampNeg) :: r, S) else none
    | _ => none)
  | _ => none
def x_iast (pc : Nat) (L : xLs) (st : List Value) (S : xS) : Option xY := match st with
  | .int x :: .int i :: .ref a :: r => (match x_arr S a with
    | some (0, n, .inl f) => if x_in i n then some (pc + 1, L, r, S.set a (.inr (0, n, .inl (upd f i.toNatClampNeg x)))) else none
    | _ => none)
  | _ => none
def x_bast (pc : Nat) (L : xLs) (st : List Value) (S : xS) : Option xY := match st with
  | .int x :: .int i :: .ref a :: r => (match x_arr S a with
    | some (2, n, .inl f) => if x_in i n then some (pc + 1, L, r, S.set a (.inr (2, n, .inl (upd f i.toNatClampNeg (vp_nar .byte x))))) else none
    | some (3, n, .inl f) => if x_in i n then some (pc + 1, L, r, S.set a (.inr (3, n, .inl (upd f i.toNatClampNeg (vp_nar .boolean x))))) else none
    | _ => none)
  | _ => none
def x_last (pc : Nat) (L : xLs) (st : List Value) (S : xS) : Option xY := match st with
  | .long x :: .int i :: .ref a :: r => (match x_arr S a with
    | some (1, n, .inr (.inl f)) => if x_in i n then some (pc + 1, L, r, S.set a (.inr (1, n, .inr (.inl (vp_updL f i.toNatClampNeg x))))) else none
    | _ => none)
  | _ => none
/-- the class whose objects an array of references of a sort holds -/
def x_tc (t : Nat) : Nat := match t with
  | 4 => 0
  | 5 => 4
  | _ => 10
def x_aast (pc : Nat) (L : xLs) (st : List Value) (S : xS) : Option xY := match st with
  | .ref v :: .int i :: .ref a :: r => (match x_arr S a, x_obj S v with
    | some (t, n, .inr (.inr (.inr (.inr f)))), some (ci, _) => if 4 ≤ t ∧ t ≤ 6 ∧ ci = x_tc t ∧ x_in i n then some (pc + 1, L, r, S.set a (.inr (t, n, .inr (.inr (.inr (.inr (va_up f i.toNatClampNeg (some v)))))))) else none
    | _, _ => none)
  | _ => none
def x_alen (scr : Option (Nat × (Nat → Int32))) (pc : Nat) (L : xLs) (st : List Value) (S : xS) : Option xY := match st with
  | .ref a :: r => (match x_arr S a with
    | some (t, n, _) => if t ≤ 6 then some (pc + 1, L, .int (Int32.ofNat n) :: r, S) else none
    | none => none)
  | .retAddr _ :: r => (match scr with
    | some (n, _) => some (pc + 1, L, .int (Int32.ofNat n) :: r, S)
    | none => none)
  | _ => none
def x_newa (ty : ArrayType) (pc : Nat) (L : xLs) (st : List Value) (S : xS) : Option xY := match st with
  | .int n :: r => if 0 ≤ n ∧ n.toNatClampNeg ≤ 60000000 then (match ty with
    | .int => some (pc + 2, L, .ref S.length :: r, S ++ [.inr (0, n.toNatClampNeg, .inl fun _ => 0)])
    | .long => some (pc + 2, L, .ref S.length :: r, S ++ [.inr (1, n.toNatClampNeg, .inr (.inl fun _ => 0))])
    | .byte => some (pc + 2, L, .ref S.length :: r, S ++ [.inr (2, n.toNatClampNeg, .inl fun _ => 0)])
    | .boolean => some (pc + 2, L, .ref S.length :: r, S ++ [.inr (3, n.toNatClampNeg, .inl fun _ => 0)])
    | _ => none) else none
  | _ => none
def x_newq (M : xM) (i pc : Nat) (L : xLs) (st : List Value) (S : xS) : Option xY := match x_pool M i with
  | (kd, _, t, _) => if kd = 12 ∧ 4 ≤ t then (match st with
    | .int n :: r => if 0 ≤ n ∧ n.toNatClampNeg ≤ 60000000 then some (pc + 3, L, .ref S.length :: r, S ++ [.inr (t, n.toNatClampNeg, .inr (.inr (.inr (.inr fun _ => none))))]) else none
    | _ => none) else none
def x_new (df : List (List Value)) (M : xM) (i pc : Nat) (L : xLs) (st : List Value) (S : xS) : Option xY := match x_pool M i with
  | (kd, ci, _, _) => if kd = 12 then (match df[ci]? with
    | some fs => some (pc + 3, L, .ref S.length :: st, S ++ [.inl (ci, fs)])
    | none => none) else none
def x_ldc (M : xM) (i len pc : Nat) (L : xLs) (st : List Value) (S : xS) : Option xY := match x_pool M i with
  | (kd, _, _, v) => if kd = 14 then some (pc + len, L, .int (Int32.ofInt v) :: st, S) else none
def x_ldc2 (M : xM) (i pc : Nat) (L : xLs) (st : List Value) (S : xS) : Option xY := match x_pool M i with
  | (kd, _, _, v) => if kd = 15 then some (pc + 3, L, .long (Int64.ofInt v) :: st, S) else none
def x_heap (df : List (List Value)) (scr : Option (Nat × (Nat → Int32))) (M : xM) (ins : Instr) (pc : Nat) (L : xLs) (st : List Value) (S : xS) : Option xY := match ins with
  | .getfield i => x_get M i pc L st S
  | .putfield i => x_put M i pc L st S
  | .iaload => x_iald scr pc L st S
  | .baload => x_bald pc L st S
  | .laload => x_lald pc L st S
  | .aaload => x_aald pc L st S
  | .iastore => x_iast pc L st S
  | .bastore => x_bast pc L st S
  | .lastore => x_last pc L st S
  | .aastore => x_aast pc L st S
  | .arraylength => x_alen scr pc L st S
  | .newarray ty => x_newa ty pc L st S
  | .anewarray i => x_newq M i pc L st S
  | .new i => x_new df M i pc L st S
  | .ldc i => x_ldc M i 2 pc L st S
  | .ldc_w i => x_ldc M i 3 pc L st S
  | .ldc2_w i => x_ldc2 M i pc L st S
  | _ => none
abbrev xO : Type := Nat → List Value → xS → Option (Option Value × xS)
def x_w (st : List Value) : Nat := (st.map fun v => v.category).sum
/-- a call behind its arguments -/
def x_call (call : xO) (j : Nat) (as : List Value) (pc : Nat) (L : xLs) (rest : List Value) (S : xS) : Option xY := if x_w rest ≤ 8 then (match call j as S with
  | some (v, S') => some (pc + 3, L, v.toList ++ rest, S')
  | none => none) else none
def x_inv (call : xO) (M : xM) (ins : Instr) (pc : Nat) (L : xLs) (st : List Value) (S : xS) : Option xY := match ins with
  | .invokevirtual i => match x_pool M i with
    | (kd, j, np, ci) => if (kd = 3 ∨ kd = 4) ∧ np ≤ st.length then (match st.drop np with
      | .ref a :: rest => (match x_obj S a with
        | some (cj, _) => if (cj : Int) = ci then x_call call j (.ref a :: (st.take np).reverse) pc L rest S else none
        | none => none)
      | _ => none) else none
  | .invokespecial i => match x_pool M i with
    | (kd, j, np, _) => if kd = 9 then (match st with
      | .ref _ :: rest => if x_w rest ≤ 8 then some (pc + 3, L, rest, S) else none
      | _ => none) else if (kd = 7 ∨ kd = 8) ∧ np ≤ st.length then (match st.drop np with
      | .ref a :: rest => x_call call j (.ref a :: (st.take np).reverse) pc L rest S
      | _ => none) else none
  | .invokestatic i => match x_pool M i with
    | (kd, j, np, _) => if kd = 10 then (match st with
      | .int y :: .int x :: rest => if x_w rest ≤ 8 then some (pc + 3, L, .int (if x < y then y else x) :: rest, S) else none
      | _ => none) else if kd = 11 then (match st with
      | .int y :: .int x :: rest => if x_w rest ≤ 8 then some (pc + 3, L, .int (if y < x then y else x) :: rest, S) else none
      | _ => none) else if (kd = 5 ∨ kd = 6) ∧ np ≤ st.length then x_call call j (st.take np).reverse pc L (st.drop np) S else none
  | _ => none
def x_ret (M : xM) (ins : Instr) (st : List Value) : Option (Option Value) := match ins, M.2.2.2.1, st with
  | .return_, none, [] => some none
  | .ireturn, some .int, [.int v] => some (some (.int v))
  | .ireturn, some .boolean, [.int v] => if v = 0 ∨ v = 1 then some (some (.int v)) else none
  | .lreturn, some .long, [.long v] => some (some (.long v))
  | .areturn, some (.object _), [.ref a] => some (some (.ref a))
  | .areturn, some (.object _), [.null] => some (some .null)
  | _, _, _ => none
def x_isRet (ins : Instr) : Bool := match ins with
  | .return_ | .ireturn | .lreturn | .areturn => true
  | _ => false
def x_row (M : xM) (pc : Nat) : Option (Instr × Nat) := x_find M.2.2.2.2.2.1 pc
def x_step (df : List (List Value)) (scr : Option (Nat × (Nat → Int32))) (call : xO) (M : xM) (pc : Nat) (L : xLs) (st : List Value) (S : xS) : Option (xY ⊕ (Option Value × xS)) := match x_row M pc with
  | none => none
  | some (ins, len) => if x_isRet ins = true then (x_ret M ins st).map fun v => .inr (v, S) else
    match x_pure ins len pc L st with
    | some (pc', L', st') => some (.inl (pc', L', st', S))
    | none => match x_heap df scr M ins pc L st S with
      | some y => some (.inl y)
      | none => (x_inv call M ins pc L st S).map .inl
def x_run (df : List (List Value)) (scr : Option (Nat × (Nat → Int32))) (call : xO) (M : xM) : Nat → Nat → xLs → List Value → xS → Option (Option Value × xS)
  | 0, _, _, _, _ => none
  | n + 1, pc, L, st, S => match x_step df scr call M pc L st S with
    | none => none
    | some (.inr r) => some r
    | some (.inl (pc', L', st', S')) => x_run df scr call M n pc' L' st' S'
def x_sl (vs : List Value) : xLs := vs.flatMap fun v => if v.category = 2 then [some v, none] else [some v]
def x_entry (n : Nat) (vs : List Value) : Option xLs := if (x_sl vs).length ≤ n then some (x_sl vs ++ List.replicate (n - (x_sl vs).length) none) else none
/-- a method by its number: of calls within one another at most d, of steps in each at most n -/
def x_do (df : List (List Value)) (MT : List xM) (n : Nat) : Nat → xO
  | 0 => fun _ _ _ => none
  | d + 1 => fun j as S => match MT[j]? with
    | none => none
    | some M => match x_entry M.2.2.1 as with
      | none => none
      | some L => x_run df none (x_do df MT n d) M n 0 L [] S
