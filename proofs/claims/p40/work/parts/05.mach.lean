/-! the abstract machine: one step of a method's bytecode over locals, operands and a heap of contents by address -/
/-- the heap: contents by address, its size if it is known, cells and slots made so far -/
abbrev q_H : Type := (Nat → Option va_E) × Option Nat × Nat × Nat
/-- a method's end: what it returned, or the name of what it threw -/
abbrev q_R : Type := Option Value ⊕ String
/-- what doesn't change: statics by number, arrays that are only read -/
abbrev q_E : Type := (Nat → Option Value) × (Nat → Option (FieldType × Nat × (Nat → Value)))
abbrev q_F : Type := Nat × List Value × List Value × q_H
abbrev q_S : Type := q_F ⊕ ((q_M × Nat × List Value × List Value) ⊕ (q_R × q_H))
abbrev q_own (M : q_M) : Nat := M.2.2.2.2.1
abbrev q_hgt (M : q_M) : Nat := M.2.2.2.2.2.1
abbrev q_ret (M : q_M) : Option FieldType := M.2.2.2.1
abbrev q_hnd (M : q_M) : List (Nat × Nat × Nat × Nat) := M.2.2.2.2.2.2.2
def q_nx (pc : Nat) (ls st : List Value) (h : q_H) : Option q_S := some (.inl (pc, ls, st, h))
def q_up (h : q_H) (a : Nat) (e : va_E) : q_H := (fun b => if b = a then some e else h.1 b, h.2)
def q_al (h : q_H) (a : Nat) (e : va_E) (n : Nat) : q_H := (fun b => if b = a then some e else h.1 b, some (a + 1), h.2.2.1 + 1, h.2.2.2 + n)
abbrev q_out (i : Int32) (n : Nat) : Prop := i < 0 ∨ n ≤ i.toNatClampNeg
def q_ld (ls : List Value) (i : Nat) : Value := ls.getD i .null
def q_st1 (ls : List Value) (i : Nat) (v : Value) : List Value := match i with
  | 0 => ls.set 0 v
  | j + 1 => (if (q_ld ls j).category = 2 then ls.set j .null else ls).set (j + 1) v
def q_st2 (ls : List Value) (i : Nat) (v : Value) : List Value := (q_st1 ls i v).set (i + 1) .null
def q_tgt (pc : Nat) (off : Int) : Option Nat := match (pc : Int) + off with
  | .ofNat t => some t
  | .negSucc _ => none
def q_gI (E : q_E) (h : q_H) (t : Nat) (ty : FieldType) (a : Nat) (i : Int32) : Option Value := match h.1 a with
  | some (.inl (t', n, .inl f)) => if t' = t ∧ ¬ q_out i n then some (.int (f i.toNatClampNeg)) else none
  | none => match E.2 a with
    | some (ty', n, f) => if ty' = ty ∧ ¬ q_out i n then some (f i.toNatClampNeg) else none
    | none => none
  | _ => none
def q_gB (E : q_E) (h : q_H) (a : Nat) (i : Int32) : Option Value := match h.1 a with
  | none => (match E.2 a with
    | some (.byte, n, f) => if ¬ q_out i n then some (f i.toNatClampNeg) else none
    | _ => none)
  | some (.inl (4, n, .inl f)) => if ¬ q_out i n then some (.int (f i.toNatClampNeg)) else none
  | _ => q_gI E h 2 .boolean a i
def q_gL (h : q_H) (a : Nat) (i : Int32) : Option Value := match h.1 a with
  | some (.inl (t', n, .inr (.inl f))) => if t' = 1 ∧ ¬ q_out i n then some (.long (f i.toNatClampNeg)) else none
  | _ => none
def q_gQ (h : q_H) (a : Nat) (i : Int32) : Option Value := match h.1 a with
  | some (.inl (t', n, .inr (.inr (.inr (.inr f))))) => if (5 ≤ t' ∧ t' ≤ 8) ∧ ¬ q_out i n then some (va_rf (f i.toNatClampNeg)) else none
  | _ => none
def q_sI (h : q_H) (t : Nat) (a : Nat) (i : Int32) (x : Int32) : Option q_H := match h.1 a with
  | some (.inl (t', n, .inl f)) => if t' = t ∧ ¬ q_out i n then some (q_up h a (.inl (t, n, .inl (upd f i.toNatClampNeg x)))) else none
  | _ => none
def q_sL (h : q_H) (a : Nat) (i : Int32) (x : Int64) : Option q_H := match h.1 a with
  | some (.inl (t', n, .inr (.inl f))) => if t' = 1 ∧ ¬ q_out i n then some (q_up h a (.inl (1, n, .inr (.inl (vp_updL f i.toNatClampNeg x))))) else none
  | _ => none
/-- which objects an array of references takes -/
def q_ec : Nat → Nat
  | 5 => 5
  | 6 => 3
  | 7 => 6
  | _ => 99
def q_sQ (h : q_H) (a : Nat) (i : Int32) (v : Nat) : Option q_H := match h.1 a, h.1 v with
  | some (.inl (t', n, .inr (.inr (.inr (.inr f))))), some (.inr (ci, _)) => if (5 ≤ t' ∧ t' ≤ 7) ∧ ci = q_ec t' ∧ ¬ q_out i n then some (q_up h a (.inl (t', n, .inr (.inr (.inr (.inr (va_up f i.toNatClampNeg (some v)))))))) else none
  | _, _ => none
def q_gf (h : q_H) (a ci k : Nat) : Option Value := match h.1 a with
  | some (.inr (c, fs)) => if c = ci then fs[k]? else none
  | _ => none
/-- which string constant lies at a -/
def q_sx (E : q_E) (a : Nat) : Option Nat := (List.range 8).find? fun i => decide (E.1 (6 + 2 * i) = some (.ref a))
/-- a field: of an object in the heap, or of a string constant -/
def q_gE (E : q_E) (h : q_H) (a ci k : Nat) : Option Value := match h.1 a with
  | some (.inr (c, fs)) => if c = ci then fs[k]? else none
  | none => if ci = 9 then (match q_sx E a, k with
    | some i, 0 => E.1 (7 + 2 * i)
    | some _, 1 => some (.int 0)
    | _, _ => none) else none
  | _ => none
def q_pf (h : q_H) (a ci k : Nat) (v : Value) : Option q_H := match h.1 a with
  | some (.inr (c, fs)) => if c = ci ∧ k < fs.length then some (q_up h a (.inr (ci, fs.set k v))) else none
  | _ => none
def q_len (E : q_E) (h : q_H) (a : Nat) : Option Int32 := match h.1 a with
  | some (.inl (t, n, _)) => if t ≤ 8 then some (Int32.ofNat n) else none
  | none => match E.2 a with
    | some (_, n, _) => some (Int32.ofNat n)
    | none => none
  | _ => none
def q_iv (f : Nat → Value) : Nat → Int32 := fun k => match f k with
  | .int x => x
  | _ => 0
/-- the range of a copy -/
abbrev q_cr (sp dp n : Int32) (n0 n1 : Nat) : Prop := (¬ sp < 0 ∧ ¬ dp < 0 ∧ ¬ n < 0) ∧ sp.toNatClampNeg + n.toNatClampNeg ≤ n0 ∧ dp.toNatClampNeg + n.toNatClampNeg ≤ n1
def q_cpy (E : q_E) (h : q_H) (a0 : Nat) (sp : Int32) (a : Nat) (dp n : Int32) : Option q_H := match h.1 a0, h.1 a with
  | some (.inl (t0, n0, .inl f)), some (.inl (t1, n1, .inl g)) => if (t0 = t1 ∧ (t1 = 0 ∨ t1 = 2 ∨ t1 = 4)) ∧ q_cr sp dp n n0 n1 ∧ (t1 = 2 → ∀ i, i < n.toNatClampNeg → fits .boolean (.int (f (sp.toNatClampNeg + i))) = true) ∧ (t1 = 4 → ∀ i, i < n.toNatClampNeg → fits .byte (.int (f (sp.toNatClampNeg + i))) = true) then some (q_up h a (.inl (t1, n1, .inl (va_cpy f g sp.toNatClampNeg dp.toNatClampNeg n.toNatClampNeg)))) else none
  | some (.inl (t0, n0, .inr (.inl f))), some (.inl (t1, n1, .inr (.inl g))) => if (t0 = 1 ∧ t1 = 1) ∧ q_cr sp dp n n0 n1 then some (q_up h a (.inl (1, n1, .inr (.inl (va_cpy f g sp.toNatClampNeg dp.toNatClampNeg n.toNatClampNeg))))) else none
  | none, some (.inl (t1, n1, .inl g)) => (match E.2 a0 with
    | some (.int, n0, f) => if t1 = 0 ∧ q_cr sp dp n n0 n1 ∧ (∀ i, i < n.toNatClampNeg → f (sp.toNatClampNeg + i) = .int (q_iv f (sp.toNatClampNeg + i))) then some (q_up h a (.inl (0, n1, .inl (va_cpy (q_iv f) g sp.toNatClampNeg dp.toNatClampNeg n.toNatClampNeg)))) else none
    | some (.byte, n0, f) => if t1 = 4 ∧ q_cr sp dp n n0 n1 ∧ (∀ i, i < n.toNatClampNeg → f (sp.toNatClampNeg + i) = .int (q_iv f (sp.toNatClampNeg + i)) ∧ fits .byte (.int (q_iv f (sp.toNatClampNeg + i))) = true) then some (q_up h a (.inl (4, n1, .inl (va_cpy (q_iv f) g sp.toNatClampNeg dp.toNatClampNeg n.toNatClampNeg)))) else none
    | _ => none)
  | _, _ => none
def q_cat (st : List Value) : Nat := (st.map fun v => v.category).sum
def q_exp (vs : List Value) : List Value := vs.flatMap fun v => if v.category = 2 then [v, .null] else [v]
/-- a method's locals at its entry -/
def q_ent (M : q_M) (vs : List Value) : List Value := q_exp vs ++ List.replicate (M.2.2.1 - (q_exp vs).length) .null
/-- the fields of a new object -/
def q_df (ci : Nat) : List Value := (List.range (q_N ci)).map fun j => defaultValue (q_ty ci j)
/-- new arrays: which, and with what -/
def q_na : ArrayType → Option (Nat × FieldType)
  | .int => some (0, .int)
  | .long => some (1, .long)
  | .boolean => some (2, .boolean)
  | .char => some (3, .char)
  | .byte => some (4, .byte)
  | _ => none
def q_z : Nat → (Nat → Int32) ⊕ ((Nat → Int64) ⊕ ((Nat → UInt32) ⊕ ((Nat → UInt64) ⊕ (Nat → Option Nat))))
  | 1 => .inr (.inl fun _ => 0)
  | _ => .inl fun _ => 0
/-- new T[n][k]: the outer row, then the inner ones -/
def q_alm (h : q_H) (a N K : Nat) : q_H := (fun b => if b = a then some (.inl (8, N, .inr (.inr (.inr (.inr fun i => if i < N then some (a + 1 + i) else none))))) else if a < b ∧ b ≤ a + N then some (.inl (0, K, .inl fun _ => 0)) else h.1 b, some (a + 1 + N), h.2.2.1 + 1 + N, h.2.2.2 + N + N * K)
def q_cond (k : Jvm.ClassFile.Cond) (x y : Int32) : Bool := match k with
  | .eq => decide (x = y)
  | .ne => decide (¬ x = y)
  | .lt => decide (x < y)
  | .ge => decide (y ≤ x)
  | .gt => decide (y < x)
  | .le => decide (x ≤ y)
def q_if (b : Bool) (x y : Option q_S) : Option q_S := bif b then x else y
def q_br (b : Bool) (pc : Nat) (off : Int) (ls st : List Value) (h : q_H) : Option q_S := match q_tgt pc off with
  | some t => q_if b (q_nx t ls st h) (q_nx (pc + 3) ls st h)
  | none => none
def q_go (pc : Nat) (off : Int) (ls st : List Value) (h : q_H) : Option q_S := match q_tgt pc off with
  | some t => q_nx t ls st h
  | none => none

/-- 'throw new E()' at pc: the two instructions behind it -/
def q_thr (M : q_M) (pc ic : Nat) : Bool := (match decode M.2.1 (pc + 3), decode M.2.1 (pc + 4), decode M.2.1 (pc + 7) with
  | .ok (.dup, 1), .ok (.invokespecial k, 3), .ok (.athrow, 1) => Nat.beq k ic
  | _, _, _ => false)
/-- a method's owner: the class of what it is called on -/
def q_rc : Nat → Nat
  | 12 => 9
  | o => o
def q_call (E : q_E) (M : q_M) (k n : Nat) (M' : q_M) (st : List Value) (h : q_H) : Option q_S :=
  if q_hgt M' < q_hgt M ∧ n ≤ st.length then
    match k with
    | 0 => if q_cat (st.drop n) ≤ 8 ∧ (q_exp (st.take n).reverse).length ≤ M'.2.2.1 then some (.inr (.inl (M', 0, (st.take n).reverse, st.drop n))) else none
    | k' + 1 => match st.drop n with
      | .ref b :: rest => if q_cat rest ≤ 8 ∧ (q_exp (.ref b :: (st.take n).reverse)).length ≤ M'.2.2.1 then
          match k' with
          | 0 => (match h.1 b with
            | some (.inr (ci, _)) => if ci = q_rc (q_own M') ∧ ci < 10 then some (.inr (.inl (M', 1, .ref b :: (st.take n).reverse, rest))) else none
            | none => if q_own M' = 12 ∧ (q_sx E b).isSome = true then some (.inr (.inl (M', 1, .ref b :: (st.take n).reverse, rest))) else none
            | _ => none)
          | _ + 1 => some (.inr (.inl (M', 2, .ref b :: (st.take n).reverse, rest)))
        else none
      | _ => none
  else none
/-- a call of a method that StringBuilder has from its superclass, or of the superclass's own: on a StringBuilder -/
def q_callU (M : q_M) (n : Nat) (M' : q_M) (st : List Value) (h : q_H) : Option q_S :=
  if q_hgt M' < q_hgt M ∧ n ≤ st.length then
    match st.drop n with
    | .ref b :: rest => (match h.1 b with
      | some (.inr (8, _)) => if q_cat rest ≤ 8 ∧ (q_exp (.ref b :: (st.take n).reverse)).length ≤ M'.2.2.1 then some (.inr (.inl (M', 2, .ref b :: (st.take n).reverse, rest))) else none
      | _ => none)
    | _ => none
  else none
/-- a copy of an array of bytes -/
def q_cl1 (h : q_H) (a : Nat) : Option (Nat × (Nat → Int32)) := match h.1 a with
  | some (.inl (4, n, .inl f)) => some (n, f)
  | _ => none
def q_stepI (E : q_E) (M : q_M) (i : Instr) (len pc : Nat) (ls st : List Value) (h : q_H) : Option q_S := match i with
  | .iconst n => if len = 1 then q_nx (pc + 1) ls (.int (Int32.ofInt n) :: st) h else none
  | .bipush n => if len = 2 then q_nx (pc + 2) ls (.int (Int8.ofInt n).toInt32 :: st) h else none
  | .sipush n => if len = 3 then q_nx (pc + 3) ls (.int (Int16.ofInt n).toInt32 :: st) h else none
  | .lconst n => if len = 1 then q_nx (pc + 1) ls (.long (Int64.ofNat (n : Nat)) :: st) h else none
  | .ldc2_w ix => (match q_lk (q_ldl (q_own M)) ix with
    | some (x, _) => if len = 3 ∧ q_own M < 17 then q_nx (pc + 3) ls (.long x :: st) h else none
    | none => none)
  | .iload_n k => (match ls[(k : Nat)]? with
    | some (.int x) => if len = 1 then q_nx (pc + 1) ls (.int x :: st) h else none
    | _ => none)
  | .iload k => (match ls[k]? with
    | some (.int x) => if len = 2 then q_nx (pc + 2) ls (.int x :: st) h else none
    | _ => none)
  | .lload_n k => (match ls[(k : Nat)]? with
    | some (.long x) => if len = 1 then q_nx (pc + 1) ls (.long x :: st) h else none
    | _ => none)
  | .lload k => (match ls[k]? with
    | some (.long x) => if len = 2 then q_nx (pc + 2) ls (.long x :: st) h else none
    | _ => none)
  | .aload_n k => (match ls[(k : Nat)]? with
    | some (.ref x) => if len = 1 then q_nx (pc + 1) ls (.ref x :: st) h else none
    | _ => none)
  | .aload k => (match ls[k]? with
    | some (.ref x) => if len = 2 then q_nx (pc + 2) ls (.ref x :: st) h else none
    | _ => none)
  | .istore_n k => (match st with
    | .int x :: st' => if len = 1 ∧ (k : Nat) < ls.length then q_nx (pc + 1) (q_st1 ls (k : Nat) (.int x)) st' h else none
    | _ => none)
  | .istore k => (match st with
    | .int x :: st' => if len = 2 ∧ k < ls.length then q_nx (pc + 2) (q_st1 ls k (.int x)) st' h else none
    | _ => none)
  | .astore_n k => (match st with
    | .ref x :: st' => if len = 1 ∧ (k : Nat) < ls.length then q_nx (pc + 1) (q_st1 ls (k : Nat) (.ref x)) st' h else none
    | _ => none)
  | .astore k => (match st with
    | .ref x :: st' => if len = 2 ∧ k < ls.length then q_nx (pc + 2) (q_st1 ls k (.ref x)) st' h else none
    | _ => none)
  | .lstore_n k => (match st with
    | .long x :: st' => if len = 1 ∧ (k : Nat) + 1 < ls.length then q_nx (pc + 1) (q_st2 ls (k : Nat) (.long x)) st' h else none
    | _ => none)
  | .lstore k => (match st with
    | .long x :: st' => if len = 2 ∧ k + 1 < ls.length then q_nx (pc + 2) (q_st2 ls k (.long x)) st' h else none
    | _ => none)
  | .iinc k n => (match ls[k]? with
    | some (.int x) => if len = 3 then q_nx (pc + 3) (q_st1 ls k (.int (x + Int32.ofInt n))) st h else none
    | _ => none)
  | .iadd => (match st with
    | .int y :: .int x :: st' => if len = 1 then q_nx (pc + 1) ls (.int (x + y) :: st') h else none
    | _ => none)
  | .isub => (match st with
    | .int y :: .int x :: st' => if len = 1 then q_nx (pc + 1) ls (.int (x - y) :: st') h else none
    | _ => none)
  | .imul => (match st with
    | .int y :: .int x :: st' => if len = 1 then q_nx (pc + 1) ls (.int (x * y) :: st') h else none
    | _ => none)
  | .iand => (match st with
    | .int y :: .int x :: st' => if len = 1 then q_nx (pc + 1) ls (.int (x &&& y) :: st') h else none
    | _ => none)
  | .ior => (match st with
    | .int y :: .int x :: st' => if len = 1 then q_nx (pc + 1) ls (.int (x ||| y) :: st') h else none
    | _ => none)
  | .ishl => (match st with
    | .int y :: .int x :: st' => if len = 1 then q_nx (pc + 1) ls (.int (x <<< (y &&& 31)) :: st') h else none
    | _ => none)
  | .ishr => (match st with
    | .int y :: .int x :: st' => if len = 1 then q_nx (pc + 1) ls (.int (x >>> (y &&& 31)) :: st') h else none
    | _ => none)
  | .iushr => (match st with
    | .int y :: .int x :: st' => if len = 1 then q_nx (pc + 1) ls (.int (x.toUInt32 >>> (y.toUInt32 &&& Int32.toUInt32 31)).toInt32 :: st') h else none
    | _ => none)
  | .ineg => (match st with
    | .int x :: st' => if len = 1 then q_nx (pc + 1) ls (.int (-x) :: st') h else none
    | _ => none)
  | .lmul => (match st with
    | .long y :: .long x :: st' => if len = 1 then q_nx (pc + 1) ls (.long (x * y) :: st') h else none
    | _ => none)
  | .ladd => (match st with
    | .long y :: .long x :: st' => if len = 1 then q_nx (pc + 1) ls (.long (x + y) :: st') h else none
    | _ => none)
  | .ifnull _ => (match st with
    | .ref _ :: st' => if len = 3 then q_nx (pc + 3) ls st' h else none
    | _ => none)
  | .idiv => (match st with
    | .int y :: .int x :: st' => if len = 1 ∧ ¬ y = 0 then q_nx (pc + 1) ls (.int (x / y) :: st') h else none
    | _ => none)
  | .irem => (match st with
    | .int y :: .int x :: st' => if len = 1 ∧ ¬ y = 0 then q_nx (pc + 1) ls (.int (x - x / y * y) :: st') h else none
    | _ => none)
  | .land => (match st with
    | .long y :: .long x :: st' => if len = 1 then q_nx (pc + 1) ls (.long (x &&& y) :: st') h else none
    | _ => none)
  | .lor => (match st with
    | .long y :: .long x :: st' => if len = 1 then q_nx (pc + 1) ls (.long (x ||| y) :: st') h else none
    | _ => none)
  | .lxor => (match st with
    | .long y :: .long x :: st' => if len = 1 then q_nx (pc + 1) ls (.long (x ^^^ y) :: st') h else none
    | _ => none)
  | .lshl => (match st with
    | .int y :: .long x :: st' => if len = 1 then q_nx (pc + 1) ls (.long (x <<< (y.toInt64 &&& 63)) :: st') h else none
    | _ => none)
  | .lushr => (match st with
    | .int y :: .long x :: st' => if len = 1 then q_nx (pc + 1) ls (.long (x.toUInt64 >>> (y.toInt64.toUInt64 &&& Int64.toUInt64 63)).toInt64 :: st') h else none
    | _ => none)
  | .lcmp => (match st with
    | .long y :: .long x :: st' => if len = 1 then q_nx (pc + 1) ls (.int (lg_cmp x y) :: st') h else none
    | _ => none)
  | .i2l => (match st with
    | .int x :: st' => if len = 1 then q_nx (pc + 1) ls (.long x.toInt64 :: st') h else none
    | _ => none)
  | .i2c => (match st with
    | .int x :: st' => if len = 1 then q_nx (pc + 1) ls (.int (x.toUInt32 % 65536).toInt32 :: st') h else none
    | _ => none)
  | .i2b => (match st with
    | .int x :: st' => if len = 1 then q_nx (pc + 1) ls (.int x.toInt8.toInt32 :: st') h else none
    | _ => none)
  | .i2f => (match st with
    | .int x :: st' => if len = 1 then q_nx (pc + 1) ls (.float (FP.i2f x) :: st') h else none
    | _ => none)
  | .i2d => (match st with
    | .int x :: st' => if len = 1 then q_nx (pc + 1) ls (.double (FP.i2d x) :: st') h else none
    | _ => none)
  | .f2d => (match st with
    | .float x :: st' => if len = 1 ∧ (FP.f2d x &&& 0x7fffffffffffffff ≤ 0x7ff0000000000000) then q_nx (pc + 1) ls (.double (FP.f2d x) :: st') h else none
    | _ => none)
  | .fdiv => (match st with
    | .float y :: .float x :: st' => if len = 1 ∧ (FP.fdiv x y &&& 0x7fffffff ≤ 0x7f800000) then q_nx (pc + 1) ls (.float (FP.fdiv x y) :: st') h else none
    | _ => none)
  | .ddiv => (match st with
    | .double y :: .double x :: st' => if len = 1 ∧ (FP.ddiv x y &&& 0x7fffffffffffffff ≤ 0x7ff0000000000000) then q_nx (pc + 1) ls (.double (FP.ddiv x y) :: st') h else none
    | _ => none)
  | .fcmp op => (match st with
    | .float y :: .float x :: st' => if len = 1 then q_nx (pc + 1) ls (.int (Op.cmpValue (FP.fcmp x y) op) :: st') h else none
    | _ => none)
  | .dcmp op => (match st with
    | .double y :: .double x :: st' => if len = 1 then q_nx (pc + 1) ls (.int (Op.cmpValue (FP.dcmp x y) op) :: st') h else none
    | _ => none)
  | .fconst n => if len = 1 ∧ (n : Nat) = 0 then q_nx (pc + 1) ls (.float FP.fconst0 :: st) h else none
  | .dconst n => if len = 1 ∧ (n : Nat) = 0 then q_nx (pc + 1) ls (.double FP.dconst0 :: st) h else none
  | .fload k => (match ls[k]? with
    | some (.float x) => if len = 2 then q_nx (pc + 2) ls (.float x :: st) h else none
    | _ => none)
  | .dload k => (match ls[k]? with
    | some (.double x) => if len = 2 then q_nx (pc + 2) ls (.double x :: st) h else none
    | _ => none)
  | .fstore k => (match st with
    | .float x :: st' => if len = 2 ∧ k < ls.length then q_nx (pc + 2) (q_st1 ls k (.float x)) st' h else none
    | _ => none)
  | .dstore k => (match st with
    | .double x :: st' => if len = 2 ∧ k + 1 < ls.length then q_nx (pc + 2) (q_st2 ls k (.double x)) st' h else none
    | _ => none)
  | .ldc ix => (match q_lk (q_lst (q_own M)) ix with
    | some (i, _) => (match E.1 (6 + 2 * i) with
      | some v => if len = 2 ∧ q_own M < 17 then q_nx (pc + 2) ls (v :: st) h else none
      | none => none)
    | none => (match q_lk (q_ldi (q_own M)) ix with
      | some (x, _) => if len = 2 ∧ q_own M < 17 then q_nx (pc + 2) ls (.int x :: st) h else none
      | none => none))
  | .ldc_w ix => (match q_lk (q_lst (q_own M)) ix with
    | some (i, _) => (match E.1 (6 + 2 * i) with
      | some v => if len = 3 ∧ q_own M < 17 then q_nx (pc + 3) ls (v :: st) h else none
      | none => none)
    | none => none)
  | .aconst_null => if len = 1 then q_nx (pc + 1) ls (.null :: st) h else none
  | .ifnonnull off => (match st with
    | .ref _ :: st' => if len = 3 then q_go pc off ls st' h else none
    | _ => none)
  | .checkcast ix => (match st, q_lk (q_ckc (q_own M)) ix with
    | .ref a :: st', some _ => (match q_cl1 h a with
      | some _ => if len = 3 ∧ q_own M < 17 then q_nx (pc + 3) ls (.ref a :: st') h else none
      | none => none)
    | _, _ => none)
  | .pop => (match st with
    | v :: st' => if len = 1 ∧ v.category = 1 then q_nx (pc + 1) ls st' h else none
    | _ => none)
  | .dup => (match st with
    | v :: st' => if len = 1 ∧ v.category = 1 then q_nx (pc + 1) ls (v :: v :: st') h else none
    | _ => none)
  | .dup2 => (match st with
    | v :: w :: st' => if len = 1 ∧ v.category = 1 ∧ w.category = 1 then q_nx (pc + 1) ls (v :: w :: v :: w :: st') h else none
    | _ => none)
  | .ifCond k off => (match st with
    | .int x :: st' => if len = 3 then q_br (q_cond k x 0) pc off ls st' h else none
    | _ => none)
  | .if_icmp k off => (match st with
    | .int y :: .int x :: st' => if len = 3 then q_br (q_cond k x y) pc off ls st' h else none
    | _ => none)
  | .goto off => if len = 3 then q_go pc off ls st h else none
  | .tableswitch dflt lo hi offs => (match st with
    | .int x :: st' => if x.toInt < lo ∨ hi < x.toInt then q_go pc dflt ls st' h else (match offs[(x.toInt - lo).toNat]? with
      | some off => q_go pc off ls st' h
      | none => none)
    | _ => none)
  | .getfield ix => (match q_lk (q_fl (q_own M)) ix, st with
    | some (ci, k, _), .ref a :: st' => (match q_gE E h a ci k with
      | some v => if len = 3 ∧ q_own M < 17 then q_nx (pc + 3) ls (v :: st') h else none
      | none => none)
    | _, _ => none)
  | .putfield ix => (match q_lk (q_fl (q_own M)) ix, st with
    | some (ci, k, _), v :: .ref a :: st' => (match q_pf h a ci k v with
      | some h' => if (len = 3 ∧ q_own M < 17) ∧ narrow (q_ty ci k) v = v ∧ fits (q_ty ci k) v = true ∧ ((q_T ci k).2.2.2 = true → M.1.name = "<init>" ∧ q_cnm ci = q_nm (q_own M)) then q_nx (pc + 3) ls st' h' else none
      | none => none)
    | _, _ => none)
  | .getstatic ix => (match q_lk (q_stf (q_own M)) ix with
    | some (j, _) => (match E.1 j with
      | some v => if len = 3 ∧ q_own M < 17 then q_nx (pc + 3) ls (v :: st) h else none
      | none => none)
    | none => none)
  | .iaload => (match st with
    | .int i :: .ref a :: st' => (match q_gI E h 0 .int a i with
      | some v => if len = 1 then q_nx (pc + 1) ls (v :: st') h else none
      | none => none)
    | _ => none)
  | .baload => (match st with
    | .int i :: .ref a :: st' => (match q_gB E h a i with
      | some v => if len = 1 then q_nx (pc + 1) ls (v :: st') h else none
      | none => none)
    | _ => none)
  | .caload => (match st with
    | .int i :: .ref a :: st' => (match q_gI E h 3 .char a i with
      | some v => if len = 1 then q_nx (pc + 1) ls (v :: st') h else none
      | none => none)
    | _ => none)
  | .laload => (match st with
    | .int i :: .ref a :: st' => (match q_gL h a i with
      | some v => if len = 1 then q_nx (pc + 1) ls (v :: st') h else none
      | none => none)
    | _ => none)
  | .aaload => (match st with
    | .int i :: .ref a :: st' => (match q_gQ h a i with
      | some v => if len = 1 then q_nx (pc + 1) ls (v :: st') h else none
      | none => none)
    | _ => none)
  | .iastore => (match st with
    | .int x :: .int i :: .ref a :: st' => (match q_sI h 0 a i x with
      | some h' => if len = 1 then q_nx (pc + 1) ls st' h' else none
      | none => none)
    | _ => none)
  | .bastore => (match st with
    | .int x :: .int i :: .ref a :: st' => (match q_sI h 2 a i (vp_nar .boolean x) with
      | some h' => if len = 1 then q_nx (pc + 1) ls st' h' else none
      | none => none)
    | _ => none)
  | .castore => (match st with
    | .int x :: .int i :: .ref a :: st' => (match q_sI h 3 a i (vp_nar .char x) with
      | some h' => if len = 1 then q_nx (pc + 1) ls st' h' else none
      | none => none)
    | _ => none)
  | .lastore => (match st with
    | .long x :: .int i :: .ref a :: st' => (match q_sL h a i x with
      | some h' => if len = 1 then q_nx (pc + 1) ls st' h' else none
      | none => none)
    | _ => none)
  | .aastore => (match st with
    | .ref v :: .int i :: .ref a :: st' => (match q_sQ h a i v with
      | some h' => if len = 1 then q_nx (pc + 1) ls st' h' else none
      | none => none)
    | _ => none)
  | .arraylength => (match st with
    | .ref a :: st' => (match q_len E h a with
      | some n => if len = 1 then q_nx (pc + 1) ls (.int n :: st') h else none
      | none => none)
    | _ => none)
  | .newarray ty => (match st, h.2.1, q_na ty with
    | .int n :: st', some a, some (t, _) => if len = 2 ∧ ¬ n < 0 ∧ n.toNatClampNeg ≤ 1000000 then q_nx (pc + 2) ls (.ref a :: st') (q_al h a (.inl (t, n.toNatClampNeg, q_z t)) n.toNatClampNeg) else none
    | _, _, _ => none)
  | .anewarray ix => (match st, h.2.1, q_lk (q_anw (q_own M)) ix with
    | .int n :: st', some a, some (t, _, _) => if (len = 3 ∧ q_own M < 10) ∧ ¬ n < 0 ∧ n.toNatClampNeg ≤ 1000000 then q_nx (pc + 3) ls (.ref a :: st') (q_al h a (.inl (t, n.toNatClampNeg, .inr (.inr (.inr (.inr fun _ => none))))) n.toNatClampNeg) else none
    | _, _, _ => none)
  | .multianewarray ix d => (match st, h.2.1, q_lk (q_mna (q_own M)) ix with
    | .int k :: .int n :: st', some a, some _ => if ((len = 4 ∧ q_own M < 10) ∧ d = 2) ∧ (¬ n < 0 ∧ ¬ k < 0) ∧ n.toNatClampNeg ≤ 1000 ∧ k.toNatClampNeg ≤ 1000 then q_nx (pc + 4) ls (.ref a :: st') (q_alm h a n.toNatClampNeg k.toNatClampNeg) else none
    | _, _, _ => none)
  | .new ix => (match q_lk (q_new (q_own M)) ix with
    | some (ci, _, _, _) => (match h.2.1 with
      | some a => if len = 3 ∧ q_own M < 17 then q_nx (pc + 3) ls (.ref a :: st) (q_al h a (.inr (ci, q_df ci)) (q_N ci)) else none
      | none => none)
    | none => (match q_lk (q_exc (q_own M)) ix with
      | some (x, ic, _, _) => if ((len = 3 ∧ q_own M < 10) ∧ 7 ≤ q_hgt M) ∧ q_thr M pc ic = true ∧ q_hnd M = [] ∧ q_cat st ≤ 8 then some (.inr (.inr (.inr x, (h.1, h.2.1.map (· + 1), h.2.2.1 + 1, h.2.2.2 + 6)))) else none
      | none => none))
  | .invokestatic ix => (match q_lk (q_cal (q_own M)) ix with
    | some (k, n, M', _, _, _, _) => if len = 3 ∧ k = 0 then q_call E M 0 n M' st h else none
    | none => (match q_lk (q_acp (q_own M)) ix, st with
      | some _, .int n :: .int dp :: .ref a :: .int sp :: .ref a0 :: st' => (match q_cpy E h a0 sp a dp n with
        | some h' => if (len = 3 ∧ q_own M < 17) ∧ 1 ≤ q_hgt M ∧ q_cat st' ≤ 8 then q_nx (pc + 3) ls st' h' else none
        | none => none)
      | none, .int y :: .int x :: st' => (match q_lk (q_mth (q_own M)) ix with
        | some (j, _) => if (len = 3 ∧ q_own M < 17) ∧ 1 ≤ q_hgt M ∧ q_cat st' ≤ 8 then q_nx (pc + 3) ls (.int (bif Nat.beq j 0 then (if x < y then y else x) else (if y < x then y else x)) :: st') h else none
        | none => none)
      | _, _ => none))
  | .invokevirtual ix => (match q_lk (q_cal (q_own M)) ix with
    | some (k, n, M', _, _, _, _) => if len = 3 ∧ k = 1 then q_call E M 1 n M' st h else none
    | none => (match q_lk (q_cav (q_own M)) ix with
      | some (k, n, _, M', _, _, _, _, _, _) => if (len = 3 ∧ k = 3) ∧ q_own M < 17 then q_callU M n M' st h else none
      | none => (match st, h.2.1, q_lk (q_cln (q_own M)) ix with
        | .ref a :: st', some q, some _ => (match q_cl1 h a with
          | some (n, g) => if ((len = 3 ∧ q_own M < 17) ∧ 1 ≤ q_hgt M ∧ q_cat st' ≤ 8) ∧ ∀ i, i < n → fits .byte (.int (g i)) = true then q_nx (pc + 3) ls (.ref q :: st') (q_al h q (.inl (4, n, .inl g)) n) else none
          | none => none)
        | _, _, _ => none)))
  | .invokespecial ix => (match q_lk (q_cal (q_own M)) ix with
    | some (k, n, M', _, _, _, _) => if len = 3 ∧ k = 2 then q_call E M 2 n M' st h else none
    | none => (match q_lk (q_cav (q_own M)) ix with
      | some (k, n, _, M', _, _, _, _, _, _) => if (len = 3 ∧ k = 4) ∧ q_own M < 17 then q_callU M n M' st h else none
      | none => (match q_lk (q_obi (q_own M)) ix, st with
        | some _, .ref _ :: st' => if (len = 3 ∧ q_own M < 17) ∧ 1 ≤ q_hgt M ∧ q_cat st' ≤ 8 then q_nx (pc + 3) ls st' h else none
        | _, _ => none)))
  | .ireturn => (match st, q_ret M with
    | [.int v], some ty => if len = 1 ∧ narrow ty (.int v) = .int v then some (.inr (.inr (.inl (some (.int v)), h))) else none
    | _, _ => none)
  | .lreturn => (match st, q_ret M with
    | [.long v], some .long => if len = 1 then some (.inr (.inr (.inl (some (.long v)), h))) else none
    | _, _ => none)
  | .freturn => (match st, q_ret M with
    | [.float v], some .float => if len = 1 then some (.inr (.inr (.inl (some (.float v)), h))) else none
    | _, _ => none)
  | .dreturn => (match st, q_ret M with
    | [.double v], some .double => if len = 1 then some (.inr (.inr (.inl (some (.double v)), h))) else none
    | _, _ => none)
  | .areturn => (match st, q_ret M with
    | [.ref v], some (.object _) => if len = 1 then some (.inr (.inr (.inl (some (.ref v)), h))) else none
    | [.ref v], some (.array _) => if len = 1 then some (.inr (.inr (.inl (some (.ref v)), h))) else none
    | _, _ => none)
  | .return_ => (match st, q_ret M with
    | [], none => if len = 1 then some (.inr (.inr (.inl none, h))) else none
    | _, _ => none)
  | _ => none
def q_step (E : q_E) (M : q_M) (pc : Nat) (ls st : List Value) (h : q_H) : Option q_S := match decode M.2.1 pc with
  | .ok (i, len) => q_stepI E M i len pc ls st h
  | .error _ => none
def q_lk' (l : List (String × Nat)) (x : String) : Bool := l.any fun q => q.1 == x
/-- pairs of classes said not castable -/
def q_ncb (x nm : String) : Bool := (x == "java/lang/IllegalArgumentException" && nm == "java/lang/IndexOutOfBoundsException") || (x == "java/util/NoSuchElementException" && nm == "java/lang/IndexOutOfBoundsException")
def q_hd1 (o : Nat) (x : String) (pc : Nat) : List (Nat × Nat × Nat × Nat) → Option Nat
  | [] => none
  | (a, b, hp, ci) :: t => if a ≤ pc ∧ pc < b then (match q_lk (q_hc o) ci with
      | some (nm, _) => if nm = x then (if (q_lk' q_cst x) = true ∧ ¬ ci = 0 then some hp else none) else (if q_ncb x nm = true ∧ ¬ ci = 0 then q_hd1 o x pc t else none)
      | none => none) else q_hd1 o x pc t
/-- a thrown x at pc: caught (where), not caught, or not known -/
def q_hd (M : q_M) (x : String) (pc : Nat) : List (Nat × Nat × Nat × Nat) → Option (Option Nat)
  | [] => some none
  | l => if q_own M = 9 then (match q_hd1 9 x pc l with
    | some hp => some (some hp)
    | none => none) else none
/-- a handler's first instruction puts what was thrown away -/
def q_hst (M : q_M) (hp : Nat) (ls : List Value) : Option (Nat × List Value) := match decode M.2.1 hp with
  | .ok (.astore_n k, 1) => if (k : Nat) < ls.length then some (hp + 1, q_st1 ls (k : Nat) .null) else none
  | .ok (.astore k, 2) => if k < ls.length then some (hp + 2, q_st1 ls k .null) else none
  | _ => none
abbrev q_fn : Type := q_M → Nat → List Value → List Value → q_H → Option (q_R × q_H)
/-- what follows a call -/
def q_bk (run : q_fn) (M : q_M) (pc : Nat) (ls : List Value) (j : Nat) (rest : List Value) (y : Option (q_R × q_H)) : Option (q_R × q_H) := match y with
  | none => none
  | some (.inl v, h') => run M (pc + 3) ls (v.toList ++ rest) h'
  | some (.inr x, h') => if j = 2 then none else match q_hd M x pc (q_hnd M) with
    | none => none
    | some none => some (.inr x, h')
    | some (some hp) => match q_hst M hp ls with
      | none => none
      | some (pc', ls') => run M pc' ls' [] h'
/-- what follows a step -/
def q_k (run : q_fn) (M : q_M) (pc : Nat) (ls : List Value) (h : q_H) (x : q_S) : Option (q_R × q_H) := match x with
  | .inl f => run M f.1 f.2.1 f.2.2.1 f.2.2.2
  | .inr (.inr r) => some r
  | .inr (.inl c) => q_bk run M pc ls c.2.1 c.2.2.2 (run c.1 0 (q_ent c.1 c.2.2.1) [] h)
def q_run (E : q_E) : Nat → q_fn
  | 0 => fun _ _ _ _ _ => none
  | n + 1 => fun M pc ls st h => (q_step E M pc ls st h).bind (q_k (q_run E n) M pc ls h)
def q_le (f g : q_fn) : Prop := ∀ M pc ls st h r, f M pc ls st h = some r → g M pc ls st h = some r
theorem q_bk_mono {f g : q_fn} (hfg : q_le f g) {M : q_M} {pc : Nat} {ls rest : List Value} {j : Nat} {y : Option (q_R × q_H)} {r : q_R × q_H} (h : q_bk f M pc ls j rest y = some r) : q_bk g M pc ls j rest y = some r := by
  unfold q_bk at h ⊢
  match y, h with
  | some (.inl v, h'), h => exact hfg _ _ _ _ _ _ h
  | some (.inr x, h'), h =>
    dsimp only at h ⊢
    by_cases hj : j = 2
    · rw [if_pos hj] at h; cases h
    rw [if_neg hj] at h ⊢
    cases e : q_hd M x pc (q_hnd M) with
    | none => rw [e] at h; cases h
    | some o =>
      rw [e] at h
      cases o with
      | none => exact h
      | some hp =>
        dsimp only at h ⊢
        cases e2 : q_hst M hp ls with
        | none => rw [e2] at h; cases h
        | some q => rw [e2] at h; exact hfg _ _ _ _ _ _ h
theorem q_k_mono {f g : q_fn} (hfg : q_le f g) {M : q_M} {pc : Nat} {ls : List Value} {h : q_H} {x : q_S} {r : q_R × q_H} (hx : q_k f M pc ls h x = some r) : q_k g M pc ls h x = some r := by
  unfold q_k at hx ⊢
  match x, hx with
  | .inl f', hx => exact hfg _ _ _ _ _ _ hx
  | .inr (.inr r'), hx => exact hx
  | .inr (.inl c), hx =>
    dsimp only at hx ⊢
    cases e : f c.1 0 (q_ent c.1 c.2.2.1) [] h with
    | none => rw [e] at hx; cases hx
    | some y => rw [e] at hx; rw [hfg _ _ _ _ _ _ e]; exact q_bk_mono hfg hx
theorem q_run_le (E : q_E) : ∀ n, q_le (q_run E n) (q_run E (n + 1))
  | 0 => fun _ _ _ _ _ _ h => by cases h
  | n + 1 => fun M pc ls st h r hr => by
    have hr : (q_step E M pc ls st h).bind (q_k (q_run E n) M pc ls h) = some r := hr
    show (q_step E M pc ls st h).bind (q_k (q_run E (n + 1)) M pc ls h) = some r
    cases e : q_step E M pc ls st h with
    | none => rw [e] at hr; cases hr
    | some x => rw [e] at hr; exact q_k_mono (q_run_le E n) hr
theorem q_run_up (E : q_E) (n k : Nat) : q_le (q_run E n) (q_run E (n + k)) := by
  induction k with
  | zero => exact fun _ _ _ _ _ _ h => h
  | succ k ih => exact fun M pc ls st h r hr => q_run_le E (n + k) M pc ls st h r (ih M pc ls st h r hr)
theorem q_run_one {E : q_E} {n k : Nat} {M : q_M} {pc : Nat} {ls st : List Value} {h : q_H} {r r' : q_R × q_H} (a : q_run E n M pc ls st h = some r) (b : q_run E k M pc ls st h = some r') : r = r' := by
  have a' := q_run_up E n k _ _ _ _ _ _ a
  have b' := q_run_up E k n _ _ _ _ _ _ b
  rw [Nat.add_comm] at b'
  exact Option.some.inj (a'.symm.trans b')
/-- what a method's frame comes to, if it ends -/
noncomputable def q_ex (E : q_E) : q_fn := fun M pc ls st h =>
  @dite _ (∃ n, q_run E n M pc ls st h ≠ none) (Classical.propDecidable _) (fun x => q_run E (Classical.choose x) M pc ls st h) (fun _ => none)
theorem q_ex_of {E : q_E} {n : Nat} {M : q_M} {pc : Nat} {ls st : List Value} {h : q_H} {r : q_R × q_H} (a : q_run E n M pc ls st h = some r) : q_ex E M pc ls st h = some r := by
  have x : ∃ n, q_run E n M pc ls st h ≠ none := ⟨n, by rw [a]; exact fun h => by cases h⟩
  unfold q_ex
  rw [dif_pos x]
  have y := Classical.choose_spec x
  cases e : q_run E (Classical.choose x) M pc ls st h with
  | none => exact absurd e y
  | some r' => rw [q_run_one a e]
theorem q_ex_run {E : q_E} {M : q_M} {pc : Nat} {ls st : List Value} {h : q_H} {r : q_R × q_H} (a : q_ex E M pc ls st h = some r) : ∃ n, q_run E n M pc ls st h = some r := by
  unfold q_ex at a
  by_cases x : ∃ n, q_run E n M pc ls st h ≠ none
  · rw [dif_pos x] at a
    exact ⟨_, a⟩
  · rw [dif_neg x] at a
    cases a
theorem q_le_ex (E : q_E) (n : Nat) : q_le (q_run E n) (q_ex E) := fun _ _ _ _ _ _ h => q_ex_of h
theorem q_ex_step (E : q_E) (M : q_M) (pc : Nat) (ls st : List Value) (h : q_H) : q_ex E M pc ls st h = (q_step E M pc ls st h).bind (q_k (q_ex E) M pc ls h) := by
  apply Option.ext
  intro r
  constructor
  · intro a
    obtain ⟨n, a⟩ := q_ex_run a
    match n, a with
    | n + 1, a =>
      have a : (q_step E M pc ls st h).bind (q_k (q_run E n) M pc ls h) = some r := a
      cases e : q_step E M pc ls st h with
      | none => rw [e] at a; cases a
      | some x => rw [e] at a; exact q_k_mono (q_le_ex E n) a
  · intro a
    cases e : q_step E M pc ls st h with
    | none => rw [e] at a; cases a
    | some x =>
      rw [e] at a
      have a : q_k (q_ex E) M pc ls h x = some r := a
      have key : ∃ n, q_k (q_run E n) M pc ls h x = some r := by
        match x, a with
        | .inl f, a => exact q_ex_run a
        | .inr (.inr r'), a => exact ⟨0, a⟩
        | .inr (.inl c), a =>
          have a : q_bk (q_ex E) M pc ls c.2.1 c.2.2.2 (q_ex E c.1 0 (q_ent c.1 c.2.2.1) [] h) = some r := a
          cases e1 : q_ex E c.1 0 (q_ent c.1 c.2.2.1) [] h with
          | none => rw [e1] at a; cases a
          | some y =>
            rw [e1] at a
            obtain ⟨n1, h1⟩ := q_ex_run e1
            have h2 : ∃ n2, q_bk (q_run E n2) M pc ls c.2.1 c.2.2.2 (some y) = some r := by
              match y, a with
              | (.inl v, h'), a => exact q_ex_run (a : q_ex E M (pc + 3) ls (v.toList ++ c.2.2.2) h' = some r)
              | (.inr z, h'), a =>
                unfold q_bk at a ⊢
                dsimp only at a ⊢
                by_cases hj : c.2.1 = 2
                · rw [if_pos hj] at a; cases a
                simp only [if_neg hj] at a ⊢
                cases e2 : q_hd M z pc (q_hnd M) with
                | none => rw [e2] at a; cases a
                | some o =>
                  rw [e2] at a
                  cases o with
                  | none => exact ⟨0, a⟩
                  | some hp =>
                    dsimp only at a ⊢
                    cases e3 : q_hst M hp ls with
                    | none => rw [e3] at a; cases a
                    | some q => rw [e3] at a; exact q_ex_run a
            obtain ⟨n2, h2⟩ := h2
            refine ⟨n1 + n2, ?_⟩
            show q_bk (q_run E (n1 + n2)) M pc ls c.2.1 c.2.2.2 (q_run E (n1 + n2) c.1 0 (q_ent c.1 c.2.2.1) [] h) = some r
            rw [q_run_up E n1 n2 _ _ _ _ _ _ h1]
            refine q_bk_mono ?_ h2
            rw [Nat.add_comm]
            exact q_run_up E n2 n1
      obtain ⟨n, hn⟩ := key
      refine q_ex_of (n := n + 1) ?_
      show (q_step E M pc ls st h).bind (q_k (q_run E n) M pc ls h) = some r
      rw [e]
      exact hn
