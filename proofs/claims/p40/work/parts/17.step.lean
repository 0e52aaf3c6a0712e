/-! steps of the abstract machine, as equations of what a frame comes to; ints are zi z -/
abbrev zi (z : Int) : Int32 := Int32.ofInt z
/-- a call's result -/
noncomputable def q_cl (E : q_E) (M : q_M) (vs : List Value) (h : q_H) : Option (q_R × q_H) := q_ex E M 0 (q_ent M vs) [] h
theorem zi_add (x y : Int) : zi x + zi y = zi (x + y) := (Int32.ofInt_add x y).symm
theorem zi_sub (x y : Int) : zi x - zi y = zi (x - y) := (Int32.ofInt_sub x y).symm
theorem zi_mul (x y : Int) : zi x * zi y = zi (x * y) := (Int32.ofInt_mul x y).symm
theorem zi_toInt {x : Int} (h1 : -2147483648 ≤ x) (h2 : x < 2147483648) : (zi x).toInt = x := Int32.toInt_ofInt_of_le (by simpa using h1) (by simpa using h2)
theorem zi_lt {x y : Int} (h1 : -2147483648 ≤ x) (h2 : x < 2147483648) (h3 : -2147483648 ≤ y) (h4 : y < 2147483648) : zi x < zi y ↔ x < y := by
  rw [Int32.lt_iff_toInt_lt, zi_toInt h1 h2, zi_toInt h3 h4]
theorem zi_le {x y : Int} (h1 : -2147483648 ≤ x) (h2 : x < 2147483648) (h3 : -2147483648 ≤ y) (h4 : y < 2147483648) : zi x ≤ zi y ↔ x ≤ y := by
  rw [Int32.le_iff_toInt_le, zi_toInt h1 h2, zi_toInt h3 h4]
theorem zi_eq {x y : Int} (h1 : -2147483648 ≤ x) (h2 : x < 2147483648) (h3 : -2147483648 ≤ y) (h4 : y < 2147483648) : zi x = zi y ↔ x = y := by
  rw [← Int32.toInt_inj, zi_toInt h1 h2, zi_toInt h3 h4]
theorem zi_of (x : Int32) : ∃ z : Int, x = zi z ∧ -2147483648 ≤ z ∧ z < 2147483648 := ⟨x.toInt, (Int32.ofInt_toInt x).symm, by have := Int32.le_toInt x; simpa using this, by have := Int32.toInt_lt x; simpa using this⟩
theorem zi_nat {z : Int} (h1 : 0 ≤ z) (h2 : z < 2147483648) : (zi z).toNatClampNeg = z.toNat := by
  show (zi z).toInt.toNat = z.toNat
  rw [zi_toInt (by omega) h2]
theorem zi_in {z : Int} {n : Nat} (h1 : 0 ≤ z) (h2 : z < n) (hn : n < 2147483648) : ¬ q_out (zi z) n := by
  intro h
  rcases h with h | h
  · rw [show (0 : Int32) = zi 0 from rfl, zi_lt (by omega) (by omega) (by omega) (by omega)] at h
    omega
  · rw [zi_nat h1 (by omega)] at h
    omega
theorem zi_div {x y : Int} (h1 : 0 ≤ x) (h2 : x < 2147483648) (h3 : 0 < y) (h4 : y < 2147483648) : zi x / zi y = zi (x / y) := by
  obtain ⟨a, rfl⟩ := Int.eq_ofNat_of_zero_le h1
  obtain ⟨b, rfl⟩ := Int.eq_ofNat_of_zero_le (Int.le_of_lt h3)
  have := pk_div (a := a) (d := b) (by omega) (by omega) (by omega)
  exact this
theorem zi_rem {x y : Int} (h1 : 0 ≤ x) (h2 : x < 2147483648) (h3 : 0 < y) (h4 : y < 2147483648) : zi x - zi x / zi y * zi y = zi (x % y) := by
  rw [zi_div h1 h2 h3 h4, zi_mul, zi_sub, show x - x / y * y = x % y by rw [Int.emod_def, Int.mul_comm y]]
theorem zi_ne0 {y : Int} (h3 : 0 < y) (h4 : y < 2147483648) : ¬ zi y = 0 := by
  rw [show (0 : Int32) = zi 0 from rfl, zi_eq (by omega) (by omega) (by omega) (by omega)]
  omega
section QXX
variable {E : q_E} {M M' : q_M} {pc pc' t len k : Nat} {i : Instr} {ls ls' st st' vs : List Value} {h h' : q_H} {x y z : Int} {v w : Value} {a c0 : Nat} {r : Option (q_R × q_H)}
theorem x_nx {f : q_F} (hs : q_step E M pc ls st h = some (.inl f)) : q_ex E M pc ls st h = q_ex E M f.1 f.2.1 f.2.2.1 f.2.2.2 := by
  rw [q_ex_step, hs]
  rfl
theorem x_st (hd : decode M.2.1 pc = .ok (i, len)) : q_step E M pc ls st h = q_stepI E M i len pc ls st h := by
  unfold q_step
  rw [hd]
theorem x_go {f : q_F} (hd : decode M.2.1 pc = .ok (i, len)) (hs : q_stepI E M i len pc ls st h = some (.inl f)) : q_ex E M pc ls st h = q_ex E M f.1 f.2.1 f.2.2.1 f.2.2.2 := x_nx ((x_st hd).trans hs)

theorem x_iconst (pc' : Nat) {n : Int} (hd : decode M.2.1 pc = .ok (.iconst n, 1)) (hp : pc + 1 = pc') : q_ex E M pc ls st h = q_ex E M pc' ls (.int (zi n) :: st) h := by
  subst hp
  exact x_go (f := (pc + 1, ls, .int (zi n) :: st, h)) hd rfl
theorem x_bipush (pc' : Nat) {n : Int} (hd : decode M.2.1 pc = .ok (.bipush n, 2)) (hp : pc + 2 = pc') (hn : (Int8.ofInt n).toInt32 = zi n) : q_ex E M pc ls st h = q_ex E M pc' ls (.int (zi n) :: st) h := by
  subst hp
  exact x_go (f := (pc + 2, ls, .int (zi n) :: st, h)) hd (by rw [← hn]; rfl)
theorem x_sipush (pc' : Nat) {n : Int} (hd : decode M.2.1 pc = .ok (.sipush n, 3)) (hp : pc + 3 = pc') (hn : (Int16.ofInt n).toInt32 = zi n) : q_ex E M pc ls st h = q_ex E M pc' ls (.int (zi n) :: st) h := by
  subst hp
  exact x_go (f := (pc + 3, ls, .int (zi n) :: st, h)) hd (by rw [← hn]; rfl)
theorem x_lconst (pc' : Nat) {n : Fin 2} (hd : decode M.2.1 pc = .ok (.lconst n, 1)) (hp : pc + 1 = pc') : q_ex E M pc ls st h = q_ex E M pc' ls (.long (Int64.ofNat (n : Nat)) :: st) h := by
  subst hp
  exact x_go (f := (pc + 1, ls, .long (Int64.ofNat (n : Nat)) :: st, h)) hd rfl
theorem x_iload_n (pc' : Nat) {k : Fin 4} {q : Int32} (hd : decode M.2.1 pc = .ok (.iload_n k, 1)) (hp : pc + 1 = pc') (hk : ls[(k : Nat)]? = some (.int q)) : q_ex E M pc ls st h = q_ex E M pc' ls (.int q :: st) h := by
  subst hp
  exact x_go (f := (pc + 1, ls, .int q :: st, h)) hd (by simp only [q_stepI, hk, if_pos]; rfl)
theorem x_iload (pc' : Nat) {k : Nat} {q : Int32} (hd : decode M.2.1 pc = .ok (.iload k, 2)) (hp : pc + 2 = pc') (hk : ls[k]? = some (.int q)) : q_ex E M pc ls st h = q_ex E M pc' ls (.int q :: st) h := by
  subst hp
  exact x_go (f := (pc + 2, ls, .int q :: st, h)) hd (by simp only [q_stepI, hk, if_pos]; rfl)
theorem x_lload_n (pc' : Nat) {k : Fin 4} {q : Int64} (hd : decode M.2.1 pc = .ok (.lload_n k, 1)) (hp : pc + 1 = pc') (hk : ls[(k : Nat)]? = some (.long q)) : q_ex E M pc ls st h = q_ex E M pc' ls (.long q :: st) h := by
  subst hp
  exact x_go (f := (pc + 1, ls, .long q :: st, h)) hd (by simp only [q_stepI, hk, if_pos]; rfl)
theorem x_lload (pc' : Nat) {k : Nat} {q : Int64} (hd : decode M.2.1 pc = .ok (.lload k, 2)) (hp : pc + 2 = pc') (hk : ls[k]? = some (.long q)) : q_ex E M pc ls st h = q_ex E M pc' ls (.long q :: st) h := by
  subst hp
  exact x_go (f := (pc + 2, ls, .long q :: st, h)) hd (by simp only [q_stepI, hk, if_pos]; rfl)
theorem x_aload_n (pc' : Nat) {k : Fin 4} {q : Nat} (hd : decode M.2.1 pc = .ok (.aload_n k, 1)) (hp : pc + 1 = pc') (hk : ls[(k : Nat)]? = some (.ref q)) : q_ex E M pc ls st h = q_ex E M pc' ls (.ref q :: st) h := by
  subst hp
  exact x_go (f := (pc + 1, ls, .ref q :: st, h)) hd (by simp only [q_stepI, hk, if_pos]; rfl)
theorem x_aload (pc' : Nat) {k : Nat} {q : Nat} (hd : decode M.2.1 pc = .ok (.aload k, 2)) (hp : pc + 2 = pc') (hk : ls[k]? = some (.ref q)) : q_ex E M pc ls st h = q_ex E M pc' ls (.ref q :: st) h := by
  subst hp
  exact x_go (f := (pc + 2, ls, .ref q :: st, h)) hd (by simp only [q_stepI, hk, if_pos]; rfl)
theorem x_istore_n (pc' : Nat) {k : Fin 4} {q : Int32} (hd : decode M.2.1 pc = .ok (.istore_n k, 1)) (hp : pc + 1 = pc') (hk : (k : Nat) < ls.length) : q_ex E M pc ls (.int q :: st) h = q_ex E M pc' (q_st1 ls (k : Nat) (.int q)) st h := by
  subst hp
  exact x_go (f := (pc + 1, q_st1 ls (k : Nat) (.int q), st, h)) hd (by simp only [q_stepI]; rw [if_pos ⟨trivial, hk⟩]; rfl)
theorem x_istore (pc' : Nat) {k : Nat} {q : Int32} (hd : decode M.2.1 pc = .ok (.istore k, 2)) (hp : pc + 2 = pc') (hk : k < ls.length) : q_ex E M pc ls (.int q :: st) h = q_ex E M pc' (q_st1 ls k (.int q)) st h := by
  subst hp
  exact x_go (f := (pc + 2, q_st1 ls k (.int q), st, h)) hd (by simp only [q_stepI]; rw [if_pos ⟨trivial, hk⟩]; rfl)
theorem x_astore_n (pc' : Nat) {k : Fin 4} {q : Nat} (hd : decode M.2.1 pc = .ok (.astore_n k, 1)) (hp : pc + 1 = pc') (hk : (k : Nat) < ls.length) : q_ex E M pc ls (.ref q :: st) h = q_ex E M pc' (q_st1 ls (k : Nat) (.ref q)) st h := by
  subst hp
  exact x_go (f := (pc + 1, q_st1 ls (k : Nat) (.ref q), st, h)) hd (by simp only [q_stepI]; rw [if_pos ⟨trivial, hk⟩]; rfl)
theorem x_astore (pc' : Nat) {k : Nat} {q : Nat} (hd : decode M.2.1 pc = .ok (.astore k, 2)) (hp : pc + 2 = pc') (hk : k < ls.length) : q_ex E M pc ls (.ref q :: st) h = q_ex E M pc' (q_st1 ls k (.ref q)) st h := by
  subst hp
  exact x_go (f := (pc + 2, q_st1 ls k (.ref q), st, h)) hd (by simp only [q_stepI]; rw [if_pos ⟨trivial, hk⟩]; rfl)
theorem x_lstore_n (pc' : Nat) {k : Fin 4} {q : Int64} (hd : decode M.2.1 pc = .ok (.lstore_n k, 1)) (hp : pc + 1 = pc') (hk : (k : Nat) + 1 < ls.length) : q_ex E M pc ls (.long q :: st) h = q_ex E M pc' (q_st2 ls (k : Nat) (.long q)) st h := by
  subst hp
  exact x_go (f := (pc + 1, q_st2 ls (k : Nat) (.long q), st, h)) hd (by simp only [q_stepI]; rw [if_pos ⟨trivial, hk⟩]; rfl)
theorem x_lstore (pc' : Nat) {k : Nat} {q : Int64} (hd : decode M.2.1 pc = .ok (.lstore k, 2)) (hp : pc + 2 = pc') (hk : k + 1 < ls.length) : q_ex E M pc ls (.long q :: st) h = q_ex E M pc' (q_st2 ls k (.long q)) st h := by
  subst hp
  exact x_go (f := (pc + 2, q_st2 ls k (.long q), st, h)) hd (by simp only [q_stepI]; rw [if_pos ⟨trivial, hk⟩]; rfl)
theorem x_iinc (pc' : Nat) {k : Nat} {n : Int} (hd : decode M.2.1 pc = .ok (.iinc k n, 3)) (hp : pc + 3 = pc') (hk : ls[k]? = some (.int (zi x))) : q_ex E M pc ls st h = q_ex E M pc' (q_st1 ls k (.int (zi (x + n)))) st h := by
  subst hp
  exact x_go (f := (pc + 3, q_st1 ls k (.int (zi (x + n))), st, h)) hd (by rw [← zi_add]; simp only [q_stepI, hk, if_pos]; rfl)
theorem x_iadd (pc' : Nat) (hd : decode M.2.1 pc = .ok (.iadd, 1)) (hp : pc + 1 = pc') : q_ex E M pc ls (.int (zi y) :: .int (zi x) :: st) h = q_ex E M pc' ls (.int (zi (x + y)) :: st) h := by
  subst hp
  exact x_go (f := (pc + 1, ls, .int (zi (x + y)) :: st, h)) hd (by rw [← zi_add]; rfl)
theorem x_isub (pc' : Nat) (hd : decode M.2.1 pc = .ok (.isub, 1)) (hp : pc + 1 = pc') : q_ex E M pc ls (.int (zi y) :: .int (zi x) :: st) h = q_ex E M pc' ls (.int (zi (x - y)) :: st) h := by
  subst hp
  exact x_go (f := (pc + 1, ls, .int (zi (x - y)) :: st, h)) hd (by rw [← zi_sub]; rfl)
theorem x_imul (pc' : Nat) (hd : decode M.2.1 pc = .ok (.imul, 1)) (hp : pc + 1 = pc') : q_ex E M pc ls (.int (zi y) :: .int (zi x) :: st) h = q_ex E M pc' ls (.int (zi (x * y)) :: st) h := by
  subst hp
  exact x_go (f := (pc + 1, ls, .int (zi (x * y)) :: st, h)) hd (by rw [← zi_mul]; rfl)
theorem x_idiv (pc' : Nat) (hd : decode M.2.1 pc = .ok (.idiv, 1)) (hp : pc + 1 = pc') (h1 : 0 ≤ x) (h2 : x < 2147483648) (h3 : 0 < y) (h4 : y < 2147483648) : q_ex E M pc ls (.int (zi y) :: .int (zi x) :: st) h = q_ex E M pc' ls (.int (zi (x / y)) :: st) h := by
  subst hp
  exact x_go (f := (pc + 1, ls, .int (zi (x / y)) :: st, h)) hd (by rw [← zi_div h1 h2 h3 h4]; simp only [q_stepI]; rw [if_pos ⟨trivial, zi_ne0 h3 h4⟩]; rfl)
theorem x_irem (pc' : Nat) (hd : decode M.2.1 pc = .ok (.irem, 1)) (hp : pc + 1 = pc') (h1 : 0 ≤ x) (h2 : x < 2147483648) (h3 : 0 < y) (h4 : y < 2147483648) : q_ex E M pc ls (.int (zi y) :: .int (zi x) :: st) h = q_ex E M pc' ls (.int (zi (x % y)) :: st) h := by
  subst hp
  exact x_go (f := (pc + 1, ls, .int (zi (x % y)) :: st, h)) hd (by rw [← zi_rem h1 h2 h3 h4]; simp only [q_stepI]; rw [if_pos ⟨trivial, zi_ne0 h3 h4⟩]; rfl)
theorem x_iand (pc' : Nat) {p q : Int32} (hd : decode M.2.1 pc = .ok (.iand, 1)) (hp : pc + 1 = pc') : q_ex E M pc ls (.int q :: .int p :: st) h = q_ex E M pc' ls (.int (p &&& q) :: st) h := by
  subst hp
  exact x_go (f := (pc + 1, ls, .int (p &&& q) :: st, h)) hd rfl
theorem x_ior (pc' : Nat) {p q : Int32} (hd : decode M.2.1 pc = .ok (.ior, 1)) (hp : pc + 1 = pc') : q_ex E M pc ls (.int q :: .int p :: st) h = q_ex E M pc' ls (.int (p ||| q) :: st) h := by
  subst hp
  exact x_go (f := (pc + 1, ls, .int (p ||| q) :: st, h)) hd rfl
theorem x_ishl (pc' : Nat) {p q : Int32} (hd : decode M.2.1 pc = .ok (.ishl, 1)) (hp : pc + 1 = pc') : q_ex E M pc ls (.int q :: .int p :: st) h = q_ex E M pc' ls (.int (p <<< (q &&& 31)) :: st) h := by
  subst hp
  exact x_go (f := (pc + 1, ls, .int (p <<< (q &&& 31)) :: st, h)) hd rfl
theorem x_ishr (pc' : Nat) {p q : Int32} (hd : decode M.2.1 pc = .ok (.ishr, 1)) (hp : pc + 1 = pc') : q_ex E M pc ls (.int q :: .int p :: st) h = q_ex E M pc' ls (.int (p >>> (q &&& 31)) :: st) h := by
  subst hp
  exact x_go (f := (pc + 1, ls, .int (p >>> (q &&& 31)) :: st, h)) hd rfl
theorem x_land (pc' : Nat) {p q : Int64} (hd : decode M.2.1 pc = .ok (.land, 1)) (hp : pc + 1 = pc') : q_ex E M pc ls (.long q :: .long p :: st) h = q_ex E M pc' ls (.long (p &&& q) :: st) h := by
  subst hp
  exact x_go (f := (pc + 1, ls, .long (p &&& q) :: st, h)) hd rfl
theorem x_lor (pc' : Nat) {p q : Int64} (hd : decode M.2.1 pc = .ok (.lor, 1)) (hp : pc + 1 = pc') : q_ex E M pc ls (.long q :: .long p :: st) h = q_ex E M pc' ls (.long (p ||| q) :: st) h := by
  subst hp
  exact x_go (f := (pc + 1, ls, .long (p ||| q) :: st, h)) hd rfl
theorem x_lxor (pc' : Nat) {p q : Int64} (hd : decode M.2.1 pc = .ok (.lxor, 1)) (hp : pc + 1 = pc') : q_ex E M pc ls (.long q :: .long p :: st) h = q_ex E M pc' ls (.long (p ^^^ q) :: st) h := by
  subst hp
  exact x_go (f := (pc + 1, ls, .long (p ^^^ q) :: st, h)) hd rfl
theorem x_lcmp (pc' : Nat) {p q : Int64} (hd : decode M.2.1 pc = .ok (.lcmp, 1)) (hp : pc + 1 = pc') : q_ex E M pc ls (.long q :: .long p :: st) h = q_ex E M pc' ls (.int (lg_cmp p q) :: st) h := by
  subst hp
  exact x_go (f := (pc + 1, ls, .int (lg_cmp p q) :: st, h)) hd rfl
theorem x_lshl (pc' : Nat) {p : Int64} {q : Int32} (hd : decode M.2.1 pc = .ok (.lshl, 1)) (hp : pc + 1 = pc') : q_ex E M pc ls (.int q :: .long p :: st) h = q_ex E M pc' ls (.long (p <<< (q.toInt64 &&& 63)) :: st) h := by
  subst hp
  exact x_go (f := (pc + 1, ls, .long (p <<< (q.toInt64 &&& 63)) :: st, h)) hd rfl
theorem x_lushr (pc' : Nat) {p : Int64} {q : Int32} (hd : decode M.2.1 pc = .ok (.lushr, 1)) (hp : pc + 1 = pc') : q_ex E M pc ls (.int q :: .long p :: st) h = q_ex E M pc' ls (.long ((p.toUInt64 >>> (q.toInt64.toUInt64 &&& Int64.toUInt64 63)).toInt64) :: st) h := by
  subst hp
  exact x_go (f := (pc + 1, ls, .long ((p.toUInt64 >>> (q.toInt64.toUInt64 &&& Int64.toUInt64 63)).toInt64) :: st, h)) hd rfl
theorem x_i2l (pc' : Nat) {p : Int32} (hd : decode M.2.1 pc = .ok (.i2l, 1)) (hp : pc + 1 = pc') : q_ex E M pc ls (.int p :: st) h = q_ex E M pc' ls (.long p.toInt64 :: st) h := by
  subst hp
  exact x_go (f := (pc + 1, ls, .long p.toInt64 :: st, h)) hd rfl
theorem x_i2c (pc' : Nat) {p : Int32} (hd : decode M.2.1 pc = .ok (.i2c, 1)) (hp : pc + 1 = pc') : q_ex E M pc ls (.int p :: st) h = q_ex E M pc' ls (.int (p.toUInt32 % 65536).toInt32 :: st) h := by
  subst hp
  exact x_go (f := (pc + 1, ls, .int (p.toUInt32 % 65536).toInt32 :: st, h)) hd rfl
theorem x_i2b (pc' : Nat) {p : Int32} (hd : decode M.2.1 pc = .ok (.i2b, 1)) (hp : pc + 1 = pc') : q_ex E M pc ls (.int p :: st) h = q_ex E M pc' ls (.int p.toInt8.toInt32 :: st) h := by
  subst hp
  exact x_go (f := (pc + 1, ls, .int p.toInt8.toInt32 :: st, h)) hd rfl
theorem x_dup (pc' : Nat) (hd : decode M.2.1 pc = .ok (.dup, 1)) (hp : pc + 1 = pc') (hc : v.category = 1) : q_ex E M pc ls (v :: st) h = q_ex E M pc' ls (v :: v :: st) h := by
  subst hp
  exact x_go (f := (pc + 1, ls, v :: v :: st, h)) hd (by simp only [q_stepI]; rw [if_pos ⟨trivial, hc⟩]; rfl)
theorem x_pop (pc' : Nat) (hd : decode M.2.1 pc = .ok (.pop, 1)) (hp : pc + 1 = pc') (hc : v.category = 1) : q_ex E M pc ls (v :: st) h = q_ex E M pc' ls st h := by
  subst hp
  exact x_go (f := (pc + 1, ls, st, h)) hd (by simp only [q_stepI]; rw [if_pos ⟨trivial, hc⟩]; rfl)
theorem x_dup2 (pc' : Nat) (hd : decode M.2.1 pc = .ok (.dup2, 1)) (hp : pc + 1 = pc') (hc : v.category = 1) (hc2 : w.category = 1) : q_ex E M pc ls (v :: w :: st) h = q_ex E M pc' ls (v :: w :: v :: w :: st) h := by
  subst hp
  exact x_go (f := (pc + 1, ls, v :: w :: v :: w :: st, h)) hd (by simp only [q_stepI]; rw [if_pos ⟨trivial, hc, hc2⟩]; rfl)
theorem x_goto (t : Nat) {off : Int} (hd : decode M.2.1 pc = .ok (.goto off, 3)) (ht : q_tgt pc off = some t) : q_ex E M pc ls st h = q_ex E M t ls st h := x_go (f := (t, ls, st, h)) hd (by simp only [q_stepI, q_go, ht, if_pos]; rfl)
theorem x_br {b : Bool} {off : Int} (hd : decode M.2.1 pc = .ok (i, len)) (hs : q_stepI E M i len pc ls st h = q_br b pc off ls st' h) (t n : Nat) (ht : q_tgt pc off = some t) (hn : pc + 3 = n) : q_ex E M pc ls st h = bif b then q_ex E M t ls st' h else q_ex E M n ls st' h := by
  subst hn
  cases b with
  | true => exact x_go (f := (t, ls, st', h)) hd (by rw [hs]; simp only [q_br, ht, q_if]; rfl)
  | false => exact x_go (f := (pc + 3, ls, st', h)) hd (by rw [hs]; simp only [q_br, ht, q_if]; rfl)
theorem x_icmp_eq (t n : Nat) {off : Int} (hd : decode M.2.1 pc = .ok (.if_icmp .eq off, 3)) (ht : q_tgt pc off = some t) (hn : pc + 3 = n) (h1 : -2147483648 ≤ x) (h2 : x < 2147483648) (h3 : -2147483648 ≤ y) (h4 : y < 2147483648) (kt : x = y → q_ex E M t ls st h = r) (kf : ¬ (x = y) → q_ex E M n ls st h = r) : q_ex E M pc ls (.int (zi y) :: .int (zi x) :: st) h = r := by
  rw [x_br (b := q_cond .eq (zi x) (zi y)) hd rfl t n ht hn]
  by_cases hc : x = y
  · rw [show q_cond .eq (zi x) (zi y) = true from decide_eq_true ((zi_eq h1 h2 h3 h4).mpr hc)]
    exact kt hc
  · rw [show q_cond .eq (zi x) (zi y) = false from decide_eq_false (fun e => hc ((zi_eq h1 h2 h3 h4).mp e))]
    exact kf hc
theorem x_if_eq (t n : Nat) {off : Int} (hd : decode M.2.1 pc = .ok (.ifCond .eq off, 3)) (ht : q_tgt pc off = some t) (hn : pc + 3 = n) (h1 : -2147483648 ≤ x) (h2 : x < 2147483648) (kt : x = 0 → q_ex E M t ls st h = r) (kf : ¬ (x = 0) → q_ex E M n ls st h = r) : q_ex E M pc ls (.int (zi x) :: st) h = r := by
  rw [x_br (b := q_cond .eq (zi x) (zi 0)) hd rfl t n ht hn]
  have h3 : -2147483648 ≤ (0 : Int) := by omega
  have h4 : (0 : Int) < 2147483648 := by omega
  by_cases hc : x = 0
  · rw [show q_cond .eq (zi x) (zi 0) = true from decide_eq_true ((zi_eq h1 h2 h3 h4).mpr hc)]
    exact kt hc
  · rw [show q_cond .eq (zi x) (zi 0) = false from decide_eq_false (fun e => hc ((zi_eq h1 h2 h3 h4).mp e))]
    exact kf hc
theorem x_icmp_ne (t n : Nat) {off : Int} (hd : decode M.2.1 pc = .ok (.if_icmp .ne off, 3)) (ht : q_tgt pc off = some t) (hn : pc + 3 = n) (h1 : -2147483648 ≤ x) (h2 : x < 2147483648) (h3 : -2147483648 ≤ y) (h4 : y < 2147483648) (kt : ¬ x = y → q_ex E M t ls st h = r) (kf : x = y → q_ex E M n ls st h = r) : q_ex E M pc ls (.int (zi y) :: .int (zi x) :: st) h = r := by
  rw [x_br (b := q_cond .ne (zi x) (zi y)) hd rfl t n ht hn]
  by_cases hc : ¬ x = y
  · rw [show q_cond .ne (zi x) (zi y) = true from decide_eq_true (fun e => hc ((zi_eq h1 h2 h3 h4).mp e))]
    exact kt hc
  · rw [show q_cond .ne (zi x) (zi y) = false from decide_eq_false (fun e => e ((zi_eq h1 h2 h3 h4).mpr (Classical.not_not.mp hc)))]
    exact kf (Classical.not_not.mp hc)
theorem x_if_ne (t n : Nat) {off : Int} (hd : decode M.2.1 pc = .ok (.ifCond .ne off, 3)) (ht : q_tgt pc off = some t) (hn : pc + 3 = n) (h1 : -2147483648 ≤ x) (h2 : x < 2147483648) (kt : ¬ x = 0 → q_ex E M t ls st h = r) (kf : x = 0 → q_ex E M n ls st h = r) : q_ex E M pc ls (.int (zi x) :: st) h = r := by
  rw [x_br (b := q_cond .ne (zi x) (zi 0)) hd rfl t n ht hn]
  have h3 : -2147483648 ≤ (0 : Int) := by omega
  have h4 : (0 : Int) < 2147483648 := by omega
  by_cases hc : ¬ x = 0
  · rw [show q_cond .ne (zi x) (zi 0) = true from decide_eq_true (fun e => hc ((zi_eq h1 h2 h3 h4).mp e))]
    exact kt hc
  · rw [show q_cond .ne (zi x) (zi 0) = false from decide_eq_false (fun e => e ((zi_eq h1 h2 h3 h4).mpr (Classical.not_not.mp hc)))]
    exact kf (Classical.not_not.mp hc)
theorem x_icmp_lt (t n : Nat) {off : Int} (hd : decode M.2.1 pc = .ok (.if_icmp .lt off, 3)) (ht : q_tgt pc off = some t) (hn : pc + 3 = n) (h1 : -2147483648 ≤ x) (h2 : x < 2147483648) (h3 : -2147483648 ≤ y) (h4 : y < 2147483648) (kt : x < y → q_ex E M t ls st h = r) (kf : ¬ (x < y) → q_ex E M n ls st h = r) : q_ex E M pc ls (.int (zi y) :: .int (zi x) :: st) h = r := by
  rw [x_br (b := q_cond .lt (zi x) (zi y)) hd rfl t n ht hn]
  by_cases hc : x < y
  · rw [show q_cond .lt (zi x) (zi y) = true from decide_eq_true ((zi_lt h1 h2 h3 h4).mpr hc)]
    exact kt hc
  · rw [show q_cond .lt (zi x) (zi y) = false from decide_eq_false (fun e => hc ((zi_lt h1 h2 h3 h4).mp e))]
    exact kf hc
theorem x_if_lt (t n : Nat) {off : Int} (hd : decode M.2.1 pc = .ok (.ifCond .lt off, 3)) (ht : q_tgt pc off = some t) (hn : pc + 3 = n) (h1 : -2147483648 ≤ x) (h2 : x < 2147483648) (kt : x < 0 → q_ex E M t ls st h = r) (kf : ¬ (x < 0) → q_ex E M n ls st h = r) : q_ex E M pc ls (.int (zi x) :: st) h = r := by
  rw [x_br (b := q_cond .lt (zi x) (zi 0)) hd rfl t n ht hn]
  have h3 : -2147483648 ≤ (0 : Int) := by omega
  have h4 : (0 : Int) < 2147483648 := by omega
  by_cases hc : x < 0
  · rw [show q_cond .lt (zi x) (zi 0) = true from decide_eq_true ((zi_lt h1 h2 h3 h4).mpr hc)]
    exact kt hc
  · rw [show q_cond .lt (zi x) (zi 0) = false from decide_eq_false (fun e => hc ((zi_lt h1 h2 h3 h4).mp e))]
    exact kf hc
theorem x_icmp_ge (t n : Nat) {off : Int} (hd : decode M.2.1 pc = .ok (.if_icmp .ge off, 3)) (ht : q_tgt pc off = some t) (hn : pc + 3 = n) (h1 : -2147483648 ≤ x) (h2 : x < 2147483648) (h3 : -2147483648 ≤ y) (h4 : y < 2147483648) (kt : y ≤ x → q_ex E M t ls st h = r) (kf : ¬ (y ≤ x) → q_ex E M n ls st h = r) : q_ex E M pc ls (.int (zi y) :: .int (zi x) :: st) h = r := by
  rw [x_br (b := q_cond .ge (zi x) (zi y)) hd rfl t n ht hn]
  by_cases hc : y ≤ x
  · rw [show q_cond .ge (zi x) (zi y) = true from decide_eq_true ((zi_le h3 h4 h1 h2).mpr hc)]
    exact kt hc
  · rw [show q_cond .ge (zi x) (zi y) = false from decide_eq_false (fun e => hc ((zi_le h3 h4 h1 h2).mp e))]
    exact kf hc
theorem x_if_ge (t n : Nat) {off : Int} (hd : decode M.2.1 pc = .ok (.ifCond .ge off, 3)) (ht : q_tgt pc off = some t) (hn : pc + 3 = n) (h1 : -2147483648 ≤ x) (h2 : x < 2147483648) (kt : 0 ≤ x → q_ex E M t ls st h = r) (kf : ¬ (0 ≤ x) → q_ex E M n ls st h = r) : q_ex E M pc ls (.int (zi x) :: st) h = r := by
  rw [x_br (b := q_cond .ge (zi x) (zi 0)) hd rfl t n ht hn]
  have h3 : -2147483648 ≤ (0 : Int) := by omega
  have h4 : (0 : Int) < 2147483648 := by omega
  by_cases hc : 0 ≤ x
  · rw [show q_cond .ge (zi x) (zi 0) = true from decide_eq_true ((zi_le h3 h4 h1 h2).mpr hc)]
    exact kt hc
  · rw [show q_cond .ge (zi x) (zi 0) = false from decide_eq_false (fun e => hc ((zi_le h3 h4 h1 h2).mp e))]
    exact kf hc
theorem x_icmp_gt (t n : Nat) {off : Int} (hd : decode M.2.1 pc = .ok (.if_icmp .gt off, 3)) (ht : q_tgt pc off = some t) (hn : pc + 3 = n) (h1 : -2147483648 ≤ x) (h2 : x < 2147483648) (h3 : -2147483648 ≤ y) (h4 : y < 2147483648) (kt : y < x → q_ex E M t ls st h = r) (kf : ¬ (y < x) → q_ex E M n ls st h = r) : q_ex E M pc ls (.int (zi y) :: .int (zi x) :: st) h = r := by
  rw [x_br (b := q_cond .gt (zi x) (zi y)) hd rfl t n ht hn]
  by_cases hc : y < x
  · rw [show q_cond .gt (zi x) (zi y) = true from decide_eq_true ((zi_lt h3 h4 h1 h2).mpr hc)]
    exact kt hc
  · rw [show q_cond .gt (zi x) (zi y) = false from decide_eq_false (fun e => hc ((zi_lt h3 h4 h1 h2).mp e))]
    exact kf hc
theorem x_if_gt (t n : Nat) {off : Int} (hd : decode M.2.1 pc = .ok (.ifCond .gt off, 3)) (ht : q_tgt pc off = some t) (hn : pc + 3 = n) (h1 : -2147483648 ≤ x) (h2 : x < 2147483648) (kt : 0 < x → q_ex E M t ls st h = r) (kf : ¬ (0 < x) → q_ex E M n ls st h = r) : q_ex E M pc ls (.int (zi x) :: st) h = r := by
  rw [x_br (b := q_cond .gt (zi x) (zi 0)) hd rfl t n ht hn]
  have h3 : -2147483648 ≤ (0 : Int) := by omega
  have h4 : (0 : Int) < 2147483648 := by omega
  by_cases hc : 0 < x
  · rw [show q_cond .gt (zi x) (zi 0) = true from decide_eq_true ((zi_lt h3 h4 h1 h2).mpr hc)]
    exact kt hc
  · rw [show q_cond .gt (zi x) (zi 0) = false from decide_eq_false (fun e => hc ((zi_lt h3 h4 h1 h2).mp e))]
    exact kf hc
theorem x_icmp_le (t n : Nat) {off : Int} (hd : decode M.2.1 pc = .ok (.if_icmp .le off, 3)) (ht : q_tgt pc off = some t) (hn : pc + 3 = n) (h1 : -2147483648 ≤ x) (h2 : x < 2147483648) (h3 : -2147483648 ≤ y) (h4 : y < 2147483648) (kt : x ≤ y → q_ex E M t ls st h = r) (kf : ¬ (x ≤ y) → q_ex E M n ls st h = r) : q_ex E M pc ls (.int (zi y) :: .int (zi x) :: st) h = r := by
  rw [x_br (b := q_cond .le (zi x) (zi y)) hd rfl t n ht hn]
  by_cases hc : x ≤ y
  · rw [show q_cond .le (zi x) (zi y) = true from decide_eq_true ((zi_le h1 h2 h3 h4).mpr hc)]
    exact kt hc
  · rw [show q_cond .le (zi x) (zi y) = false from decide_eq_false (fun e => hc ((zi_le h1 h2 h3 h4).mp e))]
    exact kf hc
theorem x_if_le (t n : Nat) {off : Int} (hd : decode M.2.1 pc = .ok (.ifCond .le off, 3)) (ht : q_tgt pc off = some t) (hn : pc + 3 = n) (h1 : -2147483648 ≤ x) (h2 : x < 2147483648) (kt : x ≤ 0 → q_ex E M t ls st h = r) (kf : ¬ (x ≤ 0) → q_ex E M n ls st h = r) : q_ex E M pc ls (.int (zi x) :: st) h = r := by
  rw [x_br (b := q_cond .le (zi x) (zi 0)) hd rfl t n ht hn]
  have h3 : -2147483648 ≤ (0 : Int) := by omega
  have h4 : (0 : Int) < 2147483648 := by omega
  by_cases hc : x ≤ 0
  · rw [show q_cond .le (zi x) (zi 0) = true from decide_eq_true ((zi_le h1 h2 h3 h4).mpr hc)]
    exact kt hc
  · rw [show q_cond .le (zi x) (zi 0) = false from decide_eq_false (fun e => hc ((zi_le h1 h2 h3 h4).mp e))]
    exact kf hc
theorem q_gE_of {ci k : Nat} (hv : q_gf h a ci k = some v) : q_gE E h a ci k = some v := by
  unfold q_gf at hv
  unfold q_gE
  split at hv
  · rename_i c fs hc
    rw [hc]
    exact hv
  · cases hv
theorem x_getE (pc' : Nat) {ix ci k pp : Nat} (hd : decode M.2.1 pc = .ok (.getfield ix, 3)) (hp : pc + 3 = pc') (hf : q_lk (q_fl (q_own M)) ix = some (ci, k, pp)) (ho : q_own M < 17) (hv : q_gE E h a ci k = some v) : q_ex E M pc ls (.ref a :: st) h = q_ex E M pc' ls (v :: st) h := by
  subst hp
  refine x_go (f := (pc + 3, ls, v :: st, h)) hd ?_
  simp only [q_stepI, hf, hv]
  rw [if_pos ⟨trivial, ho⟩]
  rfl
theorem x_getfield (pc' : Nat) {ix ci k pp : Nat} (hd : decode M.2.1 pc = .ok (.getfield ix, 3)) (hp : pc + 3 = pc') (hf : q_lk (q_fl (q_own M)) ix = some (ci, k, pp)) (ho : q_own M < 17) (hc : ci < 10) (hv : q_gf h a ci k = some v) : q_ex E M pc ls (.ref a :: st) h = q_ex E M pc' ls (v :: st) h := x_getE pc' hd hp hf ho (q_gE_of hv)
theorem x_putfield (pc' : Nat) {ix ci k pp : Nat} (hd : decode M.2.1 pc = .ok (.putfield ix, 3)) (hp : pc + 3 = pc') (hf : q_lk (q_fl (q_own M)) ix = some (ci, k, pp)) (ho : q_own M < 17) (hv : q_pf h a ci k v = some h') (hn : narrow (q_ty ci k) v = v) (hi : fits (q_ty ci k) v = true) (hfi : (q_T ci k).2.2.2 = true → M.1.name = "<init>" ∧ q_cnm ci = q_nm (q_own M)) : q_ex E M pc ls (v :: .ref a :: st) h = q_ex E M pc' ls st h' := by
  subst hp
  refine x_go (f := (pc + 3, ls, st, h')) hd ?_
  simp only [q_stepI, hf, hv]
  rw [if_pos ⟨⟨trivial, ho⟩, hn, hi, hfi⟩]
  rfl
theorem x_getstatic (pc' : Nat) {ix j pp : Nat} (hd : decode M.2.1 pc = .ok (.getstatic ix, 3)) (hp : pc + 3 = pc') (hf : q_lk (q_stf (q_own M)) ix = some (j, pp)) (ho : q_own M < 17) (hv : E.1 j = some v) : q_ex E M pc ls st h = q_ex E M pc' ls (v :: st) h := by
  subst hp
  refine x_go (f := (pc + 3, ls, v :: st, h)) hd ?_
  simp only [q_stepI, hf, hv]
  rw [if_pos ⟨trivial, ho⟩]
  rfl
theorem x_iaload (pc' : Nat) {q : Int32} (hd : decode M.2.1 pc = .ok (.iaload, 1)) (hp : pc + 1 = pc') (hv : q_gI E h 0 .int a q = some v) : q_ex E M pc ls (.int q :: .ref a :: st) h = q_ex E M pc' ls (v :: st) h := by
  subst hp
  exact x_go (f := (pc + 1, ls, v :: st, h)) hd (by simp only [q_stepI, hv, if_pos]; rfl)
theorem x_baload (pc' : Nat) {q : Int32} (hd : decode M.2.1 pc = .ok (.baload, 1)) (hp : pc + 1 = pc') (hv : q_gB E h a q = some v) : q_ex E M pc ls (.int q :: .ref a :: st) h = q_ex E M pc' ls (v :: st) h := by
  subst hp
  exact x_go (f := (pc + 1, ls, v :: st, h)) hd (by simp only [q_stepI, hv, if_pos]; rfl)
theorem x_caload (pc' : Nat) {q : Int32} (hd : decode M.2.1 pc = .ok (.caload, 1)) (hp : pc + 1 = pc') (hv : q_gI E h 3 .char a q = some v) : q_ex E M pc ls (.int q :: .ref a :: st) h = q_ex E M pc' ls (v :: st) h := by
  subst hp
  exact x_go (f := (pc + 1, ls, v :: st, h)) hd (by simp only [q_stepI, hv, if_pos]; rfl)
theorem x_laload (pc' : Nat) {q : Int32} (hd : decode M.2.1 pc = .ok (.laload, 1)) (hp : pc + 1 = pc') (hv : q_gL h a q = some v) : q_ex E M pc ls (.int q :: .ref a :: st) h = q_ex E M pc' ls (v :: st) h := by
  subst hp
  exact x_go (f := (pc + 1, ls, v :: st, h)) hd (by simp only [q_stepI, hv, if_pos]; rfl)
theorem x_aaload (pc' : Nat) {q : Int32} (hd : decode M.2.1 pc = .ok (.aaload, 1)) (hp : pc + 1 = pc') (hv : q_gQ h a q = some v) : q_ex E M pc ls (.int q :: .ref a :: st) h = q_ex E M pc' ls (v :: st) h := by
  subst hp
  exact x_go (f := (pc + 1, ls, v :: st, h)) hd (by simp only [q_stepI, hv, if_pos]; rfl)
theorem x_iastore (pc' : Nat) {q : Int32} {p : Int32} (hd : decode M.2.1 pc = .ok (.iastore, 1)) (hp : pc + 1 = pc') (hv : q_sI h 0 a q p = some h') : q_ex E M pc ls (.int p :: .int q :: .ref a :: st) h = q_ex E M pc' ls st h' := by
  subst hp
  exact x_go (f := (pc + 1, ls, st, h')) hd (by simp only [q_stepI, hv, if_pos]; rfl)
theorem x_bastore (pc' : Nat) {q : Int32} {p : Int32} (hd : decode M.2.1 pc = .ok (.bastore, 1)) (hp : pc + 1 = pc') (hv : q_sI h 2 a q (vp_nar .boolean p) = some h') : q_ex E M pc ls (.int p :: .int q :: .ref a :: st) h = q_ex E M pc' ls st h' := by
  subst hp
  exact x_go (f := (pc + 1, ls, st, h')) hd (by simp only [q_stepI, hv, if_pos]; rfl)
theorem x_castore (pc' : Nat) {q : Int32} {p : Int32} (hd : decode M.2.1 pc = .ok (.castore, 1)) (hp : pc + 1 = pc') (hv : q_sI h 3 a q (vp_nar .char p) = some h') : q_ex E M pc ls (.int p :: .int q :: .ref a :: st) h = q_ex E M pc' ls st h' := by
  subst hp
  exact x_go (f := (pc + 1, ls, st, h')) hd (by simp only [q_stepI, hv, if_pos]; rfl)
theorem x_lastore (pc' : Nat) {q : Int32} {p : Int64} (hd : decode M.2.1 pc = .ok (.lastore, 1)) (hp : pc + 1 = pc') (hv : q_sL h a q p = some h') : q_ex E M pc ls (.long p :: .int q :: .ref a :: st) h = q_ex E M pc' ls st h' := by
  subst hp
  exact x_go (f := (pc + 1, ls, st, h')) hd (by simp only [q_stepI, hv, if_pos]; rfl)
theorem x_aastore (pc' : Nat) {q : Int32} {p : Nat} (hd : decode M.2.1 pc = .ok (.aastore, 1)) (hp : pc + 1 = pc') (hv : q_sQ h a q p = some h') : q_ex E M pc ls (.ref p :: .int q :: .ref a :: st) h = q_ex E M pc' ls st h' := by
  subst hp
  exact x_go (f := (pc + 1, ls, st, h')) hd (by simp only [q_stepI, hv, if_pos]; rfl)
theorem x_arraylength (pc' : Nat) {q : Int32} (hd : decode M.2.1 pc = .ok (.arraylength, 1)) (hp : pc + 1 = pc') (hv : q_len E h a = some q) : q_ex E M pc ls (.ref a :: st) h = q_ex E M pc' ls (.int q :: st) h := by
  subst hp
  exact x_go (f := (pc + 1, ls, .int q :: st, h)) hd (by simp only [q_stepI, hv, if_pos]; rfl)
theorem x_ireturn {ty : FieldType} {q : Int32} (hd : decode M.2.1 pc = .ok (.ireturn, 1)) (hr : q_ret M = some ty) (hn : narrow ty (.int q) = .int q) : q_ex E M pc ls [.int q] h = some (.inl (some (.int q)), h) := by
  rw [q_ex_step, x_st hd]
  simp only [q_stepI, hr]
  rw [if_pos ⟨trivial, hn⟩]
  rfl
theorem x_return (hd : decode M.2.1 pc = .ok (.return_, 1)) (hr : q_ret M = none) : q_ex E M pc ls [] h = some (.inl none, h) := by
  rw [q_ex_step, x_st hd]
  simp only [q_stepI, hr]
  rfl
theorem x_lreturn {q : Int64} (hd : decode M.2.1 pc = .ok (.lreturn, 1)) (hr : q_ret M = some .long) : q_ex E M pc ls [.long q] h = some (.inl (some (.long q)), h) := by
  rw [q_ex_step, x_st hd]
  simp only [q_stepI, hr]
  rfl
theorem x_call {c : q_M × Nat × List Value × List Value} {u : Option Value} (hs : q_step E M pc ls st h = some (.inr (.inl c))) (hc : q_cl E c.1 c.2.2.1 h = some (.inl u, h')) : q_ex E M pc ls st h = q_ex E M (pc + 3) ls (u.toList ++ c.2.2.2) h' := by
  rw [q_ex_step, hs]
  show q_bk (q_ex E) M pc ls c.2.1 c.2.2.2 (q_ex E c.1 0 (q_ent c.1 c.2.2.1) [] h) = _
  rw [show q_ex E c.1 0 (q_ent c.1 c.2.2.1) [] h = some (.inl u, h') from hc]
  rfl
theorem q_rc_lt : ∀ o, o < 9 → q_rc o = o := by decide +kernel
/-- a virtual call: n arguments, the receiver an object of the method's class -/
theorem x_inv (pc' : Nat) {ix n b : Nat} {ps : Nat × Nat × Nat × Nat} {as rest fs : List Value} {u : Option Value} (hd : decode M.2.1 pc = .ok (.invokevirtual ix, 3)) (hp : pc + 3 = pc') (hf : q_lk (q_cal (q_own M)) ix = some (1, n, M', ps)) (hn : as.length = n) (ho : q_own M' < 9) (hg : q_hgt M' < q_hgt M) (hb : h.1 b = some (.inr (q_own M', fs))) (hcat : q_cat rest ≤ 8) (hl : (q_exp (.ref b :: as)).length ≤ M'.2.2.1)
    (hst : st = as.reverse ++ .ref b :: rest) (hc : q_cl E M' (.ref b :: as) h = some (.inl u, h')) : q_ex E M pc ls st h = q_ex E M pc' ls (u.toList ++ rest) h' := by
  subst hp; subst hst; subst hn
  refine x_call (c := (M', 1, .ref b :: as, rest)) ?_ hc
  rw [x_st hd]
  simp only [q_stepI, hf]
  rw [if_pos ⟨trivial, trivial⟩]
  have e1 : (as.reverse ++ .ref b :: rest).take as.length = as.reverse := by rw [← List.length_reverse, List.take_left]
  have e2 : (as.reverse ++ .ref b :: rest).drop as.length = .ref b :: rest := by rw [← List.length_reverse, List.drop_left]
  unfold q_call
  rw [if_pos ⟨hg, by simp⟩]
  simp only [e1, e2, List.reverse_reverse, hb]
  rw [if_pos ⟨hcat, hl⟩, if_pos ⟨(q_rc_lt _ ho).symm, by omega⟩]
theorem x_ins (pc' : Nat) {ix n : Nat} {ps : Nat × Nat × Nat × Nat} {as rest : List Value} {u : Option Value} (hd : decode M.2.1 pc = .ok (.invokestatic ix, 3)) (hp : pc + 3 = pc') (hf : q_lk (q_cal (q_own M)) ix = some (0, n, M', ps)) (hn : as.length = n) (hg : q_hgt M' < q_hgt M) (hcat : q_cat rest ≤ 8) (hl : (q_exp as).length ≤ M'.2.2.1)
    (hst : st = as.reverse ++ rest) (hc : q_cl E M' as h = some (.inl u, h')) : q_ex E M pc ls st h = q_ex E M pc' ls (u.toList ++ rest) h' := by
  subst hp; subst hst; subst hn
  refine x_call (c := (M', 0, as, rest)) ?_ hc
  rw [x_st hd]
  simp only [q_stepI, hf]
  rw [if_pos ⟨trivial, trivial⟩]
  have e1 : (as.reverse ++ rest).take as.length = as.reverse := by rw [← List.length_reverse, List.take_left]
  have e2 : (as.reverse ++ rest).drop as.length = rest := by rw [← List.length_reverse, List.drop_left]
  unfold q_call
  rw [if_pos ⟨hg, by simp⟩]
  simp only [e1, e2, List.reverse_reverse]
  rw [if_pos ⟨hcat, hl⟩]
end QXX
