/-! steps of floats; the class: letter, loaded, lateness (printed by program) -/
section QXF
variable {E : q_E} {M M' : q_M} {pc pc' t len k : Nat} {i : Instr} {ls ls' st st' vs : List Value} {h h' : q_H}
theorem x_i2f (pc' : Nat) {p : Int32} (hd : decode M.2.1 pc = .ok (.i2f, 1)) (hp : pc + 1 = pc') : q_ex E M pc ls (.int p :: st) h = q_ex E M pc' ls (.float (FP.i2f p) :: st) h := by
  subst hp
  exact x_go (f := (pc + 1, ls, .float (FP.i2f p) :: st, h)) hd rfl
theorem x_i2d (pc' : Nat) {p : Int32} (hd : decode M.2.1 pc = .ok (.i2d, 1)) (hp : pc + 1 = pc') : q_ex E M pc ls (.int p :: st) h = q_ex E M pc' ls (.double (FP.i2d p) :: st) h := by
  subst hp
  exact x_go (f := (pc + 1, ls, .double (FP.i2d p) :: st, h)) hd rfl
theorem x_f2d (pc' : Nat) {p : UInt32} (hd : decode M.2.1 pc = .ok (.f2d, 1)) (hp : pc + 1 = pc') (hn : FP.f2d p &&& 0x7fffffffffffffff ≤ 0x7ff0000000000000) : q_ex E M pc ls (.float p :: st) h = q_ex E M pc' ls (.double (FP.f2d p) :: st) h := by
  subst hp
  exact x_go (f := (pc + 1, ls, .double (FP.f2d p) :: st, h)) hd (by simp only [q_stepI]; rw [if_pos ⟨trivial, hn⟩]; rfl)
theorem x_fdiv (pc' : Nat) {p q : UInt32} (hd : decode M.2.1 pc = .ok (.fdiv, 1)) (hp : pc + 1 = pc') (hn : FP.fdiv p q &&& 0x7fffffff ≤ 0x7f800000) : q_ex E M pc ls (.float q :: .float p :: st) h = q_ex E M pc' ls (.float (FP.fdiv p q) :: st) h := by
  subst hp
  exact x_go (f := (pc + 1, ls, .float (FP.fdiv p q) :: st, h)) hd (by simp only [q_stepI]; rw [if_pos ⟨trivial, hn⟩]; rfl)
theorem x_ddiv (pc' : Nat) {p q : UInt64} (hd : decode M.2.1 pc = .ok (.ddiv, 1)) (hp : pc + 1 = pc') (hn : FP.ddiv p q &&& 0x7fffffffffffffff ≤ 0x7ff0000000000000) : q_ex E M pc ls (.double q :: .double p :: st) h = q_ex E M pc' ls (.double (FP.ddiv p q) :: st) h := by
  subst hp
  exact x_go (f := (pc + 1, ls, .double (FP.ddiv p q) :: st, h)) hd (by simp only [q_stepI]; rw [if_pos ⟨trivial, hn⟩]; rfl)
theorem x_fcmp (pc' : Nat) {op : CmpOp} {p q : UInt32} (hd : decode M.2.1 pc = .ok (.fcmp op, 1)) (hp : pc + 1 = pc') : q_ex E M pc ls (.float q :: .float p :: st) h = q_ex E M pc' ls (.int (Op.cmpValue (FP.fcmp p q) op) :: st) h := by
  subst hp
  exact x_go (f := (pc + 1, ls, .int (Op.cmpValue (FP.fcmp p q) op) :: st, h)) hd rfl
theorem x_dcmp (pc' : Nat) {op : CmpOp} {p q : UInt64} (hd : decode M.2.1 pc = .ok (.dcmp op, 1)) (hp : pc + 1 = pc') : q_ex E M pc ls (.double q :: .double p :: st) h = q_ex E M pc' ls (.int (Op.cmpValue (FP.dcmp p q) op) :: st) h := by
  subst hp
  exact x_go (f := (pc + 1, ls, .int (Op.cmpValue (FP.dcmp p q) op) :: st, h)) hd rfl
theorem x_fload (pc' : Nat) {k : Nat} {q : UInt32} (hd : decode M.2.1 pc = .ok (.fload k, 2)) (hp : pc + 2 = pc') (hk : ls[k]? = some (.float q)) : q_ex E M pc ls st h = q_ex E M pc' ls (.float q :: st) h := by
  subst hp
  exact x_go (f := (pc + 2, ls, .float q :: st, h)) hd (by simp only [q_stepI, hk, if_pos]; rfl)
theorem x_dload (pc' : Nat) {k : Nat} {q : UInt64} (hd : decode M.2.1 pc = .ok (.dload k, 2)) (hp : pc + 2 = pc') (hk : ls[k]? = some (.double q)) : q_ex E M pc ls st h = q_ex E M pc' ls (.double q :: st) h := by
  subst hp
  exact x_go (f := (pc + 2, ls, .double q :: st, h)) hd (by simp only [q_stepI, hk, if_pos]; rfl)
theorem x_fstore (pc' : Nat) {k : Nat} {q : UInt32} (hd : decode M.2.1 pc = .ok (.fstore k, 2)) (hp : pc + 2 = pc') (hk : k < ls.length) : q_ex E M pc ls (.float q :: st) h = q_ex E M pc' (q_st1 ls k (.float q)) st h := by
  subst hp
  exact x_go (f := (pc + 2, q_st1 ls k (.float q), st, h)) hd (by simp only [q_stepI]; rw [if_pos ⟨trivial, hk⟩]; rfl)
theorem x_dstore (pc' : Nat) {k : Nat} {q : UInt64} (hd : decode M.2.1 pc = .ok (.dstore k, 2)) (hp : pc + 2 = pc') (hk : k + 1 < ls.length) : q_ex E M pc ls (.double q :: st) h = q_ex E M pc' (q_st2 ls k (.double q)) st h := by
  subst hp
  exact x_go (f := (pc + 2, q_st2 ls k (.double q), st, h)) hd (by simp only [q_stepI]; rw [if_pos ⟨trivial, hk⟩]; rfl)
theorem x_freturn {q : UInt32} (hd : decode M.2.1 pc = .ok (.freturn, 1)) (hr : q_ret M = some .float) : q_ex E M pc ls [.float q] h = some (.inl (some (.float q)), h) := by
  rw [q_ex_step, x_st hd]
  simp only [q_stepI, hr]
  rfl
theorem x_dreturn {q : UInt64} (hd : decode M.2.1 pc = .ok (.dreturn, 1)) (hr : q_ret M = some .double) : q_ex E M pc ls [.double q] h = some (.inl (some (.double q)), h) := by
  rw [q_ex_step, x_st hd]
  simp only [q_stepI, hr]
  rfl
end QXF
theorem dn_asm (s : Bool) (e t : Nat) : FP.Core.assemble FP.Core.b64 s e t = (s.toNat * 2048 + e) * 4503599627370496 + t := rfl
theorem dn_enc (s : Bool) (c : Nat) (q : Int) (h1 : c < 9007199254740992) (h2 : (-1074) ≤ q) (h3 : q ≤ 971) : FP.Core.encode FP.Core.b64 (.fin s c q) % 9223372036854775808 < 9218868437227405312 ∧ FP.Core.encode FP.Core.b64 (.fin s c q) < 18446744073709551616 := by
  have hs : s.toNat ≤ 1 := by cases s <;> decide
  unfold FP.Core.encode
  simp only
  rw [show FP.Core.Fmt.tails FP.Core.b64 = 4503599627370496 from rfl, show FP.Core.Fmt.qmin FP.Core.b64 = (-1074) from rfl]
  split <;> rw [dn_asm] <;> omega
theorem dn_encI (s : Bool) : FP.Core.encode FP.Core.b64 (.inf s) % 9223372036854775808 = 9218868437227405312 ∧ FP.Core.encode FP.Core.b64 (.inf s) < 18446744073709551616 := by
  cases s <;> decide +kernel
theorem dn_rr (s : Bool) (num den : Nat) (e : Int) : FP.Core.encode FP.Core.b64 (FP.Core.roundRatio FP.Core.b64 s num den e) % 9223372036854775808 ≤ 9218868437227405312 ∧ FP.Core.encode FP.Core.b64 (FP.Core.roundRatio FP.Core.b64 s num den e) < 18446744073709551616 := by
  have key : ∀ (c : Nat) (q : Int), c < 9007199254740992 → (-1074) ≤ q → FP.Core.encode FP.Core.b64 (FP.Core.bound FP.Core.b64 s c q) % 9223372036854775808 ≤ 9218868437227405312 ∧ FP.Core.encode FP.Core.b64 (FP.Core.bound FP.Core.b64 s c q) < 18446744073709551616 := by
    intro c q h1 h2
    unfold FP.Core.bound
    rw [show FP.Core.Fmt.qmax FP.Core.b64 = 971 from rfl]
    split
    · have := dn_enc s c q h1 h2 (by assumption)
      omega
    · have := dn_encI s
      omega
  unfold FP.Core.roundRatio
  split
  · have := dn_enc s 0 (-1074) (by omega) (by omega) (by omega)
    rw [show FP.Core.Fmt.qmin FP.Core.b64 = (-1074) from rfl]
    omega
  · unfold FP.Core.roundAt FP.Core.settle
    have hq : (-1074) ≤ FP.Core.quantum FP.Core.b64 num den e := by
      unfold FP.Core.quantum
      rw [show FP.Core.Fmt.qmin FP.Core.b64 = (-1074) from rfl]
      omega
    split
    · rename_i hc
      exact key _ _ (by have : (2 : Nat) ^ FP.Core.Fmt.p FP.Core.b64 = 9007199254740992 := rfl; omega) hq
    · exact key _ _ (by show 4503599627370496 < 9007199254740992; omega) (by omega)
theorem dn_dec (n : Nat) (h : n % 9223372036854775808 ≤ 9218868437227405312) : ¬ FP.Core.decode FP.Core.b64 n = .nan := by
  intro e
  unfold FP.Core.decode FP.Core.fieldE FP.Core.fieldT at e
  rw [show FP.Core.Fmt.tails FP.Core.b64 = 4503599627370496 from rfl, show FP.Core.Fmt.exps FP.Core.b64 = 2048 from rfl] at e
  split at e
  · split at e
    · exact absurd e (by intro x; exact FP.Core.Datum.noConfusion x)
    · omega
  · split at e <;> exact absurd e (by intro x; exact FP.Core.Datum.noConfusion x)
theorem dn_quo (a : FP.Core.Datum) (ha : ¬ a = .nan) (s : Bool) (c : Nat) (q : Int) (hc : ¬ c = 0) : FP.Core.encode FP.Core.b64 (FP.Core.quotient FP.Core.b64 a (.fin s c q)) % 9223372036854775808 ≤ 9218868437227405312 ∧ FP.Core.encode FP.Core.b64 (FP.Core.quotient FP.Core.b64 a (.fin s c q)) < 18446744073709551616 := by
  match a with
  | .nan => exact absurd rfl ha
  | .inf t =>
    have := dn_encI (t != s)
    show FP.Core.encode FP.Core.b64 (.inf (t != s)) % _ ≤ _ ∧ FP.Core.encode FP.Core.b64 (.inf (t != s)) < _
    omega
  | .fin t d r =>
    have e : FP.Core.quotient FP.Core.b64 (.fin t d r) (.fin s c q) = FP.Core.roundRatio FP.Core.b64 (t != s) d c (r - q) := if_neg hc
    rw [e]
    exact dn_rr _ _ _ _
theorem fn_asm (s : Bool) (e t : Nat) : FP.Core.assemble FP.Core.b32 s e t = (s.toNat * 256 + e) * 8388608 + t := rfl
theorem fn_enc (s : Bool) (c : Nat) (q : Int) (h1 : c < 16777216) (h2 : (-149) ≤ q) (h3 : q ≤ 104) : FP.Core.encode FP.Core.b32 (.fin s c q) % 2147483648 < 2139095040 ∧ FP.Core.encode FP.Core.b32 (.fin s c q) < 4294967296 := by
  have hs : s.toNat ≤ 1 := by cases s <;> decide
  unfold FP.Core.encode
  simp only
  rw [show FP.Core.Fmt.tails FP.Core.b32 = 8388608 from rfl, show FP.Core.Fmt.qmin FP.Core.b32 = (-149) from rfl]
  split <;> rw [fn_asm] <;> omega
theorem fn_encI (s : Bool) : FP.Core.encode FP.Core.b32 (.inf s) % 2147483648 = 2139095040 ∧ FP.Core.encode FP.Core.b32 (.inf s) < 4294967296 := by
  cases s <;> decide +kernel
theorem fn_rr (s : Bool) (num den : Nat) (e : Int) : FP.Core.encode FP.Core.b32 (FP.Core.roundRatio FP.Core.b32 s num den e) % 2147483648 ≤ 2139095040 ∧ FP.Core.encode FP.Core.b32 (FP.Core.roundRatio FP.Core.b32 s num den e) < 4294967296 := by
  have key : ∀ (c : Nat) (q : Int), c < 16777216 → (-149) ≤ q → FP.Core.encode FP.Core.b32 (FP.Core.bound FP.Core.b32 s c q) % 2147483648 ≤ 2139095040 ∧ FP.Core.encode FP.Core.b32 (FP.Core.bound FP.Core.b32 s c q) < 4294967296 := by
    intro c q h1 h2
    unfold FP.Core.bound
    rw [show FP.Core.Fmt.qmax FP.Core.b32 = 104 from rfl]
    split
    · have := fn_enc s c q h1 h2 (by assumption)
      omega
    · have := fn_encI s
      omega
  unfold FP.Core.roundRatio
  split
  · have := fn_enc s 0 (-149) (by omega) (by omega) (by omega)
    rw [show FP.Core.Fmt.qmin FP.Core.b32 = (-149) from rfl]
    omega
  · unfold FP.Core.roundAt FP.Core.settle
    have hq : (-149) ≤ FP.Core.quantum FP.Core.b32 num den e := by
      unfold FP.Core.quantum
      rw [show FP.Core.Fmt.qmin FP.Core.b32 = (-149) from rfl]
      omega
    split
    · rename_i hc
      exact key _ _ (by have : (2 : Nat) ^ FP.Core.Fmt.p FP.Core.b32 = 16777216 := rfl; omega) hq
    · exact key _ _ (by show 8388608 < 16777216; omega) (by omega)
theorem fn_dec (n : Nat) (h : n % 2147483648 ≤ 2139095040) : ¬ FP.Core.decode FP.Core.b32 n = .nan := by
  intro e
  unfold FP.Core.decode FP.Core.fieldE FP.Core.fieldT at e
  rw [show FP.Core.Fmt.tails FP.Core.b32 = 8388608 from rfl, show FP.Core.Fmt.exps FP.Core.b32 = 256 from rfl] at e
  split at e
  · split at e
    · exact absurd e (by intro x; exact FP.Core.Datum.noConfusion x)
    · omega
  · split at e <;> exact absurd e (by intro x; exact FP.Core.Datum.noConfusion x)
theorem fn_quo (a : FP.Core.Datum) (ha : ¬ a = .nan) (s : Bool) (c : Nat) (q : Int) (hc : ¬ c = 0) : FP.Core.encode FP.Core.b32 (FP.Core.quotient FP.Core.b32 a (.fin s c q)) % 2147483648 ≤ 2139095040 ∧ FP.Core.encode FP.Core.b32 (FP.Core.quotient FP.Core.b32 a (.fin s c q)) < 4294967296 := by
  match a with
  | .nan => exact absurd rfl ha
  | .inf t =>
    have := fn_encI (t != s)
    show FP.Core.encode FP.Core.b32 (.inf (t != s)) % _ ≤ _ ∧ FP.Core.encode FP.Core.b32 (.inf (t != s)) < _
    omega
  | .fin t d r =>
    have e : FP.Core.quotient FP.Core.b32 (.fin t d r) (.fin s c q) = FP.Core.roundRatio FP.Core.b32 (t != s) d c (r - q) := if_neg hc
    rw [e]
    exact fn_rr _ _ _ _
def fpos : FP.Core.Datum → Bool
  | .fin false c _ => c != 0
  | _ => false
theorem fpos_t {d : FP.Core.Datum} (h : fpos d = true) : ∃ c q, d = .fin false c q ∧ ¬ c = 0 := by
  match d, h with
  | .fin false c q, h => exact ⟨c, q, rfl, by simpa [fpos] using h⟩
  | .fin true c q, h => exact absurd h (by simp [fpos])
  | .nan, h => exact absurd h (by simp [fpos])
  | .inf s, h => exact absurd h (by simp [fpos])
theorem i2d_n (x : Int32) : ¬ FP.Core.decode FP.Core.b64 (FP.i2d x).toNat = .nan := by
  have := dn_rr (decide (x.toInt < 0)) x.toInt.natAbs 1 0
  have e : (FP.i2d x).toNat = FP.Core.encode FP.Core.b64 (FP.Core.roundRatio FP.Core.b64 (decide (x.toInt < 0)) x.toInt.natAbs 1 0) := by
    show (UInt64.ofNat (FP.Core.encode FP.Core.b64 (FP.Core.roundRatio FP.Core.b64 (decide (x.toInt < 0)) x.toInt.natAbs 1 0))).toNat = _
    rw [UInt64.toNat_ofNat']
    exact Nat.mod_eq_of_lt this.2
  rw [e]
  exact dn_dec _ this.1
theorem i2f_n (x : Int32) : ¬ FP.Core.decode FP.Core.b32 (FP.i2f x).toNat = .nan := by
  have := fn_rr (decide (x.toInt < 0)) x.toInt.natAbs 1 0
  have e : (FP.i2f x).toNat = FP.Core.encode FP.Core.b32 (FP.Core.roundRatio FP.Core.b32 (decide (x.toInt < 0)) x.toInt.natAbs 1 0) := by
    show (UInt32.ofNat (FP.Core.encode FP.Core.b32 (FP.Core.roundRatio FP.Core.b32 (decide (x.toInt < 0)) x.toInt.natAbs 1 0))).toNat = _
    rw [UInt32.toNat_ofNat']
    exact Nat.mod_eq_of_lt this.2
  rw [e]
  exact fn_dec _ this.1
theorem i2d_d : ∀ k : Nat, k < 16 → 0 < k → ∃ c q, FP.Core.decode FP.Core.b64 (FP.i2d (zi k)).toNat = .fin false c q ∧ ¬ c = 0 := by
  intro k h1 h2
  have key : ∀ k : Fin 16, 0 < k.val → fpos (FP.Core.decode FP.Core.b64 (FP.i2d (zi k.val)).toNat) = true := by decide +kernel
  have := key ⟨k, h1⟩ h2
  exact fpos_t this
theorem i2f_d : ∀ k : Nat, k < 16 → 0 < k → ∃ c q, FP.Core.decode FP.Core.b32 (FP.i2f (zi k)).toNat = .fin false c q ∧ ¬ c = 0 := by
  intro k h1 h2
  have key : ∀ k : Fin 16, 0 < k.val → fpos (FP.Core.decode FP.Core.b32 (FP.i2f (zi k.val)).toNat) = true := by decide +kernel
  have := key ⟨k, h1⟩ h2
  exact fpos_t this
theorem ddiv_ok {x : Int32} {k : Int} (h1 : 0 < k) (h2 : k < 16) : FP.ddiv (FP.i2d x) (FP.i2d (zi k)) &&& 0x7fffffffffffffff ≤ 0x7ff0000000000000 := by
  obtain ⟨n, rfl⟩ := Int.eq_ofNat_of_zero_le (Int.le_of_lt h1)
  obtain ⟨c, q, e, hc⟩ := i2d_d n (by omega) (by omega)
  have := dn_quo _ (i2d_n x) false c q hc
  rw [← e] at this
  rw [UInt64.le_iff_toNat_le, UInt64.toNat_and]
  show (UInt64.ofNat (FP.Core.encode FP.Core.b64 (FP.Core.quotient FP.Core.b64 (FP.Core.decode FP.Core.b64 (FP.i2d x).toNat) (FP.Core.decode FP.Core.b64 (FP.i2d (zi n)).toNat)))).toNat &&& (2 ^ 63 - 1) ≤ 9218868437227405312
  rw [Nat.and_two_pow_sub_one_eq_mod, UInt64.toNat_ofNat', Nat.mod_eq_of_lt this.2]
  exact this.1
theorem fdiv_ok {x : Int32} {k : Int} (h1 : 0 < k) (h2 : k < 16) : FP.fdiv (FP.i2f x) (FP.i2f (zi k)) &&& 0x7fffffff ≤ 0x7f800000 := by
  obtain ⟨n, rfl⟩ := Int.eq_ofNat_of_zero_le (Int.le_of_lt h1)
  obtain ⟨c, q, e, hc⟩ := i2f_d n (by omega) (by omega)
  have := fn_quo _ (i2f_n x) false c q hc
  rw [← e] at this
  rw [UInt32.le_iff_toNat_le, UInt32.toNat_and]
  show (UInt32.ofNat (FP.Core.encode FP.Core.b32 (FP.Core.quotient FP.Core.b32 (FP.Core.decode FP.Core.b32 (FP.i2f x).toNat) (FP.Core.decode FP.Core.b32 (FP.i2f (zi n)).toNat)))).toNat &&& (2 ^ 31 - 1) ≤ 2139095040
  rw [Nat.and_two_pow_sub_one_eq_mod, UInt32.toNat_ofNat', Nat.mod_eq_of_lt this.2]
  exact this.1
section CV9
variable {E : q_E} {h h' : q_H} {x w v a b t N k d : Nat} {l lo ls f g c q PP : Int → Int} {p p2 pk : Int → Nat} {hs fa kr kd_ nx ct n ro go_ gt : Int} {kl : Int → Int → Int}
/-- a kind's letter -/
def sgK (k : Int) : Int := if 0 ≤ k ∧ k < 4 then sgn k else 46
noncomputable def letO (l : Int → Int) (c : Int) : Sum String Int := if ¬ isC l c then .inl xIO else .inr (if ¬ rin l c 0 = -1 then 48 + rin l c 0 else if ¬ l (56 + c) = 0 then 120 else sgK (l (8 + c)))
theorem zc_c {v : Int} (h1 : 0 ≤ v) (h2 : v < 65536) : ((zi v).toUInt32 % 65536).toInt32 = zi v := by
  obtain ⟨q, rfl⟩ := Int.eq_ofNat_of_zero_le h1
  apply Int32.toBitVec_inj.mp
  apply BitVec.eq_of_toNat_eq
  show ((nI q).toUInt32 % 65536).toNat = q % 2 ^ 32
  rw [UInt32.toNat_mod, show (nI q).toUInt32.toNat = q % 2 ^ 32 from rfl, show (65536 : UInt32).toNat = 65536 from rfl]
  omega
theorem nc_i {v : Int} (h1 : 0 ≤ v) (h2 : v < 65536) : narrow .char (.int (zi v)) = .int (zi v) := by
  obtain ⟨q, rfl⟩ := Int.eq_ofNat_of_zero_le h1
  exact (pk_charN (q := q) (by omega)).1
theorem S_X7_signOf (hE : q_EN E N) (hLo : Lo h N) {y : Int} (y0 : -2147483648 ≤ y) (y1 : y < 2147483648) : q_cl E q_m_X7_signOf [Value.int (zi y)] h = some (.inl (some (Value.int (zi (sgK y)))), h) := by
  suffices K : ∀ Q : q_R → q_H → Prop, Q (.inl (some (Value.int (zi (sgK y))))) h → Xv E q_m_X7_signOf 0 [Value.int (zi y)] [] h Q by
    obtain ⟨r_, g_, a_, b_, c_⟩ := K (fun r_ g_ => r_ = .inl (some (Value.int (zi (sgK y)))) ∧ g_ = h) ⟨rfl, rfl⟩
    subst b_; subst c_; exact a_
  intro Q hQ
  obtain ⟨a3, u3, s3, t3⟩ := hE.2.2.2.1
  refine xv (x_iload_n 1 d_X7_signOf_0 rfl rfl) ?_
  refine v_if_lt 20 4 d_X7_signOf_1 rfl rfl (by omega) (by omega) (fun k1 => ?_) (fun k1 => ?_)
  · refine xv (x_getstatic 23 d_X7_signOf_20 rfl rfl (Nat.le_of_ble_eq_true rfl) s3) ?_
    refine xv (x_iconst 24 d_X7_signOf_23 rfl) ?_
    refine xv (x_caload 25 d_X7_signOf_24 rfl ((q_gIro (hLo _ u3) t3 (by omega) (by omega) (by decide)).trans (rfl : _ = some (Value.int (zi (sgn 0)))))) ?_
    have q_0 := @sgn_r 0
    refine xv_r (x_ireturn d_X7_signOf_25 rfl (nc_i (by have := @sgn_r y; have := @sgn_r 0; omega) (by have := @sgn_r y; have := @sgn_r 0; omega))) ?_
    refine lq hQ ?_
    unfold sgK
    first | rw [if_pos (by omega)] | (rw [if_neg (by omega)]; rfl)
  · refine xv (x_iload_n 5 d_X7_signOf_4 rfl rfl) ?_
    refine xv (x_getstatic 8 d_X7_signOf_5 rfl rfl (Nat.le_of_ble_eq_true rfl) s3) ?_
    refine xv (x_arraylength 9 d_X7_signOf_8 rfl (q_len_ro (hLo _ u3) t3)) ?_
    refine v_icmp_ge 20 12 d_X7_signOf_9 rfl rfl (by omega) (by omega) (by omega) (by omega) (fun k9 => ?_) (fun k9 => ?_)
    · refine xv (x_getstatic 23 d_X7_signOf_20 rfl rfl (Nat.le_of_ble_eq_true rfl) s3) ?_
      refine xv (x_iconst 24 d_X7_signOf_23 rfl) ?_
      refine xv (x_caload 25 d_X7_signOf_24 rfl ((q_gIro (hLo _ u3) t3 (by omega) (by omega) (by decide)).trans (rfl : _ = some (Value.int (zi (sgn 0)))))) ?_
      have q_0 := @sgn_r 0
      refine xv_r (x_ireturn d_X7_signOf_25 rfl (nc_i (by have := @sgn_r y; have := @sgn_r 0; omega) (by have := @sgn_r y; have := @sgn_r 0; omega))) ?_
      refine lq hQ ?_
      unfold sgK
      first | rw [if_pos (by omega)] | (rw [if_neg (by omega)]; rfl)
    · refine xv (x_getstatic 15 d_X7_signOf_12 rfl rfl (Nat.le_of_ble_eq_true rfl) s3) ?_
      refine xv (x_iload_n 16 d_X7_signOf_15 rfl rfl) ?_
      refine xv (x_caload 17 d_X7_signOf_16 rfl ((q_gIro (hLo _ u3) t3 (by omega) (by omega) (by decide)).trans (rfl : _ = some (Value.int (zi (sgn y)))))) ?_
      have q_y := @sgn_r y
      refine xv (x_goto 25 d_X7_signOf_17 rfl) ?_
      refine xv_r (x_ireturn d_X7_signOf_25 rfl (nc_i (by have := @sgn_r y; have := @sgn_r 0; omega) (by have := @sgn_r y; have := @sgn_r 0; omega))) ?_
      refine lq hQ ?_
      unfold sgK
      first | rw [if_pos (by omega)] | (rw [if_neg (by omega)]; rfl)
theorem sgK_r (k : Int) : 0 ≤ sgK k ∧ sgK k ≤ 64 := by
  unfold sgK
  split
  · exact sgn_r
  · omega
theorem S_X7_letter (hC : CA h x l ls nx ct kl n c hs fa kr kd_) (hR : RgC l) (hn : 0 ≤ nx ∧ nx < 8) (hc : 0 ≤ ct ∧ ct ≤ 8) {y : Int} (y0 : -2147483648 ≤ y) (y1 : y < 2147483648)(hE : q_EN E N) (hLo : Lo h N)  : ∃ r_ h', q_cl E q_m_X7_letter [Value.ref x, Value.int (zi y)] h = some (r_, h') ∧ (RDx h x l ls nx ct kl n c hs fa kr kd_ (letO l y) r_ h') := by
  suffices K : ∀ Q : q_R → q_H → Prop, (∀ r_ h', (RDx h x l ls nx ct kl n c hs fa kr kd_ (letO l y) r_ h') → Q r_ h') → Xv E q_m_X7_letter 0 [Value.ref x, Value.int (zi y), Value.null] [] h Q from K _ fun _ _ p => p
  intro Q hQ
  obtain ⟨g0, g1, g2, g3, g4, gc, g5, g6, g7, gk, gl, gr, go⟩ := id hR
  obtain ⟨hX, ⟨p, hW⟩, hSN, hHI, hTX, hDS, hPL⟩ := id hC
  refine xv (x_aload_n 1 d_X7_letter_0 rfl rfl) ?_
  refine xv (x_getfield 4 d_X7_letter_1 rfl f_7_12 (Nat.le_of_ble_eq_true rfl) (Nat.le_of_ble_eq_true rfl) (q_gf_of hX rfl)) ?_
  refine xv (x_iload_n 5 d_X7_letter_4 rfl rfl) ?_
  refine xv (x_inv1 8 (as := [Value.int (zi y)]) d_X7_letter_5 rfl c_7_105 rfl (Nat.le_of_ble_eq_true rfl) (Nat.le_of_ble_eq_true rfl) (wh_o hW) (Nat.le_of_ble_eq_true rfl) (Nat.le_of_ble_eq_true rfl) rfl (S_X6_isCell hW hR (by omega) (by omega))) ?_
  show Xv E q_m_X7_letter 8 [Value.ref x, Value.int (zi y), Value.null] [Value.int (zi (bI (isC l y)))] h Q
  refine v_if_ne 19 11 d_X7_letter_8 rfl rfl (by have := bI_r (isC l y); omega) (by have := bI_r (isC l y); omega) (fun k8 => ?_) (fun k8 => ?_)
  · replace k8 := bI_n0.mp k8
    refine xv (x_aload_n 20 d_X7_letter_19 rfl rfl) ?_
    refine xv (x_getfield 23 d_X7_letter_20 rfl f_7_12 (Nat.le_of_ble_eq_true rfl) (Nat.le_of_ble_eq_true rfl) (q_gf_of hX rfl)) ?_
    refine xv (x_iload_n 24 d_X7_letter_23 rfl rfl) ?_
    refine xv (x_iconst 25 d_X7_letter_24 rfl) ?_
    refine xv (x_inv1 28 (as := [Value.int (zi y), Value.int (zi 0)]) d_X7_letter_25 rfl c_7_254 rfl (Nat.le_of_ble_eq_true rfl) (Nat.le_of_ble_eq_true rfl) (wh_o hW) (Nat.le_of_ble_eq_true rfl) (Nat.le_of_ble_eq_true rfl) rfl (S_X6_robotThere hW hR (by omega) (by omega) (by omega) (by omega))) ?_
    have q25 := @rin_r l y 0
    show Xv E q_m_X7_letter 28 [Value.ref x, Value.int (zi y), Value.null] [Value.int (zi (rin l y 0))] h Q
    refine xv (x_istore_n 29 d_X7_letter_28 rfl (Nat.le_of_ble_eq_true rfl)) ?_
    show Xv E q_m_X7_letter 29 [Value.ref x, Value.int (zi y), Value.int (zi (rin l y 0))] [] h Q
    refine xv (x_iload_n 30 d_X7_letter_29 rfl rfl) ?_
    refine xv (x_iconst 31 d_X7_letter_30 rfl) ?_
    refine v_icmp_eq 40 34 d_X7_letter_31 rfl rfl (by omega) (by omega) (by omega) (by omega) (fun k31 => ?_) (fun k31 => ?_)
    · refine xv (x_aload_n 41 d_X7_letter_40 rfl rfl) ?_
      refine xv (x_getfield 44 d_X7_letter_41 rfl f_7_12 (Nat.le_of_ble_eq_true rfl) (Nat.le_of_ble_eq_true rfl) (q_gf_of hX rfl)) ?_
      refine xv (x_getfield 47 d_X7_letter_44 rfl f_7_189 (Nat.le_of_ble_eq_true rfl) (Nat.le_of_ble_eq_true rfl) (q_gf_of (wh_o hW) rfl)) ?_
      refine xv (x_iload_n 48 d_X7_letter_47 rfl rfl) ?_
      refine xv (x_baload 49 d_X7_letter_48 rfl (ai_b (wh_c hW) (by omega) (by omega) (by decide))) ?_
      have q48 := gl y (by omega) (by omega)
      refine v_if_eq 57 52 d_X7_letter_49 rfl rfl (by omega) (by omega) (fun k49 => ?_) (fun k49 => ?_)
      · refine xv (x_aload_n 58 d_X7_letter_57 rfl rfl) ?_
        refine xv (x_getfield 61 d_X7_letter_58 rfl f_7_12 (Nat.le_of_ble_eq_true rfl) (Nat.le_of_ble_eq_true rfl) (q_gf_of hX rfl)) ?_
        refine xv (x_getfield 64 d_X7_letter_61 rfl f_7_157 (Nat.le_of_ble_eq_true rfl) (Nat.le_of_ble_eq_true rfl) (q_gf_of (wh_o hW) rfl)) ?_
        refine xv (x_iload_n 65 d_X7_letter_64 rfl rfl) ?_
        refine xv (x_iaload 66 d_X7_letter_65 rfl (ai_g (wh_k hW) (by omega) (by omega) (by decide))) ?_
        have q65 := gk y (by omega) (by omega)
        refine xv (x_ins1 69 (as := [Value.int (zi (l (8 + y)))]) d_X7_letter_66 rfl c_7_260 rfl (Nat.le_of_ble_eq_true rfl) (Nat.le_of_ble_eq_true rfl) (Nat.le_of_ble_eq_true rfl) rfl (S_X7_signOf hE hLo (by omega) (by omega))) ?_
        have q66 := sgK_r (l (8 + y))
        show Xv E q_m_X7_letter 69 [Value.ref x, Value.int (zi y), Value.int (zi (rin l y 0))] [Value.int (zi (sgK (l (8 + y))))] h Q
        refine xv_r (x_ireturn d_X7_letter_69 rfl (nc_i (by omega) (by omega))) ?_
        have er : letO l y = .inr (if ¬ rin l y 0 = -1 then 48 + rin l y 0 else if ¬ l (56 + y) = 0 then 120 else sgK (l (8 + y))) := by unfold letO; repeat (first | rw [if_pos (by omega)] | rw [if_neg (by omega)])
        refine hQ _ _ ⟨_, ⟨hX, ⟨_, hW⟩, hSN, hHI, hTX, hDS, hPL⟩, fr_rf, ?_⟩
        rw [er]
        exact ⟨by repeat (first | rw [if_pos (by omega)] | rw [if_neg (by omega)]), rfl⟩
      · refine xv (x_bipush 54 d_X7_letter_52 rfl rfl) ?_
        refine xv (x_goto 69 d_X7_letter_54 rfl) ?_
        refine xv_r (x_ireturn d_X7_letter_69 rfl rfl) ?_
        have er : letO l y = .inr (if ¬ rin l y 0 = -1 then 48 + rin l y 0 else if ¬ l (56 + y) = 0 then 120 else sgK (l (8 + y))) := by unfold letO; repeat (first | rw [if_pos (by omega)] | rw [if_neg (by omega)])
        refine hQ _ _ ⟨_, ⟨hX, ⟨_, hW⟩, hSN, hHI, hTX, hDS, hPL⟩, fr_rf, ?_⟩
        rw [er]
        exact ⟨by repeat (first | rw [if_pos (by omega)] | rw [if_neg (by omega)]), rfl⟩
    · refine xv (x_bipush 36 d_X7_letter_34 rfl rfl) ?_
      refine xv (x_iload_n 37 d_X7_letter_36 rfl rfl) ?_
      refine xv (x_iadd 38 d_X7_letter_37 rfl) ?_
      refine xv (x_i2c 39 d_X7_letter_38 rfl) ?_
      rw [zc_c (by omega) (by omega)]
      show Xv E q_m_X7_letter 39 [Value.ref x, Value.int (zi y), Value.int (zi (rin l y 0))] [Value.int (zi (48 + (rin l y 0)))] h Q
      refine xv_r (x_ireturn d_X7_letter_39 rfl (nc_i (by omega) (by omega))) ?_
      have er : letO l y = .inr (if ¬ rin l y 0 = -1 then 48 + rin l y 0 else if ¬ l (56 + y) = 0 then 120 else sgK (l (8 + y))) := by unfold letO; repeat (first | rw [if_pos (by omega)] | rw [if_neg (by omega)])
      refine hQ _ _ ⟨_, ⟨hX, ⟨_, hW⟩, hSN, hHI, hTX, hDS, hPL⟩, fr_rf, ?_⟩
      rw [er]
      exact ⟨by repeat (first | rw [if_pos (by omega)] | rw [if_neg (by omega)]), rfl⟩
  · replace k8 := bI_0.mp k8
    refine xv_r (x_throw d_X7_letter_11 rfl rfl (Nat.le_of_ble_eq_true rfl) (Nat.le_of_ble_eq_true rfl) rfl rfl (Nat.le_of_ble_eq_true rfl)) ?_
    have er : letO l y = .inl xIO := by unfold letO; repeat (first | rw [if_pos (by omega)] | rw [if_neg (by omega)])
    refine hQ _ _ ⟨_, ⟨hX, ⟨_, hW⟩, hSN, hHI, hTX, hDS, hPL⟩, fr_rf, ?_⟩
    rw [er]
    exact ⟨rfl, rfl⟩
/-- what a reader of floats answers -/
def RDV (h : q_H) (o : Sum String Value) (r : q_R) (h' : q_H) : Prop := h' = (match o with | .inl _ => thr_ h | .inr _ => h) ∧ r = (match o with | .inl e => .inr e | .inr v => .inl (some v))
noncomputable def ldO (l : Int → Int) : Sum String Value := if l 3 ≤ 0 then .inl xAE else .inr (.float (FP.fdiv (FP.i2f (zi (ldn l))) (FP.i2f (zi (l 3)))))
noncomputable def ltO (l : Int → Int) : Sum String Value := if oin l 2 ≤ 0 then .inl xAE else .inr (.double (FP.ddiv (FP.i2d (zi (lts l))) (FP.i2d (zi (oin l 2)))))
theorem S_X7_loaded (hC : CA h x l ls nx ct kl n c hs fa kr kd_) (hR : RgC l) (hn : 0 ≤ nx ∧ nx < 8) (hc : 0 ≤ ct ∧ ct ≤ 8)  : ∃ r_ h', q_cl E q_m_X7_loaded [Value.ref x] h = some (r_, h') ∧ (RDV h (ldO l) r_ h') := by
  suffices K : ∀ Q : q_R → q_H → Prop, (∀ r_ h', (RDV h (ldO l) r_ h') → Q r_ h') → Xv E q_m_X7_loaded 0 [Value.ref x] [] h Q from K _ fun _ _ p => p
  intro Q hQ
  obtain ⟨g0, g1, g2, g3, g4, gc, g5, g6, g7, gk, gl, gr, go⟩ := id hR
  obtain ⟨hX, ⟨p, hW⟩, hSN, hHI, hTX, hDS, hPL⟩ := id hC
  refine xv (x_aload_n 1 d_X7_loaded_0 rfl rfl) ?_
  refine xv (x_getfield 4 d_X7_loaded_1 rfl f_7_12 (Nat.le_of_ble_eq_true rfl) (Nat.le_of_ble_eq_true rfl) (q_gf_of hX rfl)) ?_
  refine xv (x_getfield 7 d_X7_loaded_4 rfl f_7_112 (Nat.le_of_ble_eq_true rfl) (Nat.le_of_ble_eq_true rfl) (q_gf_of (wh_o hW) rfl)) ?_
  refine v_if_gt 18 10 d_X7_loaded_7 rfl rfl (by omega) (by omega) (fun k7 => ?_) (fun k7 => ?_)
  · refine xv (x_aload_n 19 d_X7_loaded_18 rfl rfl) ?_
    refine xv (x_getfield 22 d_X7_loaded_19 rfl f_7_12 (Nat.le_of_ble_eq_true rfl) (Nat.le_of_ble_eq_true rfl) (q_gf_of hX rfl)) ?_
    refine xv (x_inv1 25 (as := []) d_X7_loaded_22 rfl c_7_328 rfl (Nat.le_of_ble_eq_true rfl) (Nat.le_of_ble_eq_true rfl) (wh_o hW) (Nat.le_of_ble_eq_true rfl) (Nat.le_of_ble_eq_true rfl) rfl (S_X6_loadedCount hW hR)) ?_
    show Xv E q_m_X7_loaded 25 [Value.ref x] [Value.int (zi (ldn l))] h Q
    refine xv (x_i2f 26 d_X7_loaded_25 rfl) ?_
    refine xv (x_aload_n 27 d_X7_loaded_26 rfl rfl) ?_
    refine xv (x_getfield 30 d_X7_loaded_27 rfl f_7_12 (Nat.le_of_ble_eq_true rfl) (Nat.le_of_ble_eq_true rfl) (q_gf_of hX rfl)) ?_
    refine xv (x_getfield 33 d_X7_loaded_30 rfl f_7_112 (Nat.le_of_ble_eq_true rfl) (Nat.le_of_ble_eq_true rfl) (q_gf_of (wh_o hW) rfl)) ?_
    refine xv (x_i2f 34 d_X7_loaded_33 rfl) ?_
    refine xv (x_fdiv 35 d_X7_loaded_34 rfl (fdiv_ok (by omega) (by omega))) ?_
    refine xv_r (x_freturn d_X7_loaded_35 rfl) ?_
    have er : ldO l = .inr (.float (FP.fdiv (FP.i2f (zi (ldn l))) (FP.i2f (zi (l 3))))) := by unfold ldO; first | exact if_pos (by omega) | exact if_neg (by omega)
    refine hQ _ _ ?_
    rw [er]
    exact ⟨rfl, rfl⟩
  · refine xv_r (x_throw d_X7_loaded_10 rfl rfl (Nat.le_of_ble_eq_true rfl) (Nat.le_of_ble_eq_true rfl) rfl rfl (Nat.le_of_ble_eq_true rfl)) ?_
    have er : ldO l = .inl xAE := by unfold ldO; first | exact if_pos (by omega) | exact if_neg (by omega)
    refine hQ _ _ ?_
    rw [er]
    exact ⟨rfl, rfl⟩
theorem S_X7_lateness (hC : CA h x l ls nx ct kl n c hs fa kr kd_) (hR : RgC l) (hn : 0 ≤ nx ∧ nx < 8) (hc : 0 ≤ ct ∧ ct ≤ 8)  : ∃ r_ h', q_cl E q_m_X7_lateness [Value.ref x] h = some (r_, h') ∧ (RDV h (ltO l) r_ h') := by
  suffices K : ∀ Q : q_R → q_H → Prop, (∀ r_ h', (RDV h (ltO l) r_ h') → Q r_ h') → Xv E q_m_X7_lateness 0 [Value.ref x, Value.null] [] h Q from K _ fun _ _ p => p
  intro Q hQ
  obtain ⟨g0, g1, g2, g3, g4, gc, g5, g6, g7, gk, gl, gr, go⟩ := id hR
  obtain ⟨hX, ⟨p, hW⟩, hSN, hHI, hTX, hDS, hPL⟩ := id hC
  refine xv (x_aload_n 1 d_X7_lateness_0 rfl rfl) ?_
  refine xv (x_getfield 4 d_X7_lateness_1 rfl f_7_12 (Nat.le_of_ble_eq_true rfl) (Nat.le_of_ble_eq_true rfl) (q_gf_of hX rfl)) ?_
  refine xv (x_iconst 5 d_X7_lateness_4 rfl) ?_
  refine xv (x_inv1 8 (as := [Value.int (zi 2)]) d_X7_lateness_5 rfl c_7_312 rfl (Nat.le_of_ble_eq_true rfl) (Nat.le_of_ble_eq_true rfl) (wh_o hW) (Nat.le_of_ble_eq_true rfl) (Nat.le_of_ble_eq_true rfl) rfl (S_X6_ordersIn hW hR (by omega) (by omega))) ?_
  have q5 : 0 ≤ oin l 2 ∧ oin l 2 ≤ 0 + ((l 4).toNat : Nat) := lpb_r
  show Xv E q_m_X7_lateness 8 [Value.ref x, Value.null] [Value.int (zi (oin l 2))] h Q
  refine xv (x_istore_n 9 d_X7_lateness_8 rfl (Nat.le_of_ble_eq_true rfl)) ?_
  show Xv E q_m_X7_lateness 9 [Value.ref x, Value.int (zi (oin l 2))] [] h Q
  refine xv (x_iload_n 10 d_X7_lateness_9 rfl rfl) ?_
  refine v_if_gt 21 13 d_X7_lateness_10 rfl rfl (by omega) (by omega) (fun k10 => ?_) (fun k10 => ?_)
  · refine xv (x_aload_n 22 d_X7_lateness_21 rfl rfl) ?_
    refine xv (x_getfield 25 d_X7_lateness_22 rfl f_7_12 (Nat.le_of_ble_eq_true rfl) (Nat.le_of_ble_eq_true rfl) (q_gf_of hX rfl)) ?_
    refine xv (x_inv1 28 (as := []) d_X7_lateness_25 rfl c_7_331 rfl (Nat.le_of_ble_eq_true rfl) (Nat.le_of_ble_eq_true rfl) (wh_o hW) (Nat.le_of_ble_eq_true rfl) (Nat.le_of_ble_eq_true rfl) rfl (S_X6_latenessSum hW hR)) ?_
    show Xv E q_m_X7_lateness 28 [Value.ref x, Value.int (zi (oin l 2))] [Value.int (zi (lts l))] h Q
    refine xv (x_i2d 29 d_X7_lateness_28 rfl) ?_
    refine xv (x_iload_n 30 d_X7_lateness_29 rfl rfl) ?_
    refine xv (x_i2d 31 d_X7_lateness_30 rfl) ?_
    refine xv (x_ddiv 32 d_X7_lateness_31 rfl (ddiv_ok (by omega) (by omega))) ?_
    refine xv_r (x_dreturn d_X7_lateness_32 rfl) ?_
    have er : ltO l = .inr (.double (FP.ddiv (FP.i2d (zi (lts l))) (FP.i2d (zi (oin l 2))))) := by unfold ltO; first | exact if_pos (by omega) | exact if_neg (by omega)
    refine hQ _ _ ?_
    rw [er]
    exact ⟨rfl, rfl⟩
  · refine xv_r (x_throw d_X7_lateness_13 rfl rfl (Nat.le_of_ble_eq_true rfl) (Nat.le_of_ble_eq_true rfl) rfl rfl (Nat.le_of_ble_eq_true rfl)) ?_
    have er : ltO l = .inl xAE := by unfold ltO; first | exact if_pos (by omega) | exact if_neg (by omega)
    refine hQ _ _ ?_
    rw [er]
    exact ⟨rfl, rfl⟩
end CV9
