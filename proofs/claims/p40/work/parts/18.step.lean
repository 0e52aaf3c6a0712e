/-! more step equations: switches, throws, calls; facts of contents -/
noncomputable def bI (P : Prop) : Int := @ite _ P (Classical.propDecidable P) 1 0
theorem bI_t {P : Prop} (h : P) : bI P = 1 := if_pos h
theorem bI_f {P : Prop} (h : ¬ P) : bI P = 0 := if_neg h
theorem bI_r (P : Prop) : 0 ≤ bI P ∧ bI P ≤ 1 := by
  by_cases h : P
  · rw [bI_t h]; omega
  · rw [bI_f h]; omega
theorem bI_0 {P : Prop} : bI P = 0 ↔ ¬ P := by
  by_cases h : P
  · rw [bI_t h]; exact ⟨fun e => by omega, fun e => absurd h e⟩
  · rw [bI_f h]; exact ⟨fun _ => h, fun _ => rfl⟩
theorem bI_1 {P : Prop} : bI P = 1 ↔ P := by
  by_cases h : P
  · rw [bI_t h]; exact ⟨fun _ => h, fun _ => rfl⟩
  · rw [bI_f h]; exact ⟨fun e => by omega, fun e => absurd e h⟩
theorem bI_c {P Q : Prop} (h : P ↔ Q) : bI P = bI Q := by
  by_cases hp : P
  · rw [bI_t hp, bI_t (h.mp hp)]
  · rw [bI_f hp, bI_f (fun q => hp (h.mpr q))]
/-- zi x is x kept -/
theorem zi_cong {x y : Int} (h : x = y) : zi x = zi y := by rw [h]
section QY
variable {E : q_E} {M M' : q_M} {pc pc' t len k : Nat} {i : Instr} {ls ls' st st' vs : List Value} {h h' : q_H} {x y z : Int} {v w : Value} {a b c0 n : Nat} {r : Option (q_R × q_H)}
theorem q_gf_of {ci : Nat} {fs : List Value} (ha : h.1 a = some (.inr (ci, fs))) (hk : fs[k]? = some v) : q_gf h a ci k = some v := by
  unfold q_gf
  rw [ha]
  simp only [if_pos]
  exact hk
theorem q_pf_of {ci : Nat} {fs : List Value} (ha : h.1 a = some (.inr (ci, fs))) (hk : k < fs.length) : q_pf h a ci k v = some (q_up h a (.inr (ci, fs.set k v))) := by
  unfold q_pf
  rw [ha]
  simp only
  rw [if_pos ⟨trivial, hk⟩]
theorem q_gI_of {tt n : Nat} {ty : FieldType} {f : Nat → Int32} (ha : h.1 a = some (.inl (tt, n, .inl f))) {z : Int} (h1 : 0 ≤ z) (h2 : z < n) (hn : n < 2147483648) : q_gI E h tt ty a (zi z) = some (.int (f z.toNat)) := by
  unfold q_gI
  rw [ha]
  simp only
  rw [if_pos ⟨trivial, zi_in h1 h2 hn⟩, zi_nat h1 (by omega)]
theorem q_gIro {n : Nat} {tt : Nat} {ty : FieldType} {f : Nat → Value} (h0 : h.1 a = none) (ha : E.2 a = some (ty, n, f)) {z : Int} (h1 : 0 ≤ z) (h2 : z < n) (hn : n < 2147483648) : q_gI E h tt ty a (zi z) = some (f z.toNat) := by
  unfold q_gI
  rw [h0]
  simp only [ha]
  rw [if_pos ⟨trivial, zi_in h1 h2 hn⟩, zi_nat h1 (by omega)]
theorem q_gB_of {n : Nat} {f : Nat → Int32} (ha : h.1 a = some (.inl (2, n, .inl f))) {z : Int} (h1 : 0 ≤ z) (h2 : z < n) (hn : n < 2147483648) : q_gB E h a (zi z) = some (.int (f z.toNat)) := by
  unfold q_gB
  rw [ha]
  exact q_gI_of ha h1 h2 hn
theorem q_gL_of {n : Nat} {f : Nat → Int64} (ha : h.1 a = some (.inl (1, n, .inr (.inl f)))) {z : Int} (h1 : 0 ≤ z) (h2 : z < n) (hn : n < 2147483648) : q_gL h a (zi z) = some (.long (f z.toNat)) := by
  unfold q_gL
  rw [ha]
  simp only
  rw [if_pos ⟨trivial, zi_in h1 h2 hn⟩, zi_nat h1 (by omega)]
theorem q_gQ_of {tt n : Nat} {f : Nat → Option Nat} (ha : h.1 a = some (.inl (tt, n, .inr (.inr (.inr (.inr f)))))) (ht : 5 ≤ tt ∧ tt ≤ 8) {z : Int} (h1 : 0 ≤ z) (h2 : z < n) (hn : n < 2147483648) {q : Nat} (hq : f z.toNat = some q) : q_gQ h a (zi z) = some (.ref q) := by
  unfold q_gQ
  rw [ha]
  simp only
  rw [if_pos ⟨ht, zi_in h1 h2 hn⟩, zi_nat h1 (by omega), hq]
  rfl
theorem q_sI_of {tt n : Nat} {f : Nat → Int32} {p : Int32} (ha : h.1 a = some (.inl (tt, n, .inl f))) {z : Int} (h1 : 0 ≤ z) (h2 : z < n) (hn : n < 2147483648) : q_sI h tt a (zi z) p = some (q_up h a (.inl (tt, n, .inl (upd f z.toNat p)))) := by
  unfold q_sI
  rw [ha]
  simp only
  rw [if_pos ⟨trivial, zi_in h1 h2 hn⟩, zi_nat h1 (by omega)]
theorem q_sL_of {n : Nat} {f : Nat → Int64} {p : Int64} (ha : h.1 a = some (.inl (1, n, .inr (.inl f)))) {z : Int} (h1 : 0 ≤ z) (h2 : z < n) (hn : n < 2147483648) : q_sL h a (zi z) p = some (q_up h a (.inl (1, n, .inr (.inl (vp_updL f z.toNat p))))) := by
  unfold q_sL
  rw [ha]
  simp only
  rw [if_pos ⟨trivial, zi_in h1 h2 hn⟩, zi_nat h1 (by omega)]
theorem q_len_of {tt n : Nat} {zz} (ha : h.1 a = some (.inl (tt, n, zz))) (ht : tt ≤ 8) : q_len E h a = some (zi n) := by
  unfold q_len
  rw [ha]
  simp only
  rw [if_pos ht]
  rfl
theorem q_len_ro {n : Nat} {ty : FieldType} {f : Nat → Value} (h0 : h.1 a = none) (ha : E.2 a = some (ty, n, f)) : q_len E h a = some (zi n) := by
  unfold q_len
  rw [h0]
  simp only [ha]
  rfl
theorem q_up_eq {e : va_E} : (q_up h a e).1 a = some e := if_pos rfl
theorem q_up_ne {e : va_E} (hb : b ≠ a) : (q_up h a e).1 b = h.1 b := if_neg hb
theorem x_tsw_in (t : Nat) (v : Int) {dflt lo hi off : Int} {offs : Array Int} (hd : decode M.2.1 pc = .ok (.tableswitch dflt lo hi offs, len)) (hx : x = v) (h1 : -2147483648 ≤ v) (h2 : v < 2147483648) (hr : ¬ (v < lo ∨ hi < v)) (ho : offs[(v - lo).toNat]? = some off) (ht : q_tgt pc off = some t) : q_ex E M pc ls (.int (zi x) :: st) h = q_ex E M t ls st h := by
  subst hx
  refine x_go (f := (t, ls, st, h)) hd ?_
  simp only [q_stepI]
  rw [zi_toInt h1 h2, if_neg hr, ho]
  simp only [q_go, ht]
  rfl
theorem x_tsw_out (t : Nat) {dflt lo hi : Int} {offs : Array Int} (hd : decode M.2.1 pc = .ok (.tableswitch dflt lo hi offs, len)) (h1 : -2147483648 ≤ x) (h2 : x < 2147483648) (hr : x < lo ∨ hi < x) (ht : q_tgt pc dflt = some t) : q_ex E M pc ls (.int (zi x) :: st) h = q_ex E M t ls st h := by
  refine x_go (f := (t, ls, st, h)) hd ?_
  simp only [q_stepI]
  rw [zi_toInt h1 h2, if_pos hr]
  simp only [q_go, ht]
  rfl
/-- 'throw new E()' -/
theorem x_throw {ix ic : Nat} {x : String} {ps : Nat × Nat} (hd : decode M.2.1 pc = .ok (.new ix, 3)) (hn : q_lk (q_new (q_own M)) ix = none) (he : q_lk (q_exc (q_own M)) ix = some (x, ic, ps)) (ho : q_own M < 10) (hg : 7 ≤ q_hgt M) (ht : q_thr M pc ic = true) (hh : q_hnd M = []) (hc : q_cat st ≤ 8) : q_ex E M pc ls st h = some (.inr x, (h.1, h.2.1.map (· + 1), h.2.2.1 + 1, h.2.2.2 + 6)) := by
  rw [q_ex_step, x_st hd]
  simp only [q_stepI, hn, he]
  rw [if_pos ⟨⟨⟨trivial, ho⟩, hg⟩, ht, hh, hc⟩]
  rfl
theorem x_inv1 (pc' : Nat) {ix n b : Nat} {ps : Nat × Nat × Nat × Nat} {as rest fs : List Value} {u : Value} (hd : decode M.2.1 pc = .ok (.invokevirtual ix, 3)) (hp : pc + 3 = pc') (hf : q_lk (q_cal (q_own M)) ix = some (1, n, M', ps)) (hn : as.length = n) (ho : q_own M' < 9) (hg : q_hgt M' < q_hgt M) (hb : h.1 b = some (.inr (q_own M', fs))) (hcat : q_cat rest ≤ 8) (hl : (q_exp (.ref b :: as)).length ≤ M'.2.2.1)
    (hst : st = as.reverse ++ .ref b :: rest) (hc : q_cl E M' (.ref b :: as) h = some (.inl (some u), h')) : q_ex E M pc ls st h = q_ex E M pc' ls (u :: rest) h' := x_inv pc' hd hp hf hn ho hg hb hcat hl hst hc
theorem x_inv0 (pc' : Nat) {ix n b : Nat} {ps : Nat × Nat × Nat × Nat} {as rest fs : List Value} (hd : decode M.2.1 pc = .ok (.invokevirtual ix, 3)) (hp : pc + 3 = pc') (hf : q_lk (q_cal (q_own M)) ix = some (1, n, M', ps)) (hn : as.length = n) (ho : q_own M' < 9) (hg : q_hgt M' < q_hgt M) (hb : h.1 b = some (.inr (q_own M', fs))) (hcat : q_cat rest ≤ 8) (hl : (q_exp (.ref b :: as)).length ≤ M'.2.2.1)
    (hst : st = as.reverse ++ .ref b :: rest) (hc : q_cl E M' (.ref b :: as) h = some (.inl none, h')) : q_ex E M pc ls st h = q_ex E M pc' ls rest h' := x_inv pc' hd hp hf hn ho hg hb hcat hl hst hc
theorem x_ins1 (pc' : Nat) {ix n : Nat} {ps : Nat × Nat × Nat × Nat} {as rest : List Value} {u : Value} (hd : decode M.2.1 pc = .ok (.invokestatic ix, 3)) (hp : pc + 3 = pc') (hf : q_lk (q_cal (q_own M)) ix = some (0, n, M', ps)) (hn : as.length = n) (hg : q_hgt M' < q_hgt M) (hcat : q_cat rest ≤ 8) (hl : (q_exp as).length ≤ M'.2.2.1)
    (hst : st = as.reverse ++ rest) (hc : q_cl E M' as h = some (.inl (some u), h')) : q_ex E M pc ls st h = q_ex E M pc' ls (u :: rest) h' := x_ins pc' hd hp hf hn hg hcat hl hst hc
theorem x_ins0 (pc' : Nat) {ix n : Nat} {ps : Nat × Nat × Nat × Nat} {as rest : List Value} (hd : decode M.2.1 pc = .ok (.invokestatic ix, 3)) (hp : pc + 3 = pc') (hf : q_lk (q_cal (q_own M)) ix = some (0, n, M', ps)) (hn : as.length = n) (hg : q_hgt M' < q_hgt M) (hcat : q_cat rest ≤ 8) (hl : (q_exp as).length ≤ M'.2.2.1)
    (hst : st = as.reverse ++ rest) (hc : q_cl E M' as h = some (.inl none, h')) : q_ex E M pc ls st h = q_ex E M pc' ls rest h' := x_ins pc' hd hp hf hn hg hcat hl hst hc
/-- a constructor's call -/
theorem x_ini (pc' : Nat) {ix n b : Nat} {ps : Nat × Nat × Nat × Nat} {as rest : List Value} (hd : decode M.2.1 pc = .ok (.invokespecial ix, 3)) (hp : pc + 3 = pc') (hf : q_lk (q_cal (q_own M)) ix = some (2, n, M', ps)) (hn : as.length = n) (hg : q_hgt M' < q_hgt M) (hcat : q_cat rest ≤ 8) (hl : (q_exp (.ref b :: as)).length ≤ M'.2.2.1)
    (hst : st = as.reverse ++ .ref b :: rest) (hc : q_cl E M' (.ref b :: as) h = some (.inl none, h')) : q_ex E M pc ls st h = q_ex E M pc' ls rest h' := by
  subst hp; subst hst; subst hn
  refine x_call (c := (M', 2, .ref b :: as, rest)) (u := none) ?_ hc
  rw [x_st hd]
  simp only [q_stepI, hf]
  rw [if_pos ⟨trivial, trivial⟩]
  have e1 : (as.reverse ++ .ref b :: rest).take as.length = as.reverse := by rw [← List.length_reverse, List.take_left]
  have e2 : (as.reverse ++ .ref b :: rest).drop as.length = .ref b :: rest := by rw [← List.length_reverse, List.drop_left]
  unfold q_call
  rw [if_pos ⟨hg, by simp⟩]
  simp only [e1, e2, List.reverse_reverse]
  rw [if_pos ⟨hcat, hl⟩]
/-- Object's constructor -/
theorem x_obj (pc' : Nat) {ix pp : Nat} (hd : decode M.2.1 pc = .ok (.invokespecial ix, 3)) (hp : pc + 3 = pc') (hn : q_lk (q_cal (q_own M)) ix = none) (hf : q_lk (q_obi (q_own M)) ix = some pp) (ho : q_own M < 17) (hg : 1 ≤ q_hgt M) (hc : q_cat st ≤ 8) (hv : q_lk (q_cav (q_own M)) ix = none := by rfl) : q_ex E M pc ls (.ref a :: st) h = q_ex E M pc' ls st h := by
  subst hp
  refine x_go (f := (pc + 3, ls, st, h)) hd ?_
  simp only [q_stepI, hn, hv, hf]
  rw [if_pos ⟨⟨trivial, ho⟩, hg, hc⟩]
  rfl
theorem x_new (pc' : Nat) {ix ci : Nat} {ps : Nat × Nat × Nat} {a : Nat} (hd : decode M.2.1 pc = .ok (.new ix, 3)) (hp : pc + 3 = pc') (hn : q_lk (q_new (q_own M)) ix = some (ci, ps)) (ho : q_own M < 17) (ha : h.2.1 = some a) : q_ex E M pc ls st h = q_ex E M pc' ls (.ref a :: st) (q_al h a (.inr (ci, q_df ci)) (q_N ci)) := by
  subst hp
  refine x_go (f := (pc + 3, ls, .ref a :: st, q_al h a (.inr (ci, q_df ci)) (q_N ci))) hd ?_
  simp only [q_stepI, hn, ha]
  rw [if_pos ⟨trivial, ho⟩]
  rfl
theorem x_newarray (pc' : Nat) {ty : ArrayType} {tt : Nat} {ft : FieldType} {a : Nat} (hd : decode M.2.1 pc = .ok (.newarray ty, 2)) (hp : pc + 2 = pc') (hn : q_na ty = some (tt, ft)) (ha : h.2.1 = some a) (h1 : 0 ≤ x) (h2 : x ≤ 1000000) : q_ex E M pc ls (.int (zi x) :: st) h = q_ex E M pc' ls (.ref a :: st) (q_al h a (.inl (tt, x.toNat, q_z tt)) x.toNat) := by
  subst hp
  have e1 : (zi x).toNatClampNeg = x.toNat := zi_nat h1 (by omega)
  have e2 : ¬ zi x < 0 := by
    rw [show (0 : Int32) = zi 0 from rfl, zi_lt (by omega) (by omega) (by omega) (by omega)]
    omega
  refine x_go (f := (pc + 2, ls, .ref a :: st, q_al h a (.inl (tt, x.toNat, q_z tt)) x.toNat)) hd ?_
  simp only [q_stepI, hn, ha]
  rw [e1, if_pos ⟨trivial, e2, by omega⟩]
  rfl
theorem x_anewarray (pc' : Nat) {ix tt : Nat} {ps : Nat × Nat} {a : Nat} (hd : decode M.2.1 pc = .ok (.anewarray ix, 3)) (hp : pc + 3 = pc') (hn : q_lk (q_anw (q_own M)) ix = some (tt, ps)) (ho : q_own M < 10) (ha : h.2.1 = some a) (h1 : 0 ≤ x) (h2 : x ≤ 1000000) : q_ex E M pc ls (.int (zi x) :: st) h = q_ex E M pc' ls (.ref a :: st) (q_al h a (.inl (tt, x.toNat, .inr (.inr (.inr (.inr fun _ => none))))) x.toNat) := by
  subst hp
  have e1 : (zi x).toNatClampNeg = x.toNat := zi_nat h1 (by omega)
  have e2 : ¬ zi x < 0 := by
    rw [show (0 : Int32) = zi 0 from rfl, zi_lt (by omega) (by omega) (by omega) (by omega)]
    omega
  refine x_go (f := (pc + 3, ls, .ref a :: st, q_al h a (.inl (tt, x.toNat, .inr (.inr (.inr (.inr fun _ => none))))) x.toNat)) hd ?_
  simp only [q_stepI, hn, ha]
  rw [e1, if_pos ⟨⟨trivial, ho⟩, e2, by omega⟩]
  rfl
theorem x_mmax (pc' : Nat) {ix : Nat} {ps : Nat × Nat × Nat × Nat} (hd : decode M.2.1 pc = .ok (.invokestatic ix, 3)) (hp : pc + 3 = pc') (hn : q_lk (q_cal (q_own M)) ix = none) (hq : q_lk (q_acp (q_own M)) ix = none) (hf : q_lk (q_mth (q_own M)) ix = some (0, ps)) (ho : q_own M < 17) (hg : 1 ≤ q_hgt M) (hc : q_cat st ≤ 8) (h1 : -2147483648 ≤ x) (h2 : x < 2147483648) (h3 : -2147483648 ≤ y) (h4 : y < 2147483648) : q_ex E M pc ls (.int (zi y) :: .int (zi x) :: st) h = q_ex E M pc' ls (.int (zi (max x y)) :: st) h := by
  subst hp
  refine x_go (f := (pc + 3, ls, .int (zi (max x y)) :: st, h)) hd ?_
  simp only [q_stepI, hn, hq, hf]
  rw [if_pos ⟨⟨trivial, ho⟩, hg, hc⟩]
  have e : (if zi x < zi y then zi y else zi x) = zi (max x y) := by
    by_cases hl : x < y
    · rw [if_pos ((zi_lt h1 h2 h3 h4).mpr hl), Int.max_eq_right (by omega)]
    · rw [if_neg (fun e => hl ((zi_lt h1 h2 h3 h4).mp e)), Int.max_eq_left (by omega)]
  rw [← e]
  rfl
theorem x_mmin (pc' : Nat) {ix : Nat} {ps : Nat × Nat × Nat × Nat} (hd : decode M.2.1 pc = .ok (.invokestatic ix, 3)) (hp : pc + 3 = pc') (hn : q_lk (q_cal (q_own M)) ix = none) (hq : q_lk (q_acp (q_own M)) ix = none) (hf : q_lk (q_mth (q_own M)) ix = some (1, ps)) (ho : q_own M < 17) (hg : 1 ≤ q_hgt M) (hc : q_cat st ≤ 8) (h1 : -2147483648 ≤ x) (h2 : x < 2147483648) (h3 : -2147483648 ≤ y) (h4 : y < 2147483648) : q_ex E M pc ls (.int (zi y) :: .int (zi x) :: st) h = q_ex E M pc' ls (.int (zi (min x y)) :: st) h := by
  subst hp
  refine x_go (f := (pc + 3, ls, .int (zi (min x y)) :: st, h)) hd ?_
  simp only [q_stepI, hn, hq, hf]
  rw [if_pos ⟨⟨trivial, ho⟩, hg, hc⟩]
  have e : (if zi y < zi x then zi y else zi x) = zi (min x y) := by
    by_cases hl : y < x
    · rw [if_pos ((zi_lt h3 h4 h1 h2).mpr hl), Int.min_eq_right (by omega)]
    · rw [if_neg (fun e => hl ((zi_lt h3 h4 h1 h2).mp e)), Int.min_eq_left (by omega)]
  rw [← e]
  rfl
/-- System.arraycopy -/
theorem x_copy (pc' : Nat) {ix pp a0 a : Nat} {n dp sp : Int32} (hd : decode M.2.1 pc = .ok (.invokestatic ix, 3)) (hp : pc + 3 = pc') (hn : q_lk (q_cal (q_own M)) ix = none) (hf : q_lk (q_acp (q_own M)) ix = some pp) (ho : q_own M < 17) (hg : 1 ≤ q_hgt M) (hc : q_cat st ≤ 8) (hv : q_cpy E h a0 sp a dp n = some h') : q_ex E M pc ls (.int n :: .int dp :: .ref a :: .int sp :: .ref a0 :: st) h = q_ex E M pc' ls st h' := by
  subst hp
  refine x_go (f := (pc + 3, ls, st, h')) hd ?_
  simp only [q_stepI, hn, hf, hv]
  rw [if_pos ⟨⟨trivial, ho⟩, hg, hc⟩]
  rfl
theorem q_cpy_I {n0 n1 : Nat} {f g : Nat → Int32} (h0 : h.1 a = some (.inl (0, n0, .inl f))) (h1 : h.1 b = some (.inl (0, n1, .inl g))) {sp dp n : Int} (e1 : 0 ≤ sp) (e2 : 0 ≤ dp) (e3 : 0 ≤ n) (e4 : sp + n ≤ n0) (e5 : dp + n ≤ n1) (e6 : n0 < 2147483648) (e7 : n1 < 2147483648) : q_cpy E h a (zi sp) b (zi dp) (zi n) = some (q_up h b (.inl (0, n1, .inl (va_cpy f g sp.toNat dp.toNat n.toNat)))) := by
  have nn : ∀ z : Int, 0 ≤ z → z < 2147483648 → ¬ zi z < 0 := fun z k1 k2 => by
    rw [show (0 : Int32) = zi 0 from rfl, zi_lt (by omega) (by omega) (by omega) (by omega)]
    omega
  unfold q_cpy
  rw [h0, h1]
  simp only
  rw [if_pos ⟨⟨trivial, Or.inl trivial⟩, ⟨⟨nn _ e1 (by omega), nn _ e2 (by omega), nn _ e3 (by omega)⟩, by rw [zi_nat e1 (by omega), zi_nat e3 (by omega)]; omega, by rw [zi_nat e2 (by omega), zi_nat e3 (by omega)]; omega⟩, fun k => absurd k (by decide), fun k => absurd k (by decide)⟩, zi_nat e1 (by omega), zi_nat e2 (by omega), zi_nat e3 (by omega)]
/-! bytes, strings, what the law's own code needs beside -/
theorem x_ldcs (pc' : Nat) {ix i pp : Nat} (hd : decode M.2.1 pc = .ok (.ldc ix, 2)) (hp : pc + 2 = pc') (hf : q_lk (q_lst (q_own M)) ix = some (i, pp)) (ho : q_own M < 17) (hv : E.1 (6 + 2 * i) = some v) : q_ex E M pc ls st h = q_ex E M pc' ls (v :: st) h := by
  subst hp
  refine x_go (f := (pc + 2, ls, v :: st, h)) hd ?_
  simp only [q_stepI, hf, hv]
  rw [if_pos ⟨trivial, ho⟩]
  rfl
theorem x_ldcw (pc' : Nat) {ix i pp : Nat} (hd : decode M.2.1 pc = .ok (.ldc_w ix, 3)) (hp : pc + 3 = pc') (hf : q_lk (q_lst (q_own M)) ix = some (i, pp)) (ho : q_own M < 17) (hv : E.1 (6 + 2 * i) = some v) : q_ex E M pc ls st h = q_ex E M pc' ls (v :: st) h := by
  subst hp
  refine x_go (f := (pc + 3, ls, v :: st, h)) hd ?_
  simp only [q_stepI, hf, hv]
  rw [if_pos ⟨trivial, ho⟩]
  rfl
theorem x_ldci (pc' : Nat) {ix pp : Nat} {q : Int32} (hd : decode M.2.1 pc = .ok (.ldc ix, 2)) (hp : pc + 2 = pc') (hn : q_lk (q_lst (q_own M)) ix = none) (hf : q_lk (q_ldi (q_own M)) ix = some (q, pp)) (ho : q_own M < 17) : q_ex E M pc ls st h = q_ex E M pc' ls (.int q :: st) h := by
  subst hp
  refine x_go (f := (pc + 2, ls, .int q :: st, h)) hd ?_
  simp only [q_stepI, hn, hf]
  rw [if_pos ⟨trivial, ho⟩]
  rfl
theorem x_aconst_null (pc' : Nat) (hd : decode M.2.1 pc = .ok (.aconst_null, 1)) (hp : pc + 1 = pc') : q_ex E M pc ls st h = q_ex E M pc' ls (.null :: st) h := by
  subst hp
  exact x_go (f := (pc + 1, ls, .null :: st, h)) hd (by simp only [q_stepI, if_pos]; rfl)
theorem x_iushr (pc' : Nat) {p q : Int32} (hd : decode M.2.1 pc = .ok (.iushr, 1)) (hp : pc + 1 = pc') : q_ex E M pc ls (.int q :: .int p :: st) h = q_ex E M pc' ls (.int (p.toUInt32 >>> (q.toUInt32 &&& Int32.toUInt32 31)).toInt32 :: st) h := by
  subst hp
  exact x_go (f := (pc + 1, ls, .int (p.toUInt32 >>> (q.toUInt32 &&& Int32.toUInt32 31)).toInt32 :: st, h)) hd (by simp only [q_stepI, if_pos]; rfl)
theorem x_ineg (pc' : Nat) {p : Int32} (hd : decode M.2.1 pc = .ok (.ineg, 1)) (hp : pc + 1 = pc') : q_ex E M pc ls (.int p :: st) h = q_ex E M pc' ls (.int (-p) :: st) h := by
  subst hp
  exact x_go (f := (pc + 1, ls, .int (-p) :: st, h)) hd (by simp only [q_stepI, if_pos]; rfl)
theorem x_lmul (pc' : Nat) {p q : Int64} (hd : decode M.2.1 pc = .ok (.lmul, 1)) (hp : pc + 1 = pc') : q_ex E M pc ls (.long q :: .long p :: st) h = q_ex E M pc' ls (.long (p * q) :: st) h := by
  subst hp
  exact x_go (f := (pc + 1, ls, .long (p * q) :: st, h)) hd (by simp only [q_stepI, if_pos]; rfl)
theorem x_ladd (pc' : Nat) {p q : Int64} (hd : decode M.2.1 pc = .ok (.ladd, 1)) (hp : pc + 1 = pc') : q_ex E M pc ls (.long q :: .long p :: st) h = q_ex E M pc' ls (.long (p + q) :: st) h := by
  subst hp
  exact x_go (f := (pc + 1, ls, .long (p + q) :: st, h)) hd (by simp only [q_stepI, if_pos]; rfl)
theorem x_ifnull (pc' : Nat) {off : Int} (hd : decode M.2.1 pc = .ok (.ifnull off, 3)) (hp : pc + 3 = pc') : q_ex E M pc ls (.ref a :: st) h = q_ex E M pc' ls st h := by
  subst hp
  exact x_go (f := (pc + 3, ls, st, h)) hd (by simp only [q_stepI, if_pos]; rfl)
theorem x_ifnonnull (t : Nat) {off : Int} (hd : decode M.2.1 pc = .ok (.ifnonnull off, 3)) (ht : q_tgt pc off = some t) : q_ex E M pc ls (.ref a :: st) h = q_ex E M t ls st h := by
  refine x_go (f := (t, ls, st, h)) hd ?_
  simp only [q_stepI, if_pos, q_go, ht]
  rfl
theorem x_areturn {n : String} (hd : decode M.2.1 pc = .ok (.areturn, 1)) (hr : q_ret M = some (.object n)) : q_ex E M pc ls [.ref a] h = some (.inl (some (.ref a)), h) := by
  rw [q_ex_step, x_st hd]
  simp only [q_stepI, hr]
  rfl
theorem x_areturnA {ty : FieldType} (hd : decode M.2.1 pc = .ok (.areturn, 1)) (hr : q_ret M = some (.array ty)) : q_ex E M pc ls [.ref a] h = some (.inl (some (.ref a)), h) := by
  rw [q_ex_step, x_st hd]
  simp only [q_stepI, hr]
  rfl
theorem x_checkcast (pc' : Nat) {ix pp : Nat} {f : Nat → Int32} (hd : decode M.2.1 pc = .ok (.checkcast ix, 3)) (hp : pc + 3 = pc') (hf : q_lk (q_ckc (q_own M)) ix = some pp) (ho : q_own M < 17) (ha : h.1 a = some (.inl (4, n, .inl f))) : q_ex E M pc ls (.ref a :: st) h = q_ex E M pc' ls (.ref a :: st) h := by
  subst hp
  refine x_go (f := (pc + 3, ls, .ref a :: st, h)) hd ?_
  have e : q_cl1 h a = some (n, f) := by unfold q_cl1; rw [ha]; rfl
  simp only [q_stepI, hf, e]
  rw [if_pos ⟨trivial, ho⟩]
  rfl
theorem x_clone (pc' : Nat) {ix pp q : Nat} {f : Nat → Int32} (hd : decode M.2.1 pc = .ok (.invokevirtual ix, 3)) (hp : pc + 3 = pc') (h1 : q_lk (q_cal (q_own M)) ix = none) (h2 : q_lk (q_cav (q_own M)) ix = none) (hf : q_lk (q_cln (q_own M)) ix = some pp) (ho : q_own M < 17) (hg : 1 ≤ q_hgt M) (hc : q_cat st ≤ 8) (ha : h.1 a = some (.inl (4, n, .inl f))) (hq : h.2.1 = some q) (hfit : ∀ i, i < n → fits .byte (.int (f i)) = true) : q_ex E M pc ls (.ref a :: st) h = q_ex E M pc' ls (.ref q :: st) (q_al h q (.inl (4, n, .inl f)) n) := by
  subst hp
  refine x_go (f := (pc + 3, ls, .ref q :: st, q_al h q (.inl (4, n, .inl f)) n)) hd ?_
  have e : q_cl1 h a = some (n, f) := by unfold q_cl1; rw [ha]; rfl
  simp only [q_stepI, h1, h2, hq, hf, e]
  rw [if_pos ⟨⟨⟨trivial, ho⟩, hg, hc⟩, hfit⟩]
  rfl
theorem x_cU {kd ix : Nat} {y : MethodName} {ps : Nat × Nat × Nat × Nat × Nat × Nat} {b : Nat} {as rest fs : List Value} {u : Option Value} (hk : (kd = 3 ∧ i = .invokevirtual ix) ∨ (kd = 4 ∧ i = .invokespecial ix)) (hd : decode M.2.1 pc = .ok (i, 3)) (h1 : q_lk (q_cal (q_own M)) ix = none) (hf : q_lk (q_cav (q_own M)) ix = some (kd, as.length, y, M', ps)) (ho : q_own M < 17) (hg : q_hgt M' < q_hgt M) (hb : h.1 b = some (.inr (8, fs))) (hcat : q_cat rest ≤ 8) (hl : (q_exp (.ref b :: as)).length ≤ M'.2.2.1)
    (hst : st = as.reverse ++ .ref b :: rest) (hc : q_cl E M' (.ref b :: as) h = some (.inl u, h')) : q_ex E M pc ls st h = q_ex E M (pc + 3) ls (u.toList ++ rest) h' := by
  subst hst
  have e1 : (as.reverse ++ .ref b :: rest).take as.length = as.reverse := by rw [← List.length_reverse, List.take_left]
  have e2 : (as.reverse ++ .ref b :: rest).drop as.length = .ref b :: rest := by rw [← List.length_reverse, List.drop_left]
  have key : q_callU M as.length M' (as.reverse ++ .ref b :: rest) h = some (.inr (.inl (M', 2, .ref b :: as, rest))) := by
    unfold q_callU
    rw [if_pos ⟨hg, by simp⟩]
    simp only [e1, e2, List.reverse_reverse, hb]
    rw [if_pos ⟨hcat, hl⟩]
  refine x_call (c := (M', 2, .ref b :: as, rest)) ?_ hc
  rw [x_st hd]
  rcases hk with ⟨rfl, rfl⟩ | ⟨rfl, rfl⟩
  · simp only [q_stepI, h1, hf]
    rw [if_pos ⟨⟨trivial, trivial⟩, ho⟩]
    exact key
  · simp only [q_stepI, h1, hf]
    rw [if_pos ⟨⟨trivial, trivial⟩, ho⟩]
    exact key
/-- a call on a StringBuilder of what its superclass has -/
theorem x_invU (pc' : Nat) {ix : Nat} {y : MethodName} {ps : Nat × Nat × Nat × Nat × Nat × Nat} {b : Nat} {as rest fs : List Value} {u : Option Value} (hd : decode M.2.1 pc = .ok (.invokevirtual ix, 3)) (hp : pc + 3 = pc') (h1 : q_lk (q_cal (q_own M)) ix = none) (hf : q_lk (q_cav (q_own M)) ix = some (3, as.length, y, M', ps)) (ho : q_own M < 17) (hg : q_hgt M' < q_hgt M) (hb : h.1 b = some (.inr (8, fs))) (hcat : q_cat rest ≤ 8) (hl : (q_exp (.ref b :: as)).length ≤ M'.2.2.1)
    (hst : st = as.reverse ++ .ref b :: rest) (hc : q_cl E M' (.ref b :: as) h = some (.inl u, h')) : q_ex E M pc ls st h = q_ex E M pc' ls (u.toList ++ rest) h' := by
  subst hp
  exact x_cU (Or.inl ⟨rfl, rfl⟩) hd h1 hf ho hg hb hcat hl hst hc
/-- super.m(..) -/
theorem x_insS (pc' : Nat) {ix : Nat} {y : MethodName} {ps : Nat × Nat × Nat × Nat × Nat × Nat} {b : Nat} {as rest fs : List Value} {u : Option Value} (hd : decode M.2.1 pc = .ok (.invokespecial ix, 3)) (hp : pc + 3 = pc') (h1 : q_lk (q_cal (q_own M)) ix = none) (hf : q_lk (q_cav (q_own M)) ix = some (4, as.length, y, M', ps)) (ho : q_own M < 17) (hg : q_hgt M' < q_hgt M) (hb : h.1 b = some (.inr (8, fs))) (hcat : q_cat rest ≤ 8) (hl : (q_exp (.ref b :: as)).length ≤ M'.2.2.1)
    (hst : st = as.reverse ++ .ref b :: rest) (hc : q_cl E M' (.ref b :: as) h = some (.inl u, h')) : q_ex E M pc ls st h = q_ex E M pc' ls (u.toList ++ rest) h' := by
  subst hp
  exact x_cU (Or.inr ⟨rfl, rfl⟩) hd h1 hf ho hg hb hcat hl hst hc
/-- a string at a: an object in the heap, or one of the constants -/
def q_iS (E : q_E) (h : q_H) (a : Nat) : Prop := (∃ fs, h.1 a = some (.inr (9, fs))) ∨ (h.1 a = none ∧ (q_sx E a).isSome = true)
theorem x_invS (pc' : Nat) {ix n b : Nat} {ps : Nat × Nat × Nat × Nat} {as rest : List Value} {u : Option Value} (hd : decode M.2.1 pc = .ok (.invokevirtual ix, 3)) (hp : pc + 3 = pc') (hf : q_lk (q_cal (q_own M)) ix = some (1, n, M', ps)) (hn : as.length = n) (ho : q_own M' = 12) (hg : q_hgt M' < q_hgt M) (hb : q_iS E h b) (hcat : q_cat rest ≤ 8) (hl : (q_exp (.ref b :: as)).length ≤ M'.2.2.1)
    (hst : st = as.reverse ++ .ref b :: rest) (hc : q_cl E M' (.ref b :: as) h = some (.inl u, h')) : q_ex E M pc ls st h = q_ex E M pc' ls (u.toList ++ rest) h' := by
  subst hp; subst hst; subst hn
  refine x_call (c := (M', 1, .ref b :: as, rest)) ?_ hc
  rw [x_st hd]
  simp only [q_stepI, hf]
  rw [if_pos ⟨trivial, trivial⟩]
  have e1 : (as.reverse ++ .ref b :: rest).take as.length = as.reverse := by rw [← List.length_reverse, List.take_left]
  have e2 : (as.reverse ++ .ref b :: rest).drop as.length = .ref b :: rest := by rw [← List.length_reverse, List.drop_left]
  unfold q_call
  rw [if_pos ⟨hg, by simp⟩]
  rcases hb with ⟨fs, hb⟩ | ⟨hb, hb2⟩
  · simp only [e1, e2, List.reverse_reverse, hb]
    rw [if_pos ⟨hcat, hl⟩, if_pos ⟨by rw [ho]; rfl, by decide⟩]
  · simp only [e1, e2, List.reverse_reverse, hb]
    rw [if_pos ⟨hcat, hl⟩, if_pos ⟨ho, hb2⟩]
theorem q_cpy_B {n0 n1 : Nat} {f g : Nat → Int32} (h0 : h.1 a = some (.inl (4, n0, .inl f))) (h1 : h.1 b = some (.inl (4, n1, .inl g))) {sp dp n : Int} (e1 : 0 ≤ sp) (e2 : 0 ≤ dp) (e3 : 0 ≤ n) (e4 : sp + n ≤ n0) (e5 : dp + n ≤ n1) (e6 : n0 < 2147483648) (e7 : n1 < 2147483648) (hf : ∀ i, i < n.toNat → fits .byte (.int (f (sp.toNat + i))) = true) : q_cpy E h a (zi sp) b (zi dp) (zi n) = some (q_up h b (.inl (4, n1, .inl (va_cpy f g sp.toNat dp.toNat n.toNat)))) := by
  have nn : ∀ z : Int, 0 ≤ z → z < 2147483648 → ¬ zi z < 0 := fun z k1 k2 => by
    rw [show (0 : Int32) = zi 0 from rfl, zi_lt (by omega) (by omega) (by omega) (by omega)]
    omega
  unfold q_cpy
  rw [h0, h1]
  simp only
  rw [if_pos ⟨⟨trivial, Or.inr (Or.inr trivial)⟩, ⟨⟨nn _ e1 (by omega), nn _ e2 (by omega), nn _ e3 (by omega)⟩, by rw [zi_nat e1 (by omega), zi_nat e3 (by omega)]; omega, by rw [zi_nat e2 (by omega), zi_nat e3 (by omega)]; omega⟩, fun k => absurd k (by decide), fun _ i hi => by rw [zi_nat e1 (by omega)]; rw [zi_nat e3 (by omega)] at hi; exact hf i hi⟩, zi_nat e1 (by omega), zi_nat e2 (by omega), zi_nat e3 (by omega)]
theorem q_cpy_C {n0 n1 : Nat} {f : Nat → Value} {g : Nat → Int32} (h0 : h.1 a = none) (hE : E.2 a = some (.byte, n0, f)) (h1 : h.1 b = some (.inl (4, n1, .inl g))) {sp dp n : Int} (e1 : 0 ≤ sp) (e2 : 0 ≤ dp) (e3 : 0 ≤ n) (e4 : sp + n ≤ n0) (e5 : dp + n ≤ n1) (e6 : n0 < 2147483648) (e7 : n1 < 2147483648) (hf : ∀ i, i < n.toNat → f (sp.toNat + i) = .int (q_iv f (sp.toNat + i)) ∧ fits .byte (.int (q_iv f (sp.toNat + i))) = true) : q_cpy E h a (zi sp) b (zi dp) (zi n) = some (q_up h b (.inl (4, n1, .inl (va_cpy (q_iv f) g sp.toNat dp.toNat n.toNat)))) := by
  have nn : ∀ z : Int, 0 ≤ z → z < 2147483648 → ¬ zi z < 0 := fun z k1 k2 => by
    rw [show (0 : Int32) = zi 0 from rfl, zi_lt (by omega) (by omega) (by omega) (by omega)]
    omega
  unfold q_cpy
  rw [h0, h1]
  simp only [hE]
  rw [if_pos ⟨trivial, ⟨⟨nn _ e1 (by omega), nn _ e2 (by omega), nn _ e3 (by omega)⟩, by rw [zi_nat e1 (by omega), zi_nat e3 (by omega)]; omega, by rw [zi_nat e2 (by omega), zi_nat e3 (by omega)]; omega⟩, fun i hi => by rw [zi_nat e1 (by omega)]; rw [zi_nat e3 (by omega)] at hi; exact hf i hi⟩, zi_nat e1 (by omega), zi_nat e2 (by omega), zi_nat e3 (by omega)]
end QY
