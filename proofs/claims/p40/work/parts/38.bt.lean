/-! bits of a long; more steps; walks from cell to cell -/
section BT
variable {E : q_E} {M M' : q_M} {pc pc' : Nat} {ls ls' st st' vs : List Value} {h h' : q_H} {x y : Int} {Q : q_R → q_H → Prop} {r : q_R} {a n : Nat} {p q v : Int64}
/-- a bit of a long -/
def bt (x : Int64) (c : Int) : Prop := x.toBitVec.getLsbD c.toNat = true
def lsh (p : Int64) (q : Int32) : Int64 := p <<< (q.toInt64 &&& 63)
def lur (p : Int64) (q : Int32) : Int64 := (p.toUInt64 >>> (q.toInt64.toUInt64 &&& Int64.toUInt64 63)).toInt64
theorem bt_or {c : Int} : bt (p ||| q) c ↔ bt p c ∨ bt q c := by
  unfold bt
  rw [Int64.toBitVec_or, BitVec.getLsbD_or, Bool.or_eq_true]
theorem bt_and {c : Int} : bt (p &&& q) c ↔ bt p c ∧ bt q c := by
  unfold bt
  rw [Int64.toBitVec_and, BitVec.getLsbD_and, Bool.and_eq_true]
theorem bt_0 {c : Int} : ¬ bt 0 c := by
  unfold bt
  rw [show (0 : Int64).toBitVec = 0#64 from rfl, BitVec.getLsbD_zero]
  exact Bool.false_ne_true
theorem bt_not {c : Int} (h0 : 0 ≤ c) (h1 : c < 64) : bt (p ^^^ (-1)) c ↔ ¬ bt p c := by
  unfold bt
  rw [Int64.toBitVec_xor, BitVec.getLsbD_xor, show (-1 : Int64).toBitVec = BitVec.allOnes 64 by decide, BitVec.getLsbD_allOnes, decide_eq_true (show c.toNat < 64 by omega)]
  cases p.toBitVec.getLsbD c.toNat <;> simp
theorem bt_c : ∀ k, k < 64 → ((nI k).toInt64 &&& 63) = lN k := by decide +kernel
theorem bt_cu : ∀ k, k < 64 → ((nI k).toInt64.toUInt64 &&& Int64.toUInt64 63) = UInt64.ofNat k := by decide +kernel
theorem bt_1 : ∀ k, k < 64 → ((1 : Int64) <<< lN k).toBitVec = BitVec.ofNat 64 (2 ^ k) := by decide +kernel
theorem bt_sh {k c : Int} (h0 : 0 ≤ k) (h1 : k < 64) (h2 : 0 ≤ c) (h3 : c < 64) : bt (lsh 1 (zi k)) c ↔ c = k := by
  obtain ⟨j, rfl⟩ := Int.eq_ofNat_of_zero_le h0
  unfold bt lsh
  rw [show zi (j : Int) = nI j from rfl, bt_c j (by omega), bt_1 j (by omega), BitVec.getLsbD_ofNat, decide_eq_true (show c.toNat < 64 by omega), Bool.true_and, Nat.testBit_two_pow]
  constructor
  · intro e
    have := of_decide_eq_true e
    omega
  · intro e
    exact decide_eq_true (by omega)
theorem bt_t {c : Int} (h0 : 0 ≤ c) (h1 : c < 64) : (lur p (zi c)) &&& 1 = 0 ↔ ¬ bt p c := by
  obtain ⟨j, rfl⟩ := Int.eq_ofNat_of_zero_le h0
  unfold bt lur
  rw [show zi (j : Int) = nI j from rfl, bt_cu j (by omega)]
  have hs : (UInt64.ofNat j).toNat = j := by
    show (BitVec.ofNat 64 j).toNat = j
    rw [BitVec.toNat_ofNat, Nat.mod_eq_of_lt (by omega)]
  have e : (p.toUInt64 >>> UInt64.ofNat j).toInt64.toBitVec = p.toBitVec >>> j := by
    apply BitVec.eq_of_toNat_eq
    show (p.toUInt64 >>> UInt64.ofNat j).toNat = _
    rw [UInt64.toNat_shiftRight, hs, Nat.mod_eq_of_lt (by omega), BitVec.toNat_ushiftRight]
    rfl
  rw [← Int64.toBitVec_inj, Int64.toBitVec_and, e]
  show p.toBitVec >>> j &&& 1#64 = 0#64 ↔ _
  rw [Int.toNat_natCast]
  constructor
  · intro g
    have t := congrArg (fun x => x.getLsbD 0) g
    simpa using t
  · intro g
    apply BitVec.eq_of_getLsbD_eq
    intro i hi
    cases i with
    | zero => simp [g]
    | succ i => simp
theorem bt_z : p = 0 ↔ ∀ c : Int, 0 ≤ c → c < 64 → ¬ bt p c := by
  constructor
  · intro e c _ _
    rw [e]
    exact bt_0
  · intro k
    apply Int64.toBitVec_inj.mp
    apply BitVec.eq_of_getLsbD_eq
    intro i hi
    have := k i (by omega) (by omega)
    unfold bt at this
    rw [Int.toNat_natCast] at this
    rw [show (0 : Int64).toBitVec = 0#64 from rfl, BitVec.getLsbD_zero]
    exact Bool.eq_false_iff.mpr this
theorem bt_x : p = q ↔ ∀ c : Int, 0 ≤ c → c < 64 → (bt p c ↔ bt q c) := by
  constructor
  · intro e c _ _
    rw [e]
  · intro k
    apply Int64.toBitVec_inj.mp
    apply BitVec.eq_of_getLsbD_eq
    intro i hi
    have := k i (by omega) (by omega)
    unfold bt at this
    rw [Int.toNat_natCast] at this
    exact Bool.eq_iff_iff.mpr this
theorem lc_0 : lg_cmp p q = 0 ↔ p = q := by
  unfold lg_cmp
  by_cases h1 : p > q
  · rw [if_pos h1]
    exact ⟨fun e => absurd e (by decide), fun e => by subst e; exact absurd h1 (Int64.lt_irrefl)⟩
  · rw [if_neg h1]
    by_cases h2 : p = q
    · rw [if_pos h2]
      exact ⟨fun _ => h2, fun _ => rfl⟩
    · rw [if_neg h2]
      exact ⟨fun e => absurd e (by decide), fun e => absurd e h2⟩
theorem v_leq (t n : Nat) {off : Int} (hd : decode M.2.1 pc = .ok (.ifCond .eq off, 3)) (ht : q_tgt pc off = some t) (hn : pc + 3 = n) (kt : p = q → Xv E M t ls st h Q) (kf : ¬ p = q → Xv E M n ls st h Q) : Xv E M pc ls (.int (lg_cmp p q) :: st) h Q := by
  obtain ⟨z, e, z1, z2⟩ := zi_of (lg_cmp p q)
  have k : z = 0 ↔ p = q := by
    rw [← lc_0, e, show (0 : Int32) = zi 0 from rfl, zi_eq z1 z2 (by omega) (by omega)]
  rw [e]
  exact v_if_eq t n hd ht hn z1 z2 (fun a => kt (k.mp a)) (fun a => kf (fun b => a (k.mpr b)))
theorem v_lne (t n : Nat) {off : Int} (hd : decode M.2.1 pc = .ok (.ifCond .ne off, 3)) (ht : q_tgt pc off = some t) (hn : pc + 3 = n) (kt : ¬ p = q → Xv E M t ls st h Q) (kf : p = q → Xv E M n ls st h Q) : Xv E M pc ls (.int (lg_cmp p q) :: st) h Q := by
  obtain ⟨z, e, z1, z2⟩ := zi_of (lg_cmp p q)
  have k : z = 0 ↔ p = q := by
    rw [← lc_0, e, show (0 : Int32) = zi 0 from rfl, zi_eq z1 z2 (by omega) (by omega)]
  rw [e]
  exact v_if_ne t n hd ht hn z1 z2 (fun a => kt (fun b => a (k.mpr b))) (fun a => kf (k.mp a))
theorem x_ldc2_w (pc' : Nat) {ix : Nat} {x : Int64} {pp : Nat} (hd : decode M.2.1 pc = .ok (.ldc2_w ix, 3)) (hp : pc + 3 = pc') (hf : q_lk (q_ldl (q_own M)) ix = some (x, pp)) (ho : q_own M < 17) : q_ex E M pc ls st h = q_ex E M pc' ls (.long x :: st) h := by
  subst hp
  refine x_go (f := (pc + 3, ls, .long x :: st, h)) hd ?_
  simp only [q_stepI, hf]
  rw [if_pos ⟨trivial, ho⟩]
  rfl
/-- a row of longs -/
def AL (h : q_H) (a n : Nat) (f : Int → Int64) : Prop := ∃ g : Nat → Int64, h.1 a = some (.inl (1, n, .inr (.inl g))) ∧ ∀ k : Nat, k < n → g k = f k
def uL (f : Int → Int64) (k : Int) (v : Int64) : Int → Int64 := fun i => if i = k then v else f i
theorem uL_eq {f : Int → Int64} {k : Int} : uL f k v k = v := if_pos rfl
theorem uL_ne {f : Int → Int64} {k i : Int} (h : i ≠ k) : uL f k v i = f i := if_neg h
theorem al_fr {f : Int → Int64} {b m : Nat} (H : AL h a n f) (F : Fr b m h h') (k : a < b ∨ b + m ≤ a) : AL h' a n f := by
  obtain ⟨g, h1, h2⟩ := H
  exact ⟨g, (F.2 a k).trans h1, h2⟩
theorem al_cg {f f' : Int → Int64} (H : AL h a n f) (k : ∀ i : Int, 0 ≤ i → i < n → f i = f' i) : AL h a n f' := by
  obtain ⟨g, h1, h2⟩ := H
  exact ⟨g, h1, fun i hi => (h2 i hi).trans (k i (by omega) (by omega))⟩
theorem al_g {f : Int → Int64} {z : Int} (H : AL h a n f) (h1 : 0 ≤ z) (h2 : z < n) (hn : n < 2147483648) : q_gL h a (zi z) = some (.long (f z)) := by
  obtain ⟨g, e1, e2⟩ := H
  rw [q_gL_of e1 h1 h2 hn, e2 _ (by omega), Int.toNat_of_nonneg h1]
theorem al_l {f : Int → Int64} (H : AL h a n f) : q_len E h a = some (zi n) := by
  obtain ⟨g, e1, e2⟩ := H
  exact q_len_of e1 (by decide)
theorem al_s {f : Int → Int64} {z : Int} (H : AL h a n f) (h1 : 0 ≤ z) (h2 : z < n) (hn : n < 2147483648) : ∃ h', q_sL h a (zi z) v = some h' ∧ AL h' a n (uL f z v) ∧ Fr a 1 h h' := by
  obtain ⟨g, e1, e2⟩ := H
  refine ⟨_, q_sL_of e1 h1 h2 hn, ⟨_, q_up_eq, fun k hk => ?_⟩, fr_up⟩
  show (if k = z.toNat then v else g k) = (if (k : Int) = z then v else f k)
  by_cases hz : k = z.toNat
  · rw [if_pos hz, if_pos (by omega)]
  · rw [if_neg hz, if_neg (by omega), e2 k hk]
theorem al_c {b : Nat} {f g0 : Int → Int64} (H0 : AL h b n g0) (H : AL h a n f) (e7 : n < 2147483648) : ∃ h', q_cpy E h b (zi 0) a (zi 0) (zi n) = some h' ∧ AL h' a n g0 ∧ Fr a 1 h h' := by
  obtain ⟨g, a1, a2⟩ := H0
  obtain ⟨g2, b1, b2⟩ := H
  have en : (zi n).toNatClampNeg = n := by rw [zi_nat (by omega) (by omega)]; omega
  have e0 : (zi 0).toNatClampNeg = 0 := by rw [zi_nat (by omega) (by omega)]; omega
  have nn : ∀ z : Int, 0 ≤ z → z < 2147483648 → ¬ zi z < 0 := fun z k1 k2 => by
    rw [show (0 : Int32) = zi 0 from rfl, zi_lt (by omega) (by omega) (by omega) (by omega)]
    omega
  refine ⟨q_up h a (.inl (1, n, .inr (.inl (va_cpy g g2 0 0 n)))), ?_, ⟨_, q_up_eq, fun k hk => ?_⟩, fr_up⟩
  · unfold q_cpy
    rw [a1, b1]
    simp only
    rw [if_pos ⟨⟨trivial, trivial⟩, ⟨nn _ (by omega) (by omega), nn _ (by omega) (by omega), nn _ (by omega) (by omega)⟩, by omega, by omega⟩, en, e0]
  · show (if 0 ≤ k ∧ k < 0 + n then g (0 + (k - 0)) else g2 k) = _
    rw [if_pos (by omega), show 0 + (k - 0) = k by omega, a2 k hk]
end BT
/-! walks -/
def edge (s : Int → Int) (a b : Int) : Prop := ∃ w, (0 ≤ w ∧ w < 4) ∧ bes s a w = b ∧ 0 ≤ b ∧ ent s b
def wk (s : Int → Int) : Nat → Int → Int → Prop
  | 0, a, b => a = b
  | n + 1, a, b => ∃ c, edge s a c ∧ wk s n c b
/-- the least number of steps below r of a walk, -1: none -/
noncomputable def dsB (s : Int → Int) (r : Nat) (a b : Int) : Int := fnd (fun n => wk s n.toNat a b) r 0
noncomputable def dst (s : Int → Int) (a b : Int) : Int := dsB s 48 a b
section FN
variable {P : Int → Prop}
theorem fnd_no {n : Nat} {k : Int} (h : ∀ i, k ≤ i → i < k + n → ¬ P i) : fnd P n k = -1 := by
  induction n generalizing k with
  | zero => rfl
  | succ n ih => rw [fnd_f (h k (by omega) (by omega))]; exact ih (fun i a b => h i (by omega) (by omega))
theorem fnd_p {n : Nat} {k : Int} (h : fnd P n k ≠ -1) : (k ≤ fnd P n k ∧ fnd P n k < k + n) ∧ P (fnd P n k) ∧ ∀ i, k ≤ i → i < fnd P n k → ¬ P i := by
  induction n generalizing k with
  | zero => exact absurd rfl h
  | succ n ih =>
    by_cases q : P k
    · rw [fnd_t q]
      exact ⟨by omega, q, fun i a b => by omega⟩
    · rw [fnd_f q] at h ⊢
      obtain ⟨a, b, c⟩ := ih h
      refine ⟨by omega, b, fun i x y => ?_⟩
      by_cases e : i = k
      · subst e; exact q
      · exact c i (by omega) y
theorem fnd_y {n : Nat} {k i : Int} (hk : 0 ≤ k) (h1 : k ≤ i) (h2 : i < k + n) (hp : P i) (hn : ∀ j, k ≤ j → j < i → ¬ P j) : fnd P n k = i := by
  induction n generalizing k with
  | zero => omega
  | succ n ih =>
    by_cases q : P k
    · rw [fnd_t q]
      by_cases e : k = i
      · exact e
      · exact absurd q (hn k (by omega) (by omega))
    · rw [fnd_f q]
      have : k ≠ i := fun e => q (e ▸ hp)
      exact ih (by omega) (by omega) (by omega) (fun j a b => hn j (by omega) b)
theorem fnd_1 {n : Nat} {k : Int} (hk : 0 ≤ k) : fnd P n k = -1 ↔ ∀ i, k ≤ i → i < k + n → ¬ P i := by
  constructor
  · intro h i a b p
    -- the least that holds
    induction n generalizing k with
    | zero => omega
    | succ n ih =>
      by_cases q : P k
      · rw [fnd_t q] at h; omega
      · rw [fnd_f q] at h
        by_cases e : i = k
        · subst e; exact q p
        · exact ih (by omega) h (by omega) (by omega)
  · exact fnd_no
theorem fnd_s {n : Nat} : fnd P (n + 1) 0 = if fnd P n 0 = -1 then (@ite _ (P n) (Classical.propDecidable _) (n : Int) (-1)) else fnd P n 0 := by
  by_cases h : fnd P n 0 = -1
  · rw [if_pos h]
    have hn := (fnd_1 (by omega)).mp h
    by_cases q : P n
    · rw [if_pos q]
      exact fnd_y (by omega) (by omega) (by omega) q (fun j a b => hn j a (by omega))
    · rw [if_neg q]
      refine fnd_no (fun i a b => ?_)
      by_cases e : i = n
      · subst e; exact q
      · exact hn i a (by omega)
  · rw [if_neg h]
    obtain ⟨a, b, c⟩ := fnd_p h
    exact fnd_y (by omega) a.1 (by omega) b c
end FN
