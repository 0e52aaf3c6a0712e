/-! distances by table, in the class (printed by program) -/
abbrev rc (s : Int → Int) (r : Nat) (a b : Int) : Prop := ∃ n, n < r ∧ wk s n a b
theorem dsB_n {s : Int → Int} {r : Nat} {a b : Int} : dsB s r a b = -1 ↔ ¬ rc s r a b := by
  unfold dsB
  rw [fnd_1 (by omega)]
  constructor
  · rintro h ⟨n, hn, hw⟩
    exact h n (by omega) (by omega) (by rw [Int.toNat_natCast]; exact hw)
  · intro h i x y hw
    exact h ⟨i.toNat, by omega, hw⟩
theorem dsB_y {s : Int → Int} {r : Nat} {a b : Int} : ¬ dsB s r a b = -1 ↔ rc s r a b := by
  rw [dsB_n]
  exact Classical.not_not
theorem rc_s {s : Int → Int} {r : Nat} {a b : Int} : rc s (r + 1) a b ↔ a = b ∨ ∃ c, edge s a c ∧ rc s r c b := by
  constructor
  · rintro ⟨n, hn, hw⟩
    match n, hw with
    | 0, hw => exact .inl hw
    | n + 1, ⟨c, e, w⟩ => exact .inr ⟨c, e, n, by omega, w⟩
  · rintro (h | ⟨c, e, n, hn, hw⟩)
    · exact ⟨0, by omega, h⟩
    · exact ⟨n + 1, by omega, c, e, hw⟩
theorem rc_u {s : Int → Int} {r : Nat} {a b : Int} (hr : 1 ≤ r) : rc s (r + 1) a b ↔ rc s r a b ∨ ∃ c, edge s a c ∧ rc s r c b := by
  rw [rc_s]
  constructor
  · rintro (h | h)
    · exact .inl ⟨0, hr, h⟩
    · exact .inr h
  · rintro (⟨n, hn, hw⟩ | h)
    · exact rc_s.mp ⟨n, by omega, hw⟩
    · exact .inr h
theorem dsB_s {s : Int → Int} {r : Nat} {a b : Int} : dsB s (r + 1) a b = if dsB s r a b = -1 then (@ite _ (wk s r a b) (Classical.propDecidable _) (r : Int) (-1)) else dsB s r a b := by
  have := @fnd_s (fun n => wk s n.toNat a b) r
  rw [Int.toNat_natCast] at this
  exact this
theorem dsB_new {s : Int → Int} {r : Nat} {a b : Int} (h : dsB s r a b = -1) (k : rc s (r + 1) a b) : dsB s (r + 1) a b = r := by
  rw [dsB_s, if_pos h, if_pos]
  obtain ⟨n, hn, hw⟩ := k
  by_cases e : n = r
  · subst e; exact hw
  · exact absurd ⟨n, by omega, hw⟩ (dsB_n.mp h)
theorem dsB_old {s : Int → Int} {r : Nat} {a b : Int} (h : ¬ (dsB s r a b = -1 ∧ rc s (r + 1) a b)) : dsB s (r + 1) a b = dsB s r a b := by
  rw [dsB_s]
  by_cases q : dsB s r a b = -1
  · rw [if_pos q, if_neg, q]
    exact fun w => h ⟨q, r, by omega, w⟩
  · rw [if_neg q]
theorem dsB_r {s : Int → Int} {r : Nat} {a b : Int} : -1 ≤ dsB s r a b ∧ dsB s r a b < r := by
  have := @fnd_r (fun n => wk s n.toNat a b) r 0
  show -1 ≤ fnd _ r 0 ∧ fnd _ r 0 < (r : Int)
  omega
/-- where a round finds nothing new, none does later -/
theorem dsB_st {s : Int → Int} {r : Nat} (hc : ∀ a c, isC s a → edge s a c → isC s c) (h : ∀ a b, isC s a → isC s b → dsB s (r + 1) a b = dsB s r a b) : ∀ (k : Nat) (a b : Int), isC s a → isC s b → dsB s (r + k) a b = dsB s r a b := by
  intro k
  have key : ∀ (k : Nat) (a b : Int), isC s a → isC s b → (rc s (r + k + 1) a b → rc s (r + k) a b) := by
    intro k
    induction k with
    | zero =>
      intro a b ha hb x
      have e := h a b ha hb
      exact dsB_y.mp (fun q => dsB_y.mpr x (e.trans q))
    | succ k ih =>
      intro a b ha hb x
      rcases rc_s.mp x with x | ⟨c, e, x⟩
      · exact ⟨0, by omega, x⟩
      · exact rc_s.mpr (.inr ⟨c, e, ih c b (hc a c ha e) hb x⟩)
  induction k with
  | zero => exact fun _ _ _ _ => rfl
  | succ k ih =>
    intro a b ha hb
    rw [← ih a b ha hb]
    exact dsB_old (fun x => dsB_n.mp x.1 (key k a b ha hb x.2))
theorem edge_c {s : Int → Int} (hR : RgC s) {a c : Int} (ha : isC s a) (h : edge s a c) : isC s c := by
  obtain ⟨w, hw, e, h0, _⟩ := h
  have := besC_r (w := w) hR ha
  rw [e] at this
  omega
/-- the class's table at d: 48 rows of 48 -/
def tw (d : Nat) (a : Int) : Nat := d + 4 + a.toNat
def TB (h : q_H) (d : Nat) (T : Int → Int → Int) : Prop := (∃ g : Nat → Option Nat, h.1 (d + 3) = some (.inl (8, 48, .inr (.inr (.inr (.inr g))))) ∧ ∀ i : Nat, i < 48 → g i = some (tw d i)) ∧ ∀ a, 0 ≤ a → a < 48 → AI h (tw d a) 0 48 (T a)
section CF
variable {E : q_E} {h h' : q_H} {w v a b t N k d : Nat} {l lo f g c q : Int → Int} {p p2 pk : Int → Nat} {n R C z r tr tc : Int} {to : Int64} {T : Int → Int → Int} {NE WI : Int → Int64}
theorem tw_b {a : Int} (h1 : 0 ≤ a) (h2 : a < 48) : d + 4 ≤ tw d a ∧ tw d a + 1 ≤ d + 52 := by unfold tw; omega
theorem tb_g (H : TB h d T) (h1 : 0 ≤ z) (h2 : z < 48) : q_gQ h (d + 3) (zi z) = some (.ref (tw d z)) := by
  obtain ⟨⟨g, e, k⟩, _⟩ := H
  have := k z.toNat (by omega)
  rw [Int.toNat_of_nonneg h1] at this
  exact q_gQ_of e (by omega) h1 h2 (by decide) this
theorem tb_fr {b m : Nat} (H : TB h d T) (F : Fr b m h h') (k : d + 52 ≤ b ∨ b + m ≤ d + 3) : TB h' d T := by
  obtain ⟨⟨g, e, x⟩, y⟩ := H
  refine ⟨⟨g, (F.2 _ (by omega)).trans e, x⟩, fun a a1 a2 => ?_⟩
  have := tw_b (d := d) a1 a2
  exact ai_fr (y a a1 a2) F (by omega)
theorem tb_w (H : TB h d T) (h1 : 0 ≤ z) (h2 : z < 48) (A : AI h' (tw d z) 0 48 f) (F : Fr (tw d z) 1 h h') : TB h' d (fun i => if i = z then f else T i) := by
  obtain ⟨⟨g, e, x⟩, y⟩ := H
  have hb := tw_b (d := d) h1 h2
  refine ⟨⟨g, (F.2 _ (by omega)).trans e, x⟩, fun a a1 a2 => ?_⟩
  show AI h' (tw d a) 0 48 (if a = z then f else T a)
  by_cases q : a = z
  · subst q; rw [if_pos rfl]; exact A
  · rw [if_neg q]
    have : tw d a ≠ tw d z := by unfold tw; omega
    exact ai_fr (y a a1 a2) F (by omega)
theorem S_X0_noteRound (hA : AI h a 0 48 f) {v : Int64} {r : Int} : ∃ r_ h', q_cl E q_m_X0_noteRound [Value.ref a, Value.long v, Value.int (zi r)] h = some (r_, h') ∧ (r_ = .inl none ∧ (∃ f', (∀ i, 0 ≤ i → i < 48 → (bt v i → f' i = r) ∧ (¬ bt v i → f' i = f i)) ∧ AI h' a 0 48 f') ∧ Fr a 1 h h') := by
  suffices K : ∀ Q : q_R → q_H → Prop, (∀ r_ h', (r_ = .inl none ∧ (∃ f', (∀ i, 0 ≤ i → i < 48 → (bt v i → f' i = r) ∧ (¬ bt v i → f' i = f i)) ∧ AI h' a 0 48 f') ∧ Fr a 1 h h') → Q r_ h') → Xv E q_m_X0_noteRound 0 [Value.ref a, Value.long v, Value.null, Value.int (zi r), Value.null] [] h Q from K _ fun _ _ p => p
  intro Q hQ
  refine xv (x_iconst 1 d_X0_noteRound_0 rfl) ?_
  refine xv (x_istore 3 d_X0_noteRound_1 rfl (Nat.le_of_ble_eq_true rfl)) ?_
  show Xv E q_m_X0_noteRound 3 [Value.ref a, Value.long v, Value.null, Value.int (zi r), Value.int (zi 0)] [] h Q
  have L3 : ∀ (n_ : Nat) (k : Int) (m : Int → Int) (H : q_H), (0 ≤ k) → (k ≤ 48) → (∀ i, 0 ≤ i → i < 48 → (i < k → (bt v i → m i = r) ∧ (¬ bt v i → m i = f i)) ∧ (k ≤ i → m i = f i)) → (AI H a 0 48 m) → (Fr a 1 h H) → (48 - k).toNat = n_ → Xv E q_m_X0_noteRound 3 [Value.ref a, Value.long v, Value.null, Value.int (zi r), Value.int (zi k)] [] H Q := by
    intro n_
    induction n_ using Nat.strongRecOn with
    | _ n_ ih3 =>
      intro k m H k0 k1 hm hA2 hF2 em
      refine xv (x_iload 5 d_X0_noteRound_3 rfl rfl) ?_
      refine xv (x_aload_n 6 d_X0_noteRound_5 rfl rfl) ?_
      refine xv (x_arraylength 7 d_X0_noteRound_6 rfl (ai_l hA2 (by decide))) ?_
      refine v_icmp_ge 32 10 d_X0_noteRound_7 rfl rfl (by omega) (by omega) (by omega) (by omega) (fun k7 => ?_) (fun k7 => ?_)
      · refine xv_r (x_return d_X0_noteRound_32 rfl) ?_
        exact hQ _ _ ⟨rfl, ⟨_, fun i i0 i1 => (hm i i0 i1).1 (by omega), hA2⟩, hF2⟩
      · refine xv (x_lload_n 11 d_X0_noteRound_10 rfl rfl) ?_
        refine xv (x_iload 13 d_X0_noteRound_11 rfl rfl) ?_
        refine xv (x_lushr 14 d_X0_noteRound_13 rfl) ?_
        show Xv E q_m_X0_noteRound 14 [Value.ref a, Value.long v, Value.null, Value.int (zi r), Value.int (zi k)] [Value.long (lur v (zi k))] H Q
        refine xv (x_lconst 15 d_X0_noteRound_14 rfl) ?_
        show Xv E q_m_X0_noteRound 15 [Value.ref a, Value.long v, Value.null, Value.int (zi r), Value.int (zi k)] [Value.long 1, Value.long (lur v (zi k))] H Q
        refine xv (x_land 16 d_X0_noteRound_15 rfl) ?_
        refine xv (x_lconst 17 d_X0_noteRound_16 rfl) ?_
        show Xv E q_m_X0_noteRound 17 [Value.ref a, Value.long v, Value.null, Value.int (zi r), Value.int (zi k)] [Value.long 0, Value.long ((lur v (zi k)) &&& 1)] H Q
        refine xv (x_lcmp 18 d_X0_noteRound_17 rfl) ?_
        refine v_leq 26 21 d_X0_noteRound_18 rfl rfl (fun k18 => ?_) (fun k18 => ?_)
        · refine xv (x_iinc 29 d_X0_noteRound_26 rfl rfl) ?_
          show Xv E q_m_X0_noteRound 29 [Value.ref a, Value.long v, Value.null, Value.int (zi r), Value.int (zi (k + 1))] [] H Q
          refine xv (x_goto 3 d_X0_noteRound_29 rfl) ?_
          refine ih3 _ (by omega) (k + 1) _ _ (by omega) (by omega) (fun i a b => ?_) hA2 hF2 rfl
          by_cases z : i = k
          · subst z
            exact ⟨fun _ => ⟨fun x => absurd x ((bt_t a (by omega)).mp k18), fun _ => (hm i a b).2 (by omega)⟩, fun c => by omega⟩
          · exact ⟨fun c => (hm i a b).1 (by omega), fun c => (hm i a b).2 (by omega)⟩
        · refine xv (x_aload_n 22 d_X0_noteRound_21 rfl rfl) ?_
          refine xv (x_iload 24 d_X0_noteRound_22 rfl rfl) ?_
          refine xv (x_iload_n 25 d_X0_noteRound_24 rfl rfl) ?_
          obtain ⟨h25, e25, w25, f25⟩ := ai_s (z := k) (v := r) hA2 (by omega) (by omega) (by decide)
          have F25 : Fr a 1 h h25 := fr_tr hF2 (fr_in f25 (by omega) (by omega))
          refine xv (x_iastore 26 d_X0_noteRound_25 rfl e25) ?_
          show Xv E q_m_X0_noteRound 26 [Value.ref a, Value.long v, Value.null, Value.int (zi r), Value.int (zi k)] [] h25 Q
          refine xv (x_iinc 29 d_X0_noteRound_26 rfl rfl) ?_
          show Xv E q_m_X0_noteRound 29 [Value.ref a, Value.long v, Value.null, Value.int (zi r), Value.int (zi (k + 1))] [] h25 Q
          refine xv (x_goto 3 d_X0_noteRound_29 rfl) ?_
          refine ih3 _ (by omega) (k + 1) _ _ (by omega) (by omega) (fun i a b => ?_) w25 F25 rfl
          by_cases z : i = k
          · subst z
            rw [u1_eq]
            exact ⟨fun _ => ⟨fun _ => rfl, fun x => absurd k18 (fun e => x (Classical.not_not.mp (fun y => e ((bt_t a (by omega)).mpr y))))⟩, fun c => by omega⟩
          · rw [u1_ne z]
            exact ⟨fun c => (hm i a b).1 (by omega), fun c => (hm i a b).2 (by omega)⟩
  exact L3 _ 0 f _ (by omega) (by omega) (fun i a b => ⟨fun c => by omega, fun _ => rfl⟩) hA fr_rf rfl
theorem S_X0_nearOfNeighbors {a : Int} (ha : isC l a) (hW : WH h w l p) (hR : RgC l) (hD : DSo h d w tr tc to) (hN : AL h (d + 52) 48 NE) : ∃ r_ h', q_cl E q_m_X0_nearOfNeighbors [Value.ref d, Value.int (zi a)] h = some (r_, h') ∧ (∃ x, (r_ = .inl (some (.long x)) ∧ h' = h) ∧ ∀ c, 0 ≤ c → c < 64 → (bt x c ↔ ∃ u, (0 ≤ u ∧ u < 4) ∧ (isC l (bes l a u) ∧ ent l (bes l a u)) ∧ bt (NE (bes l a u)) c)) := by
  suffices K : ∀ Q : q_R → q_H → Prop, (∀ r_ h', (∃ x, (r_ = .inl (some (.long x)) ∧ h' = h) ∧ ∀ c, 0 ≤ c → c < 64 → (bt x c ↔ ∃ u, (0 ≤ u ∧ u < 4) ∧ (isC l (bes l a u) ∧ ent l (bes l a u)) ∧ bt (NE (bes l a u)) c)) → Q r_ h') → Xv E q_m_X0_nearOfNeighbors 0 [Value.ref d, Value.int (zi a), Value.null, Value.null, Value.null, Value.null] [] h Q from K _ fun _ _ p => p
  intro Q hQ
  obtain ⟨g0, g1, g2, g3, g4, gc, g5, g6, g7, gk, gl, gr, go⟩ := id hR
  refine xv (x_lconst 1 d_X0_nearOfNeighbors_0 rfl) ?_
  show Xv E q_m_X0_nearOfNeighbors 1 [Value.ref d, Value.int (zi a), Value.null, Value.null, Value.null, Value.null] [Value.long 0] h Q
  refine xv (x_lstore_n 2 d_X0_nearOfNeighbors_1 rfl (Nat.le_of_ble_eq_true rfl)) ?_
  show Xv E q_m_X0_nearOfNeighbors 2 [Value.ref d, Value.int (zi a), Value.long 0, Value.null, Value.null, Value.null] [] h Q
  refine xv (x_iconst 3 d_X0_nearOfNeighbors_2 rfl) ?_
  refine xv (x_istore 5 d_X0_nearOfNeighbors_3 rfl (Nat.le_of_ble_eq_true rfl)) ?_
  show Xv E q_m_X0_nearOfNeighbors 5 [Value.ref d, Value.int (zi a), Value.long 0, Value.null, Value.int (zi 0), Value.null] [] h Q
  have L5 : ∀ (n_ : Nat) (x : Int64) (k : Int) (x5 : Value), (0 ≤ k) → (k ≤ 4) → (∀ c, 0 ≤ c → c < 64 → (bt x c ↔ ∃ u, (0 ≤ u ∧ u < k) ∧ (isC l (bes l a u) ∧ ent l (bes l a u)) ∧ bt (NE (bes l a u)) c)) → (4 - k).toNat = n_ → Xv E q_m_X0_nearOfNeighbors 5 [Value.ref d, Value.int (zi a), Value.long x, Value.null, Value.int (zi k), x5] [] h Q := by
    intro n_
    induction n_ using Nat.strongRecOn with
    | _ n_ ih5 =>
      intro x k x5 k0 k1 hx em
      refine xv (x_iload 7 d_X0_nearOfNeighbors_5 rfl rfl) ?_
      refine xv (x_iconst 8 d_X0_nearOfNeighbors_7 rfl) ?_
      refine v_icmp_ge 51 11 d_X0_nearOfNeighbors_8 rfl rfl (by omega) (by omega) (by omega) (by omega) (fun k8 => ?_) (fun k8 => ?_)
      · refine xv (x_lload_n 52 d_X0_nearOfNeighbors_51 rfl rfl) ?_
        refine xv_r (x_lreturn d_X0_nearOfNeighbors_52 rfl) ?_
        refine hQ _ _ ⟨_, ⟨rfl, rfl⟩, fun c c0 c1 => ?_⟩
        rw [hx c c0 c1, show k = 4 by omega]
      · refine xv (x_aload_n 12 d_X0_nearOfNeighbors_11 rfl rfl) ?_
        refine xv (x_getfield 15 d_X0_nearOfNeighbors_12 rfl f_0_9 (Nat.le_of_ble_eq_true rfl) (Nat.le_of_ble_eq_true rfl) (q_gf_of hD rfl)) ?_
        refine xv (x_iload_n 16 d_X0_nearOfNeighbors_15 rfl rfl) ?_
        refine xv (x_iload 18 d_X0_nearOfNeighbors_16 rfl rfl) ?_
        refine xv (x_inv1 21 (as := [Value.int (zi a), Value.int (zi k)]) d_X0_nearOfNeighbors_18 rfl c_0_54 rfl (Nat.le_of_ble_eq_true rfl) (Nat.le_of_ble_eq_true rfl) (wh_o hW) (Nat.le_of_ble_eq_true rfl) (Nat.le_of_ble_eq_true rfl) rfl (S_X6_neighbor hW hR (by omega) (by omega) (by omega))) ?_
        have q18 := besC_r (w := k) hR (show isC l a by omega)
        show Xv E q_m_X0_nearOfNeighbors 21 [Value.ref d, Value.int (zi a), Value.long x, Value.null, Value.int (zi k), x5] [Value.int (zi (bes l a k))] h Q
        refine xv (x_istore 23 d_X0_nearOfNeighbors_21 rfl (Nat.le_of_ble_eq_true rfl)) ?_
        show Xv E q_m_X0_nearOfNeighbors 23 [Value.ref d, Value.int (zi a), Value.long x, Value.null, Value.int (zi k), Value.int (zi (bes l a k))] [] h Q
        refine xv (x_aload_n 24 d_X0_nearOfNeighbors_23 rfl rfl) ?_
        refine xv (x_getfield 27 d_X0_nearOfNeighbors_24 rfl f_0_9 (Nat.le_of_ble_eq_true rfl) (Nat.le_of_ble_eq_true rfl) (q_gf_of hD rfl)) ?_
        refine xv (x_iload 29 d_X0_nearOfNeighbors_27 rfl rfl) ?_
        refine xv (x_inv1 32 (as := [Value.int (zi (bes l a k))]) d_X0_nearOfNeighbors_29 rfl c_0_58 rfl (Nat.le_of_ble_eq_true rfl) (Nat.le_of_ble_eq_true rfl) (wh_o hW) (Nat.le_of_ble_eq_true rfl) (Nat.le_of_ble_eq_true rfl) rfl (S_X6_canEnter hW hR (by omega) (by omega))) ?_
        show Xv E q_m_X0_nearOfNeighbors 32 [Value.ref d, Value.int (zi a), Value.long x, Value.null, Value.int (zi k), Value.int (zi (bes l a k))] [Value.int (zi (bI (isC l (bes l a k) ∧ ent l (bes l a k))))] h Q
        refine v_if_eq 45 35 d_X0_nearOfNeighbors_32 rfl rfl (by have := bI_r (isC l (bes l a k) ∧ ent l (bes l a k)); omega) (by have := bI_r (isC l (bes l a k) ∧ ent l (bes l a k)); omega) (fun k32 => ?_) (fun k32 => ?_)
        · replace k32 := bI_0.mp k32
          refine xv (x_iinc 48 d_X0_nearOfNeighbors_45 rfl rfl) ?_
          show Xv E q_m_X0_nearOfNeighbors 48 [Value.ref d, Value.int (zi a), Value.long x, Value.null, Value.int (zi (k + 1)), Value.int (zi (bes l a k))] [] h Q
          refine xv (x_goto 5 d_X0_nearOfNeighbors_48 rfl) ?_
          refine ih5 _ (by omega) _ (k + 1) _ (by omega) (by omega) (fun c c0 c1 => ?_) rfl
          rw [hx c c0 c1]
          constructor
          · rintro ⟨u, z, y⟩
            exact ⟨u, by omega, y⟩
          · rintro ⟨u, z, y, x_⟩
            by_cases e : u = k
            · subst e; exact absurd y k32
            · exact ⟨u, by omega, y, x_⟩
        · replace k32 := bI_n0.mp k32
          refine xv (x_lload_n 36 d_X0_nearOfNeighbors_35 rfl rfl) ?_
          refine xv (x_aload_n 37 d_X0_nearOfNeighbors_36 rfl rfl) ?_
          refine xv (x_getfield 40 d_X0_nearOfNeighbors_37 rfl f_0_27 (Nat.le_of_ble_eq_true rfl) (Nat.le_of_ble_eq_true rfl) (q_gf_of hD rfl)) ?_
          refine xv (x_iload 42 d_X0_nearOfNeighbors_40 rfl rfl) ?_
          refine xv (x_laload 43 d_X0_nearOfNeighbors_42 rfl (al_g hN (by omega) (by omega) (by decide))) ?_
          refine xv (x_lor 44 d_X0_nearOfNeighbors_43 rfl) ?_
          refine xv (x_lstore_n 45 d_X0_nearOfNeighbors_44 rfl (Nat.le_of_ble_eq_true rfl)) ?_
          show Xv E q_m_X0_nearOfNeighbors 45 [Value.ref d, Value.int (zi a), Value.long (x ||| (NE (bes l a k))), Value.null, Value.int (zi k), Value.int (zi (bes l a k))] [] h Q
          refine xv (x_iinc 48 d_X0_nearOfNeighbors_45 rfl rfl) ?_
          show Xv E q_m_X0_nearOfNeighbors 48 [Value.ref d, Value.int (zi a), Value.long (x ||| (NE (bes l a k))), Value.null, Value.int (zi (k + 1)), Value.int (zi (bes l a k))] [] h Q
          refine xv (x_goto 5 d_X0_nearOfNeighbors_48 rfl) ?_
          refine ih5 _ (by omega) _ (k + 1) _ (by omega) (by omega) (fun c c0 c1 => ?_) rfl
          rw [bt_or, hx c c0 c1]
          constructor
          · rintro (⟨u, z, y⟩ | y)
            · exact ⟨u, by omega, y⟩
            · exact ⟨k, by omega, k32, y⟩
          · rintro ⟨u, z, y, x_⟩
            by_cases e : u = k
            · subst e; exact .inr x_
            · exact .inl ⟨u, by omega, y, x_⟩
  exact L5 _ 0 0 _ (by omega) (by omega) (fun c c0 c1 => ⟨fun z => absurd z bt_0, fun ⟨u, z, _⟩ => by omega⟩) rfl
theorem S_X0_openCells (hW : WH h w l p) (hR : RgC l) (hD : DSo h d w tr tc to) (hN : AL h (d + 52) 48 NE) : ∃ r_ h', q_cl E q_m_X0_openCells [Value.ref d] h = some (r_, h') ∧ (∃ x, (r_ = .inl (some (.long x)) ∧ h' = h) ∧ ∀ c, 0 ≤ c → c < 64 → (bt x c ↔ isC l c ∧ ent l c)) := by
  suffices K : ∀ Q : q_R → q_H → Prop, (∀ r_ h', (∃ x, (r_ = .inl (some (.long x)) ∧ h' = h) ∧ ∀ c, 0 ≤ c → c < 64 → (bt x c ↔ isC l c ∧ ent l c)) → Q r_ h') → Xv E q_m_X0_openCells 0 [Value.ref d, Value.null, Value.null, Value.null] [] h Q from K _ fun _ _ p => p
  intro Q hQ
  obtain ⟨g0, g1, g2, g3, g4, gc, g5, g6, g7, gk, gl, gr, go⟩ := id hR
  refine xv (x_lconst 1 d_X0_openCells_0 rfl) ?_
  show Xv E q_m_X0_openCells 1 [Value.ref d, Value.null, Value.null, Value.null] [Value.long 0] h Q
  refine xv (x_lstore_n 2 d_X0_openCells_1 rfl (Nat.le_of_ble_eq_true rfl)) ?_
  show Xv E q_m_X0_openCells 2 [Value.ref d, Value.long 0, Value.null, Value.null] [] h Q
  refine xv (x_iconst 3 d_X0_openCells_2 rfl) ?_
  refine xv (x_istore_n 4 d_X0_openCells_3 rfl (Nat.le_of_ble_eq_true rfl)) ?_
  show Xv E q_m_X0_openCells 4 [Value.ref d, Value.long 0, Value.null, Value.int (zi 0)] [] h Q
  have L4 : ∀ (n_ : Nat) (x : Int64) (k : Int), (0 ≤ k) → (k ≤ cs l) → (∀ c, 0 ≤ c → c < 64 → (bt x c ↔ c < k ∧ (isC l c ∧ ent l c))) → (cs l - k).toNat = n_ → Xv E q_m_X0_openCells 4 [Value.ref d, Value.long x, Value.null, Value.int (zi k)] [] h Q := by
    intro n_
    induction n_ using Nat.strongRecOn with
    | _ n_ ih4 =>
      intro x k k0 k1 hx em
      refine xv (x_aload_n 5 d_X0_openCells_4 rfl rfl) ?_
      refine xv (x_getfield 8 d_X0_openCells_5 rfl f_0_9 (Nat.le_of_ble_eq_true rfl) (Nat.le_of_ble_eq_true rfl) (q_gf_of hD rfl)) ?_
      refine xv (x_iload_n 9 d_X0_openCells_8 rfl rfl) ?_
      refine xv (x_inv1 12 (as := [Value.int (zi k)]) d_X0_openCells_9 rfl c_0_42 rfl (Nat.le_of_ble_eq_true rfl) (Nat.le_of_ble_eq_true rfl) (wh_o hW) (Nat.le_of_ble_eq_true rfl) (Nat.le_of_ble_eq_true rfl) rfl (S_X6_isCell hW hR (by omega) (by omega))) ?_
      show Xv E q_m_X0_openCells 12 [Value.ref d, Value.long x, Value.null, Value.int (zi k)] [Value.int (zi (bI (isC l k)))] h Q
      refine v_if_eq 44 15 d_X0_openCells_12 rfl rfl (by have := bI_r (isC l k); omega) (by have := bI_r (isC l k); omega) (fun k12 => ?_) (fun k12 => ?_)
      · replace k12 := bI_0.mp k12
        refine xv (x_lload_n 45 d_X0_openCells_44 rfl rfl) ?_
        refine xv_r (x_lreturn d_X0_openCells_45 rfl) ?_
        refine hQ _ _ ⟨_, ⟨rfl, rfl⟩, fun c c0 c1 => ?_⟩
        rw [hx c c0 c1]
        exact ⟨fun z => z.2, fun z => ⟨by omega, z⟩⟩
      · replace k12 := bI_n0.mp k12
        refine xv (x_iload_n 16 d_X0_openCells_15 rfl rfl) ?_
        refine xv (x_bipush 18 d_X0_openCells_16 rfl rfl) ?_
        refine v_icmp_ge 44 21 d_X0_openCells_18 rfl rfl (by omega) (by omega) (by omega) (by omega) (fun k18 => ?_) (fun k18 => ?_)
        · refine xv (x_lload_n 45 d_X0_openCells_44 rfl rfl) ?_
          refine xv_r (x_lreturn d_X0_openCells_45 rfl) ?_
          refine hQ _ _ ⟨_, ⟨rfl, rfl⟩, fun c c0 c1 => ?_⟩
          rw [hx c c0 c1]
          exact ⟨fun z => z.2, fun z => ⟨by omega, z⟩⟩
        · refine xv (x_aload_n 22 d_X0_openCells_21 rfl rfl) ?_
          refine xv (x_getfield 25 d_X0_openCells_22 rfl f_0_9 (Nat.le_of_ble_eq_true rfl) (Nat.le_of_ble_eq_true rfl) (q_gf_of hD rfl)) ?_
          refine xv (x_iload_n 26 d_X0_openCells_25 rfl rfl) ?_
          refine xv (x_inv1 29 (as := [Value.int (zi k)]) d_X0_openCells_26 rfl c_0_58 rfl (Nat.le_of_ble_eq_true rfl) (Nat.le_of_ble_eq_true rfl) (wh_o hW) (Nat.le_of_ble_eq_true rfl) (Nat.le_of_ble_eq_true rfl) rfl (S_X6_canEnter hW hR (by omega) (by omega))) ?_
          show Xv E q_m_X0_openCells 29 [Value.ref d, Value.long x, Value.null, Value.int (zi k)] [Value.int (zi (bI (isC l k ∧ ent l k)))] h Q
          refine v_if_eq 38 32 d_X0_openCells_29 rfl rfl (by have := bI_r (isC l k ∧ ent l k); omega) (by have := bI_r (isC l k ∧ ent l k); omega) (fun k29 => ?_) (fun k29 => ?_)
          · replace k29 := bI_0.mp k29
            refine xv (x_iinc 41 d_X0_openCells_38 rfl rfl) ?_
            show Xv E q_m_X0_openCells 41 [Value.ref d, Value.long x, Value.null, Value.int (zi (k + 1))] [] h Q
            refine xv (x_goto 4 d_X0_openCells_41 rfl) ?_
            refine ih4 _ (by omega) _ (k + 1) (by omega) (by omega) (fun c c0 c1 => ?_) rfl
            rw [hx c c0 c1]
            constructor
            · rintro ⟨z, y⟩
              exact ⟨by omega, y⟩
            · rintro ⟨z, y⟩
              by_cases e : c = k
              · subst e; exact absurd y k29
              · exact ⟨by omega, y⟩
          · replace k29 := bI_n0.mp k29
            refine xv (x_lload_n 33 d_X0_openCells_32 rfl rfl) ?_
            refine xv (x_lconst 34 d_X0_openCells_33 rfl) ?_
            show Xv E q_m_X0_openCells 34 [Value.ref d, Value.long x, Value.null, Value.int (zi k)] [Value.long 1, Value.long x] h Q
            refine xv (x_iload_n 35 d_X0_openCells_34 rfl rfl) ?_
            refine xv (x_lshl 36 d_X0_openCells_35 rfl) ?_
            show Xv E q_m_X0_openCells 36 [Value.ref d, Value.long x, Value.null, Value.int (zi k)] [Value.long (lsh 1 (zi k)), Value.long x] h Q
            refine xv (x_lor 37 d_X0_openCells_36 rfl) ?_
            refine xv (x_lstore_n 38 d_X0_openCells_37 rfl (Nat.le_of_ble_eq_true rfl)) ?_
            show Xv E q_m_X0_openCells 38 [Value.ref d, Value.long (x ||| (lsh 1 (zi k))), Value.null, Value.int (zi k)] [] h Q
            refine xv (x_iinc 41 d_X0_openCells_38 rfl rfl) ?_
            show Xv E q_m_X0_openCells 41 [Value.ref d, Value.long (x ||| (lsh 1 (zi k))), Value.null, Value.int (zi (k + 1))] [] h Q
            refine xv (x_goto 4 d_X0_openCells_41 rfl) ?_
            refine ih4 _ (by omega) _ (k + 1) (by omega) (by omega) (fun c c0 c1 => ?_) rfl
            rw [bt_or, hx c c0 c1, bt_sh (by omega) (by omega) c0 c1]
            constructor
            · rintro (⟨z, y⟩ | y)
              · exact ⟨by omega, y⟩
              · subst y; exact ⟨by omega, k29⟩
            · rintro ⟨z, y⟩
              by_cases e : c = k
              · exact .inr e
              · exact .inl ⟨by omega, y⟩
  exact L4 _ 0 0 (by omega) (by omega) (fun c c0 c1 => ⟨fun z => absurd z bt_0, fun z => by omega⟩) rfl
end CF
