/-! distances, breadth first: the search itself, and the class's (printed by program) -/
/-- what goes one to one into n places is at most n -/
theorem pig : ∀ (n m : Nat) (f : Nat → Nat), (∀ i, i < m → f i < n) → (∀ i j, i < m → j < m → f i = f j → i = j) → m ≤ n
  | 0, m, f, h, _ => by
    match m with
    | 0 => exact Nat.le_refl _
    | m + 1 => exact absurd (h 0 (by omega)) (by omega)
  | n + 1, m, f, h, inj => by
    match m with
    | 0 => exact Nat.zero_le _
    | m + 1 =>
      have key : m ≤ n := by
        refine pig n m (fun i => if f i = n then f m else f i) (fun i hi => ?_) (fun i j hi hj e => ?_)
        · show (if f i = n then f m else f i) < n
          by_cases q : f i = n
          · rw [if_pos q]
            have h1 := h m (by omega)
            have h2 : f m ≠ n := fun e => by have := inj i m (by omega) (by omega) (q.trans e.symm); omega
            omega
          · rw [if_neg q]
            have := h i (by omega)
            omega
        · have e : (if f i = n then f m else f i) = (if f j = n then f m else f j) := e
          by_cases q1 : f i = n
          · rw [if_pos q1] at e
            by_cases q2 : f j = n
            · exact inj i j (by omega) (by omega) (q1.trans q2.symm)
            · rw [if_neg q2] at e
              have := inj m j (by omega) (by omega) e
              omega
          · rw [if_neg q1] at e
            by_cases q2 : f j = n
            · rw [if_pos q2] at e
              have := inj i m (by omega) (by omega) e
              omega
            · rw [if_neg q2] at e
              exact inj i j (by omega) (by omega) e
      omega
abbrev BX : Type := (Int → Int) × (Int → Int) × Int
/-- one neighbor looked at: how far, the queue, how many stand in it -/
def bfw (s : Int → Int) (c w : Int) (X : BX) : BX := if 0 ≤ bes s c w ∧ X.1 (bes s c w) < 0 ∧ ent s (bes s c w) then (u1 X.1 (bes s c w) (X.1 c + 1), u1 X.2.1 X.2.2 (bes s c w), X.2.2 + 1) else X
def bfr (s : Int → Int) (c : Int) : Nat → Int → BX → BX
  | 0, _, X => X
  | n + 1, w, X => bfr s c n (w + 1) (bfw s c w X)
def bfl (s : Int → Int) : Nat → Int → BX → BX
  | 0, _, X => X
  | n + 1, k, X => if k < X.2.2 then bfl s n (k + 1) (bfr s (X.2.1 k) 4 0 X) else X
def bf0 (a : Int) : BX := (fun i => if i = a then 0 else -1, fun _ => a, 1)
/-- how many steps from a cell to the others, -1: no way -/
def far (s : Int → Int) (a : Int) : Int → Int := (bfl s 48 0 (bf0 a)).1
def Binv (s : Int → Int) (X : BX) : Prop := 1 ≤ X.2.2 ∧ (∀ j, 0 ≤ j → j < X.2.2 → isC s (X.2.1 j) ∧ 0 ≤ X.1 (X.2.1 j) ∧ X.1 (X.2.1 j) ≤ j) ∧ (∀ i j, 0 ≤ i → i < X.2.2 → 0 ≤ j → j < X.2.2 → X.2.1 i = X.2.1 j → i = j) ∧ (∀ i, -1 ≤ X.1 i) ∧ ∀ i, 0 ≤ X.1 i → isC s i ∧ X.1 i < X.2.2
theorem b_many {s : Int → Int} {X : BX} (hc : 0 ≤ cs s) (h : Binv s X) : X.2.2 ≤ cs s := by
  obtain ⟨h1, h2, h3, h4, h5⟩ := h
  have := pig (cs s).toNat X.2.2.toNat (fun i => (X.2.1 i).toNat) (fun i hi => by have := (h2 i (by omega) (by omega)).1; show (X.2.1 i).toNat < (cs s).toNat; omega)
    (fun i j hi hj e => by
      have a := (h2 i (by omega) (by omega)).1
      have b := (h2 j (by omega) (by omega)).1
      have e : (X.2.1 i).toNat = (X.2.1 j).toNat := e
      have := h3 i j (by omega) (by omega) (by omega) (by omega) (by omega)
      omega)
  omega
abbrev bfC (s : Int → Int) (c w : Int) (X : BX) : Prop := 0 ≤ bes s c w ∧ X.1 (bes s c w) < 0 ∧ ent s (bes s c w)
theorem bfw_t {s : Int → Int} {c w : Int} {X : BX} (h : bfC s c w X) : bfw s c w X = (u1 X.1 (bes s c w) (X.1 c + 1), u1 X.2.1 X.2.2 (bes s c w), X.2.2 + 1) := if_pos h
theorem bfw_f {s : Int → Int} {c w : Int} {X : BX} (h : ¬ bfC s c w X) : bfw s c w X = X := if_neg h
theorem bfw_ok {s : Int → Int} {c w k : Int} {X : BX} (h : Binv s X) (hb : bes s c w = -1 ∨ (0 ≤ bes s c w ∧ bes s c w < cs s)) (k0 : 0 ≤ k) (k1 : k < X.2.2) (hk : X.2.1 k = c) : Binv s (bfw s c w X) ∧ X.2.2 ≤ (bfw s c w X).2.2 ∧ ∀ j, 0 ≤ j → j < X.2.2 → (bfw s c w X).2.1 j = X.2.1 j := by
  by_cases hC : bfC s c w X
  · rw [bfw_t hC]
    obtain ⟨h1, h2, h3, h4, h5⟩ := h
    obtain ⟨c1, c2, c3⟩ := hC
    generalize bes s c w = t at *
    have hc := h2 k k0 k1
    rw [hk] at hc
    have hq (j : Int) (a : 0 ≤ j) (b : j < X.2.2) : X.2.1 j ≠ t := fun e => by have := (h2 j a b).2.1; rw [e] at this; omega
    refine ⟨⟨?_, fun j a b => ?_, fun i j a b c' d e => ?_, fun i => ?_, fun i hi => ?_⟩, ?_, fun j a b => u1_ne (by omega)⟩
    · show 1 ≤ X.2.2 + 1
      omega
    · show isC s (u1 X.2.1 X.2.2 t j) ∧ 0 ≤ u1 X.1 t (X.1 c + 1) (u1 X.2.1 X.2.2 t j) ∧ u1 X.1 t (X.1 c + 1) (u1 X.2.1 X.2.2 t j) ≤ j
      have b : j < X.2.2 + 1 := b
      by_cases q : j = X.2.2
      · subst q
        rw [u1_eq, u1_eq]
        exact ⟨by omega, by omega, by omega⟩
      · rw [u1_ne q, u1_ne (hq j a (by omega))]
        exact h2 j a (by omega)
    · have b : i < X.2.2 + 1 := b
      have d : j < X.2.2 + 1 := d
      have e : u1 X.2.1 X.2.2 t i = u1 X.2.1 X.2.2 t j := e
      by_cases q1 : i = X.2.2
      · by_cases q2 : j = X.2.2
        · omega
        · subst q1
          rw [u1_eq, u1_ne q2] at e
          exact absurd e.symm (hq j c' (by omega))
      · by_cases q2 : j = X.2.2
        · subst q2
          rw [u1_eq, u1_ne q1] at e
          exact absurd e (hq i a (by omega))
        · rw [u1_ne q1, u1_ne q2] at e
          exact h3 i j a (by omega) c' (by omega) e
    · show -1 ≤ u1 X.1 t (X.1 c + 1) i
      by_cases q : i = t
      · subst q; rw [u1_eq]; omega
      · rw [u1_ne q]; exact h4 i
    · have hi : 0 ≤ u1 X.1 t (X.1 c + 1) i := hi
      show isC s i ∧ u1 X.1 t (X.1 c + 1) i < X.2.2 + 1
      by_cases q : i = t
      · subst q; rw [u1_eq]; omega
      · rw [u1_ne q] at hi ⊢
        have := h5 i hi
        omega
    · show X.2.2 ≤ X.2.2 + 1
      omega
  · rw [bfw_f hC]
    exact ⟨h, Int.le_refl _, fun _ _ _ => rfl⟩
theorem bfr_b {s : Int → Int} {c w : Int} {X : BX} (h : w < 4) : bfr s c (4 - w).toNat w X = bfr s c (4 - (w + 1)).toNat (w + 1) (bfw s c w X) := by
  rw [show (4 - w).toNat = (4 - (w + 1)).toNat + 1 by omega]; rfl
theorem bfr_e {s : Int → Int} {c w : Int} {X : BX} (h : 4 ≤ w) : bfr s c (4 - w).toNat w X = X := by
  rw [show (4 - w).toNat = 0 by omega]; rfl
theorem bfl_b {s : Int → Int} {k : Int} {X : BX} (h : k < 48) (hk : k < X.2.2) : bfl s (48 - k).toNat k X = bfl s (48 - (k + 1)).toNat (k + 1) (bfr s (X.2.1 k) 4 0 X) := by
  rw [show (48 - k).toNat = (48 - (k + 1)).toNat + 1 by omega]
  exact if_pos hk
theorem bfl_e {s : Int → Int} {k : Int} {X : BX} (h : 48 ≤ k ∨ X.2.2 ≤ k) : bfl s (48 - k).toNat k X = X := by
  by_cases z : 48 ≤ k
  · rw [show (48 - k).toNat = 0 by omega]; rfl
  · rw [show (48 - k).toNat = (48 - (k + 1)).toNat + 1 by omega]
    exact if_neg (by omega)
theorem bf0_ok {s : Int → Int} {a : Int} (h : isC s a) : Binv s (bf0 a) := by
  refine ⟨Int.le_refl _, fun j x y => ?_, fun i j x y z w _ => ?_, fun i => ?_, fun i hi => ?_⟩
  · show isC s a ∧ 0 ≤ (if a = a then (0 : Int) else -1) ∧ (if a = a then (0 : Int) else -1) ≤ j
    rw [if_pos rfl]
    exact ⟨h, Int.le_refl _, x⟩
  · have y : i < 1 := y
    have w : j < 1 := w
    omega
  · show -1 ≤ (if i = a then (0 : Int) else -1)
    split <;> omega
  · have hi : 0 ≤ (if i = a then (0 : Int) else -1) := hi
    show isC s i ∧ (if i = a then (0 : Int) else -1) < 1
    by_cases q : i = a
    · subst q; rw [if_pos rfl]; omega
    · rw [if_neg q] at hi; omega
theorem bfr_ok {s : Int → Int} {c k : Int} (hb : ∀ w, bes s c w = -1 ∨ (0 ≤ bes s c w ∧ bes s c w < cs s)) (k0 : 0 ≤ k) : ∀ (n : Nat) (w : Int) (X : BX), Binv s X → k < X.2.2 → X.2.1 k = c → Binv s (bfr s c n w X) ∧ X.2.2 ≤ (bfr s c n w X).2.2
  | 0, w, X, h, _, _ => ⟨h, Int.le_refl _⟩
  | n + 1, w, X, h, k1, hk => by
    obtain ⟨a, b, c'⟩ := bfw_ok h (hb w) k0 k1 hk
    obtain ⟨d, e⟩ := bfr_ok hb k0 n (w + 1) (bfw s c w X) a (by omega) ((c' k k0 k1).trans hk)
    exact ⟨d, Int.le_trans b e⟩
theorem bfl_ok {s : Int → Int} (hb : ∀ c w, isC s c → bes s c w = -1 ∨ (0 ≤ bes s c w ∧ bes s c w < cs s)) : ∀ (n : Nat) (k : Int) (X : BX), 0 ≤ k → Binv s X → Binv s (bfl s n k X)
  | 0, k, X, _, h => h
  | n + 1, k, X, k0, h => by
    unfold bfl
    by_cases q : k < X.2.2
    · rw [if_pos q]
      exact bfl_ok hb n (k + 1) _ (by omega) (bfr_ok (fun w => hb _ w (h.2.1 k k0 q).1) k0 4 0 X h q rfl).1
    · rw [if_neg q]
      exact h
theorem far_r {s : Int → Int} {a : Int} (hR : RgC s) (h : isC s a) (i : Int) : (-1 ≤ far s a i ∧ far s a i < 48) ∧ (0 ≤ far s a i → isC s i) := by
  have gc := hR.2.2.2.2.2.1
  have hB := bfl_ok (fun c w hc => besC_r (w := w) hR hc) 48 0 _ (by omega) (bf0_ok h)
  have hm := b_many (by omega) hB
  obtain ⟨h1, h2, h3, h4, h5⟩ := hB
  have a4 := h4 i
  show (-1 ≤ (bfl s 48 0 (bf0 a)).1 i ∧ (bfl s 48 0 (bf0 a)).1 i < 48) ∧ (0 ≤ (bfl s 48 0 (bf0 a)).1 i → isC s i)
  refine ⟨⟨a4, ?_⟩, fun x => (h5 i x).1⟩
  by_cases q : 0 ≤ (bfl s 48 0 (bf0 a)).1 i
  · have := (h5 i q).2
    omega
  · omega
abbrev DSo (h : q_H) (d w : Nat) (tr tc : Int) (to : Int64) : Prop := h.1 d = some (.inr (0, [.ref w, .ref (d + 1), .ref (d + 2), .ref (d + 3), .ref (d + 52), .ref (d + 53), .int (zi tr), .int (zi tc), .long to]))
section CD
variable {E : q_E} {h h' : q_H} {w v a b t N k d : Nat} {l lo f g c q : Int → Int} {p p2 pk : Int → Nat} {n R C z r tr tc : Int} {to : Int64}
theorem S_J7_fill {n : Nat} (hA : AI h a 0 n f) (hn : n < 1000000) {x : Int} : ∃ r_ h', q_cl E q_m_J7_fill_53178 [Value.ref a, Value.int (zi x)] h = some (r_, h') ∧ (r_ = .inl none ∧ AI h' a 0 n (fun _ => x) ∧ Fr a 1 h h') := by
  suffices K : ∀ Q : q_R → q_H → Prop, (∀ r_ h', (r_ = .inl none ∧ AI h' a 0 n (fun _ => x) ∧ Fr a 1 h h') → Q r_ h') → Xv E q_m_J7_fill_53178 0 [Value.ref a, Value.int (zi x), Value.null, Value.null] [] h Q from K _ fun _ _ p => p
  intro Q hQ
  refine xv (x_iconst 1 d_J7_fill_53178_0 rfl) ?_
  refine xv (x_istore_n 2 d_J7_fill_53178_1 rfl (Nat.le_of_ble_eq_true rfl)) ?_
  show Xv E q_m_J7_fill_53178 2 [Value.ref a, Value.int (zi x), Value.int (zi 0), Value.null] [] h Q
  refine xv (x_aload_n 3 d_J7_fill_53178_2 rfl rfl) ?_
  refine xv (x_arraylength 4 d_J7_fill_53178_3 rfl (ai_l hA (by decide))) ?_
  refine xv (x_istore_n 5 d_J7_fill_53178_4 rfl (Nat.le_of_ble_eq_true rfl)) ?_
  show Xv E q_m_J7_fill_53178 5 [Value.ref a, Value.int (zi x), Value.int (zi 0), Value.int (zi n)] [] h Q
  have L5 : ∀ (n_ : Nat) (k : Int) (H : q_H), (0 ≤ k) → (k ≤ n) → (AI H a 0 n (fun i => if 0 ≤ i ∧ i < k then x else f i)) → (Fr a 1 h H) → ((n : Int) - k).toNat = n_ → Xv E q_m_J7_fill_53178 5 [Value.ref a, Value.int (zi x), Value.int (zi k), Value.int (zi n)] [] H Q := by
    intro n_
    induction n_ using Nat.strongRecOn with
    | _ n_ ih5 =>
      intro k H k0 k1 hA2 hF2 em
      refine xv (x_iload_n 6 d_J7_fill_53178_5 rfl rfl) ?_
      refine xv (x_iload_n 7 d_J7_fill_53178_6 rfl rfl) ?_
      refine v_icmp_ge 20 10 d_J7_fill_53178_7 rfl rfl (by omega) (by omega) (by omega) (by omega) (fun k7 => ?_) (fun k7 => ?_)
      · refine xv_r (x_return d_J7_fill_53178_20 rfl) ?_
        exact hQ _ _ ⟨rfl, ai_cg hA2 (fun i a b => if_pos (by omega)), hF2⟩
      · refine xv (x_aload_n 11 d_J7_fill_53178_10 rfl rfl) ?_
        refine xv (x_iload_n 12 d_J7_fill_53178_11 rfl rfl) ?_
        refine xv (x_iload_n 13 d_J7_fill_53178_12 rfl rfl) ?_
        obtain ⟨h13, e13, w13, f13⟩ := ai_s (z := k) (v := x) hA2 (by omega) (by omega) (by omega)
        have F13 : Fr a 1 h h13 := fr_tr hF2 (fr_in f13 (by omega) (by omega))
        refine xv (x_iastore 14 d_J7_fill_53178_13 rfl e13) ?_
        show Xv E q_m_J7_fill_53178 14 [Value.ref a, Value.int (zi x), Value.int (zi k), Value.int (zi n)] [] h13 Q
        refine xv (x_iinc 17 d_J7_fill_53178_14 rfl rfl) ?_
        show Xv E q_m_J7_fill_53178 17 [Value.ref a, Value.int (zi x), Value.int (zi (k + 1)), Value.int (zi n)] [] h13 Q
        refine xv (x_goto 5 d_J7_fill_53178_17 rfl) ?_
        refine ih5 _ (by omega) (k + 1) _ (by omega) (by omega) (ai_cg w13 fun i a b => ?_) F13 rfl
        show (if i = k then x else if 0 ≤ i ∧ i < k then x else f i) = if 0 ≤ i ∧ i < k + 1 then x else f i
        by_cases z : i = k
        · rw [if_pos z, if_pos (by omega)]
        · rw [if_neg z]
          by_cases z2 : 0 ≤ i ∧ i < k
          · rw [if_pos z2, if_pos (by omega)]
          · rw [if_neg z2, if_neg (by omega)]
  exact L5 _ 0 _ (by omega) (by omega) (ai_cg hA fun i a b => (if_neg (by omega)).symm) fr_rf rfl
theorem S_X0_measureFrom {a : Int} (h1 : isC l a) (hW : WH h w l p) (hR : RgC l) (hD : DSo h d w tr tc to) (hq : AI h (d + 1) 0 48 q) (hS : AI h (d + 2) 0 48 f) (sp : d + 54 ≤ w ∨ w + 38 ≤ d) : ∃ r_ h', q_cl E q_m_X0_measureFrom [Value.ref d, Value.int (zi a)] h = some (r_, h') ∧ (r_ = .inl none ∧ ∃ q', (WH h' w l p ∧ DSo h' d w tr tc to ∧ AI h' (d + 1) 0 48 q' ∧ AI h' (d + 2) 0 48 (far l a)) ∧ Fr (d + 1) 2 h h') := by
  suffices K : ∀ Q : q_R → q_H → Prop, (∀ r_ h', (r_ = .inl none ∧ ∃ q', (WH h' w l p ∧ DSo h' d w tr tc to ∧ AI h' (d + 1) 0 48 q' ∧ AI h' (d + 2) 0 48 (far l a)) ∧ Fr (d + 1) 2 h h') → Q r_ h') → Xv E q_m_X0_measureFrom 0 [Value.ref d, Value.int (zi a), Value.null, Value.null, Value.null, Value.null, Value.null] [] h Q from K _ fun _ _ p => p
  intro Q hQ
  obtain ⟨g0, g1, g2, g3, g4, gc, g5, g6, g7, gk, gl, gr, go⟩ := id hR
  refine xv (x_aload_n 1 d_X0_measureFrom_0 rfl rfl) ?_
  refine xv (x_getfield 4 d_X0_measureFrom_1 rfl f_0_19 (Nat.le_of_ble_eq_true rfl) (Nat.le_of_ble_eq_true rfl) (q_gf_of hD rfl)) ?_
  refine xv (x_iconst 5 d_X0_measureFrom_4 rfl) ?_
  obtain ⟨r5, h5, e5, z5, w5, f5⟩ := S_J7_fill (E := E) (x := (-1)) hS (by decide)
  subst z5
  have W_5 := wh_fr hW f5 (by omega)
  have D_5 := (f5.2 _ (by omega)).trans hD
  have Q_5 := ai_fr hq f5 (by omega)
  have F5 : Fr (d + 1) 2 h h5 := fr_tr fr_rf (fr_in f5 (by omega) (by omega))
  refine xv (x_ins0 8 (as := [Value.ref (d + 2), Value.int (zi (-1))]) d_X0_measureFrom_5 rfl c_0_48 rfl (Nat.le_of_ble_eq_true rfl) (Nat.le_of_ble_eq_true rfl) (Nat.le_of_ble_eq_true rfl) rfl e5) ?_
  show Xv E q_m_X0_measureFrom 8 [Value.ref d, Value.int (zi a), Value.null, Value.null, Value.null, Value.null, Value.null] [] h5 Q
  refine xv (x_aload_n 9 d_X0_measureFrom_8 rfl rfl) ?_
  refine xv (x_getfield 12 d_X0_measureFrom_9 rfl f_0_9 (Nat.le_of_ble_eq_true rfl) (Nat.le_of_ble_eq_true rfl) (q_gf_of D_5 rfl)) ?_
  refine xv (x_iload_n 13 d_X0_measureFrom_12 rfl rfl) ?_
  refine xv (x_inv1 16 (as := [Value.int (zi a)]) d_X0_measureFrom_13 rfl c_0_42 rfl (Nat.le_of_ble_eq_true rfl) (Nat.le_of_ble_eq_true rfl) (wh_o W_5) (Nat.le_of_ble_eq_true rfl) (Nat.le_of_ble_eq_true rfl) rfl (S_X6_isCell W_5 hR (by omega) (by omega))) ?_
  show Xv E q_m_X0_measureFrom 16 [Value.ref d, Value.int (zi a), Value.null, Value.null, Value.null, Value.null, Value.null] [Value.int (zi (bI (isC l a)))] h5 Q
  refine v_if_ne 20 19 d_X0_measureFrom_16 rfl rfl (by have := bI_r (isC l a); omega) (by have := bI_r (isC l a); omega) (fun k16 => ?_) (fun k16 => ?_)
  · replace k16 := bI_n0.mp k16
    refine xv (x_aload_n 21 d_X0_measureFrom_20 rfl rfl) ?_
    refine xv (x_getfield 24 d_X0_measureFrom_21 rfl f_0_19 (Nat.le_of_ble_eq_true rfl) (Nat.le_of_ble_eq_true rfl) (q_gf_of D_5 rfl)) ?_
    refine xv (x_iload_n 25 d_X0_measureFrom_24 rfl rfl) ?_
    refine xv (x_iconst 26 d_X0_measureFrom_25 rfl) ?_
    obtain ⟨h26, e26, w26, f26⟩ := ai_s (z := a) (v := 0) w5 (by omega) (by omega) (by decide)
    have W_26 := wh_fr W_5 f26 (by omega)
    have D_26 := (f26.2 _ (by omega)).trans D_5
    have Q_26 := ai_fr Q_5 f26 (by omega)
    have F26 : Fr (d + 1) 2 h h26 := fr_tr F5 (fr_in f26 (by omega) (by omega))
    refine xv (x_iastore 27 d_X0_measureFrom_26 rfl e26) ?_
    show Xv E q_m_X0_measureFrom 27 [Value.ref d, Value.int (zi a), Value.null, Value.null, Value.null, Value.null, Value.null] [] h26 Q
    refine xv (x_aload_n 28 d_X0_measureFrom_27 rfl rfl) ?_
    refine xv (x_getfield 31 d_X0_measureFrom_28 rfl f_0_15 (Nat.le_of_ble_eq_true rfl) (Nat.le_of_ble_eq_true rfl) (q_gf_of D_26 rfl)) ?_
    refine xv (x_iconst 32 d_X0_measureFrom_31 rfl) ?_
    refine xv (x_iload_n 33 d_X0_measureFrom_32 rfl rfl) ?_
    obtain ⟨h33, e33, w33, f33⟩ := ai_s (z := 0) (v := a) Q_26 (by omega) (by omega) (by decide)
    have W_33 := wh_fr W_26 f33 (by omega)
    have D_33 := (f33.2 _ (by omega)).trans D_26
    have ST_33 := ai_fr w26 f33 (by omega)
    have F33 : Fr (d + 1) 2 h h33 := fr_tr F26 (fr_in f33 (by omega) (by omega))
    refine xv (x_iastore 34 d_X0_measureFrom_33 rfl e33) ?_
    show Xv E q_m_X0_measureFrom 34 [Value.ref d, Value.int (zi a), Value.null, Value.null, Value.null, Value.null, Value.null] [] h33 Q
    refine xv (x_iconst 35 d_X0_measureFrom_34 rfl) ?_
    refine xv (x_istore_n 36 d_X0_measureFrom_35 rfl (Nat.le_of_ble_eq_true rfl)) ?_
    show Xv E q_m_X0_measureFrom 36 [Value.ref d, Value.int (zi a), Value.int (zi 1), Value.null, Value.null, Value.null, Value.null] [] h33 Q
    refine xv (x_iconst 37 d_X0_measureFrom_36 rfl) ?_
    refine xv (x_istore_n 38 d_X0_measureFrom_37 rfl (Nat.le_of_ble_eq_true rfl)) ?_
    show Xv E q_m_X0_measureFrom 38 [Value.ref d, Value.int (zi a), Value.int (zi 1), Value.int (zi 0), Value.null, Value.null, Value.null] [] h33 Q
    have L38 : ∀ (n_ : Nat) (k : Int) (X : BX) (mq : Int → Int) (x4 : Value) (x5 : Value) (x6 : Value) (H : q_H), (0 ≤ k) → (k ≤ 48) → (Binv l X) → (WH H w l p) → (DSo H d w tr tc to) → (AI H (d + 1) 0 48 mq) → (AI H (d + 2) 0 48 X.1) → (∀ j, 0 ≤ j → j < X.2.2 → mq j = X.2.1 j) → (Fr (d + 1) 2 h H) → (bfl l 48 0 (bf0 a) = bfl l (48 - k).toNat k X) → (48 - k).toNat = n_ → Xv E q_m_X0_measureFrom 38 [Value.ref d, Value.int (zi a), Value.int (zi X.2.2), Value.int (zi k), x4, x5, x6] [] H Q := by
      intro n_
      induction n_ using Nat.strongRecOn with
      | _ n_ ih38 =>
        intro k X mq x4 x5 x6 H k0 k1 hB hW2 hD2 hq2 hS2 ag hF2 hv em
        have hm := b_many (by omega) hB
        have hb1 := hB.1
        refine xv (x_iload_n 39 d_X0_measureFrom_38 rfl rfl) ?_
        refine xv (x_iload_n 40 d_X0_measureFrom_39 rfl rfl) ?_
        refine v_icmp_ge 147 43 d_X0_measureFrom_40 rfl rfl (by omega) (by omega) (by omega) (by omega) (fun k40 => ?_) (fun k40 => ?_)
        · refine xv_r (x_return d_X0_measureFrom_147 rfl) ?_
          rw [bfl_e (by omega)] at hv
          refine hQ _ _ ⟨rfl, _, ⟨hW2, hD2, hq2, ?_⟩, hF2⟩
          unfold far
          rw [hv]
          exact hS2
        · refine xv (x_iload_n 44 d_X0_measureFrom_43 rfl rfl) ?_
          refine xv (x_bipush 46 d_X0_measureFrom_44 rfl rfl) ?_
          refine v_icmp_ge 147 49 d_X0_measureFrom_46 rfl rfl (by omega) (by omega) (by omega) (by omega) (fun k46 => ?_) (fun k46 => ?_)
          · refine xv_r (x_return d_X0_measureFrom_147 rfl) ?_
            rw [bfl_e (by omega)] at hv
            refine hQ _ _ ⟨rfl, _, ⟨hW2, hD2, hq2, ?_⟩, hF2⟩
            unfold far
            rw [hv]
            exact hS2
          · refine xv (x_aload_n 50 d_X0_measureFrom_49 rfl rfl) ?_
            refine xv (x_getfield 53 d_X0_measureFrom_50 rfl f_0_15 (Nat.le_of_ble_eq_true rfl) (Nat.le_of_ble_eq_true rfl) (q_gf_of hD2 rfl)) ?_
            refine xv (x_iload_n 54 d_X0_measureFrom_53 rfl rfl) ?_
            refine xv (x_iaload 55 d_X0_measureFrom_54 rfl ((ai_g hq2 (by omega) (by omega) (by decide)).trans (cz (ag k (by omega) (by omega))))) ?_
            refine xv (x_istore 57 d_X0_measureFrom_55 rfl (Nat.le_of_ble_eq_true rfl)) ?_
            show Xv E q_m_X0_measureFrom 57 [Value.ref d, Value.int (zi a), Value.int (zi X.2.2), Value.int (zi k), Value.int (zi (X.2.1 k)), x5, x6] [] H Q
            refine xv (x_iconst 58 d_X0_measureFrom_57 rfl) ?_
            refine xv (x_istore 60 d_X0_measureFrom_58 rfl (Nat.le_of_ble_eq_true rfl)) ?_
            show Xv E q_m_X0_measureFrom 60 [Value.ref d, Value.int (zi a), Value.int (zi X.2.2), Value.int (zi k), Value.int (zi (X.2.1 k)), Value.int (zi 0), x6] [] H Q
            have L60 : ∀ (n_ : Nat) (w_ : Int) (Y : BX) (mq2 : Int → Int) (x6 : Value) (H2 : q_H), (0 ≤ w_) → (w_ ≤ 4) → (Binv l Y) → (X.2.2 ≤ Y.2.2) → (∀ j, 0 ≤ j → j < X.2.2 → Y.2.1 j = X.2.1 j) → (WH H2 w l p) → (DSo H2 d w tr tc to) → (AI H2 (d + 1) 0 48 mq2) → (AI H2 (d + 2) 0 48 Y.1) → (∀ j, 0 ≤ j → j < Y.2.2 → mq2 j = Y.2.1 j) → (Fr (d + 1) 2 h H2) → (bfr l (X.2.1 k) 4 0 X = bfr l (X.2.1 k) (4 - w_).toNat w_ Y) → (4 - w_).toNat = n_ → Xv E q_m_X0_measureFrom 60 [Value.ref d, Value.int (zi a), Value.int (zi Y.2.2), Value.int (zi k), Value.int (zi (X.2.1 k)), Value.int (zi w_), x6] [] H2 Q := by
              intro n_
              induction n_ using Nat.strongRecOn with
              | _ n_ ih60 =>
                intro w_ Y mq2 x6 H2 w0 w1 hB2 hXY sq hW3 hD3 hq3 hS3 ag2 hF3 hv2 em
                refine xv (x_iload 62 d_X0_measureFrom_60 rfl rfl) ?_
                refine xv (x_iconst 63 d_X0_measureFrom_62 rfl) ?_
                refine v_icmp_ge 141 66 d_X0_measureFrom_63 rfl rfl (by omega) (by omega) (by omega) (by omega) (fun k63 => ?_) (fun k63 => ?_)
                · refine xv (x_iinc 144 d_X0_measureFrom_141 rfl rfl) ?_
                  show Xv E q_m_X0_measureFrom 144 [Value.ref d, Value.int (zi a), Value.int (zi Y.2.2), Value.int (zi (k + 1)), Value.int (zi (X.2.1 k)), Value.int (zi w_), x6] [] H2 Q
                  refine xv (x_goto 38 d_X0_measureFrom_144 rfl) ?_
                  rw [bfr_e (by omega)] at hv2
                  refine ih38 _ (by omega) (k + 1) Y _ _ _ _ _ (by omega) (by omega) hB2 hW3 hD3 hq3 hS3 ag2 hF3 (hv.trans ((bfl_b (by omega) (by omega)).trans (by rw [hv2]))) rfl
                · refine xv (x_aload_n 67 d_X0_measureFrom_66 rfl rfl) ?_
                  have cC := (hB2.2.1 k k0 (by omega)).1
                  rw [sq k k0 (by omega)] at cC
                  have fc := (hB2.2.1 k k0 (by omega)).2
                  rw [sq k k0 (by omega)] at fc
                  refine xv (x_getfield 70 d_X0_measureFrom_67 rfl f_0_9 (Nat.le_of_ble_eq_true rfl) (Nat.le_of_ble_eq_true rfl) (q_gf_of hD3 rfl)) ?_
                  refine xv (x_iload 72 d_X0_measureFrom_70 rfl rfl) ?_
                  refine xv (x_iload 74 d_X0_measureFrom_72 rfl rfl) ?_
                  refine xv (x_inv1 77 (as := [Value.int (zi (X.2.1 k)), Value.int (zi w_)]) d_X0_measureFrom_74 rfl c_0_54 rfl (Nat.le_of_ble_eq_true rfl) (Nat.le_of_ble_eq_true rfl) (wh_o hW3) (Nat.le_of_ble_eq_true rfl) (Nat.le_of_ble_eq_true rfl) rfl (S_X6_neighbor hW3 hR (by omega) (by omega) (by omega))) ?_
                  have q74 := besC_r (w := w_) hR (show isC l (X.2.1 k) by omega)
                  show Xv E q_m_X0_measureFrom 77 [Value.ref d, Value.int (zi a), Value.int (zi Y.2.2), Value.int (zi k), Value.int (zi (X.2.1 k)), Value.int (zi w_), x6] [Value.int (zi (bes l (X.2.1 k) w_))] H2 Q
                  refine xv (x_istore 79 d_X0_measureFrom_77 rfl (Nat.le_of_ble_eq_true rfl)) ?_
                  show Xv E q_m_X0_measureFrom 79 [Value.ref d, Value.int (zi a), Value.int (zi Y.2.2), Value.int (zi k), Value.int (zi (X.2.1 k)), Value.int (zi w_), Value.int (zi (bes l (X.2.1 k) w_))] [] H2 Q
                  refine xv (x_aload_n 80 d_X0_measureFrom_79 rfl rfl) ?_
                  refine xv (x_getfield 83 d_X0_measureFrom_80 rfl f_0_9 (Nat.le_of_ble_eq_true rfl) (Nat.le_of_ble_eq_true rfl) (q_gf_of hD3 rfl)) ?_
                  refine xv (x_iload 85 d_X0_measureFrom_83 rfl rfl) ?_
                  refine xv (x_inv1 88 (as := [Value.int (zi (bes l (X.2.1 k) w_))]) d_X0_measureFrom_85 rfl c_0_58 rfl (Nat.le_of_ble_eq_true rfl) (Nat.le_of_ble_eq_true rfl) (wh_o hW3) (Nat.le_of_ble_eq_true rfl) (Nat.le_of_ble_eq_true rfl) rfl (S_X6_canEnter hW3 hR (by omega) (by omega))) ?_
                  show Xv E q_m_X0_measureFrom 88 [Value.ref d, Value.int (zi a), Value.int (zi Y.2.2), Value.int (zi k), Value.int (zi (X.2.1 k)), Value.int (zi w_), Value.int (zi (bes l (X.2.1 k) w_))] [Value.int (zi (bI (isC l (bes l (X.2.1 k) w_) ∧ ent l (bes l (X.2.1 k) w_))))] H2 Q
                  refine v_if_eq 135 91 d_X0_measureFrom_88 rfl rfl (by have := bI_r (isC l (bes l (X.2.1 k) w_) ∧ ent l (bes l (X.2.1 k) w_)); omega) (by have := bI_r (isC l (bes l (X.2.1 k) w_) ∧ ent l (bes l (X.2.1 k) w_)); omega) (fun k88 => ?_) (fun k88 => ?_)
                  · replace k88 := bI_0.mp k88
                    refine xv (x_iinc 138 d_X0_measureFrom_135 rfl rfl) ?_
                    show Xv E q_m_X0_measureFrom 138 [Value.ref d, Value.int (zi a), Value.int (zi Y.2.2), Value.int (zi k), Value.int (zi (X.2.1 k)), Value.int (zi (w_ + 1)), Value.int (zi (bes l (X.2.1 k) w_))] [] H2 Q
                    refine xv (x_goto 60 d_X0_measureFrom_138 rfl) ?_
                    have eC : ¬ bfC l (X.2.1 k) w_ Y := by first | exact fun x => k88 ⟨by omega, x.2.2⟩ | exact fun x => k99 (by have := hB2.2.2.2.1 (bes l (X.2.1 k) w_); omega)
                    refine ih60 _ (by omega) (w_ + 1) Y _ _ _ (by omega) (by omega) hB2 (by omega) sq hW3 hD3 hq3 hS3 ag2 hF3 (hv2.trans ((bfr_b (by omega)).trans (by rw [bfw_f eC]))) rfl
                  · replace k88 := bI_n0.mp k88
                    have q88 := hB2.2.2.2.1 (bes l (X.2.1 k) w_)
                    have y88 := hB2.2.2.2.2 (bes l (X.2.1 k) w_)
                    have z88 := b_many (by omega) hB2
                    refine xv (x_aload_n 92 d_X0_measureFrom_91 rfl rfl) ?_
                    refine xv (x_getfield 95 d_X0_measureFrom_92 rfl f_0_19 (Nat.le_of_ble_eq_true rfl) (Nat.le_of_ble_eq_true rfl) (q_gf_of hD3 rfl)) ?_
                    refine xv (x_iload 97 d_X0_measureFrom_95 rfl rfl) ?_
                    refine xv (x_iaload 98 d_X0_measureFrom_97 rfl (ai_g hS3 (by omega) (by omega) (by decide))) ?_
                    refine xv (x_iconst 99 d_X0_measureFrom_98 rfl) ?_
                    refine v_icmp_ne 135 102 d_X0_measureFrom_99 rfl rfl (by omega) (by omega) (by omega) (by omega) (fun k99 => ?_) (fun k99 => ?_)
                    · refine xv (x_iinc 138 d_X0_measureFrom_135 rfl rfl) ?_
                      show Xv E q_m_X0_measureFrom 138 [Value.ref d, Value.int (zi a), Value.int (zi Y.2.2), Value.int (zi k), Value.int (zi (X.2.1 k)), Value.int (zi (w_ + 1)), Value.int (zi (bes l (X.2.1 k) w_))] [] H2 Q
                      refine xv (x_goto 60 d_X0_measureFrom_138 rfl) ?_
                      have eC : ¬ bfC l (X.2.1 k) w_ Y := by first | exact fun x => k88 ⟨by omega, x.2.2⟩ | exact fun x => k99 (by have := hB2.2.2.2.1 (bes l (X.2.1 k) w_); omega)
                      refine ih60 _ (by omega) (w_ + 1) Y _ _ _ (by omega) (by omega) hB2 (by omega) sq hW3 hD3 hq3 hS3 ag2 hF3 (hv2.trans ((bfr_b (by omega)).trans (by rw [bfw_f eC]))) rfl
                    · refine xv (x_iload_n 103 d_X0_measureFrom_102 rfl rfl) ?_
                      refine xv (x_bipush 105 d_X0_measureFrom_103 rfl rfl) ?_
                      refine v_icmp_ge 135 108 d_X0_measureFrom_105 rfl rfl (by omega) (by omega) (by omega) (by omega) (fun k105 => ?_) (fun k105 => ?_)
                      · exact absurd (b_many (by omega) (bfw_ok (w := w_) hB2 q74 k0 (show k < Y.2.2 by omega) (sq k k0 (by omega))).1) (by rw [bfw_t (show bfC l (X.2.1 k) w_ Y from ⟨by omega, by omega, k88.2⟩)]; show ¬ Y.2.2 + 1 ≤ cs l; omega)
                      · refine xv (x_aload_n 109 d_X0_measureFrom_108 rfl rfl) ?_
                        refine xv (x_getfield 112 d_X0_measureFrom_109 rfl f_0_19 (Nat.le_of_ble_eq_true rfl) (Nat.le_of_ble_eq_true rfl) (q_gf_of hD3 rfl)) ?_
                        refine xv (x_iload 114 d_X0_measureFrom_112 rfl rfl) ?_
                        refine xv (x_aload_n 115 d_X0_measureFrom_114 rfl rfl) ?_
                        refine xv (x_getfield 118 d_X0_measureFrom_115 rfl f_0_19 (Nat.le_of_ble_eq_true rfl) (Nat.le_of_ble_eq_true rfl) (q_gf_of hD3 rfl)) ?_
                        refine xv (x_iload 120 d_X0_measureFrom_118 rfl rfl) ?_
                        refine xv (x_iaload 121 d_X0_measureFrom_120 rfl (ai_g hS3 (by omega) (by omega) (by decide))) ?_
                        refine xv (x_iconst 122 d_X0_measureFrom_121 rfl) ?_
                        refine xv (x_iadd 123 d_X0_measureFrom_122 rfl) ?_
                        obtain ⟨h123, e123, w123, f123⟩ := ai_s (z := bes l (X.2.1 k) w_) (v := (Y.1 (X.2.1 k)) + 1) hS3 (by omega) (by omega) (by decide)
                        have W_123 := wh_fr hW3 f123 (by omega)
                        have D_123 := (f123.2 _ (by omega)).trans hD3
                        have Q_123 := ai_fr hq3 f123 (by omega)
                        have F123 : Fr (d + 1) 2 h h123 := fr_tr hF3 (fr_in f123 (by omega) (by omega))
                        refine xv (x_iastore 124 d_X0_measureFrom_123 rfl e123) ?_
                        show Xv E q_m_X0_measureFrom 124 [Value.ref d, Value.int (zi a), Value.int (zi Y.2.2), Value.int (zi k), Value.int (zi (X.2.1 k)), Value.int (zi w_), Value.int (zi (bes l (X.2.1 k) w_))] [] h123 Q
                        refine xv (x_aload_n 125 d_X0_measureFrom_124 rfl rfl) ?_
                        refine xv (x_getfield 128 d_X0_measureFrom_125 rfl f_0_15 (Nat.le_of_ble_eq_true rfl) (Nat.le_of_ble_eq_true rfl) (q_gf_of D_123 rfl)) ?_
                        refine xv (x_iload_n 129 d_X0_measureFrom_128 rfl rfl) ?_
                        refine xv (x_iload 131 d_X0_measureFrom_129 rfl rfl) ?_
                        obtain ⟨h131, e131, w131, f131⟩ := ai_s (z := Y.2.2) (v := bes l (X.2.1 k) w_) Q_123 (by omega) (by omega) (by decide)
                        have W_131 := wh_fr W_123 f131 (by omega)
                        have D_131 := (f131.2 _ (by omega)).trans D_123
                        have ST_131 := ai_fr w123 f131 (by omega)
                        have F131 : Fr (d + 1) 2 h h131 := fr_tr F123 (fr_in f131 (by omega) (by omega))
                        refine xv (x_iastore 132 d_X0_measureFrom_131 rfl e131) ?_
                        show Xv E q_m_X0_measureFrom 132 [Value.ref d, Value.int (zi a), Value.int (zi Y.2.2), Value.int (zi k), Value.int (zi (X.2.1 k)), Value.int (zi w_), Value.int (zi (bes l (X.2.1 k) w_))] [] h131 Q
                        refine xv (x_iinc 135 d_X0_measureFrom_132 rfl rfl) ?_
                        show Xv E q_m_X0_measureFrom 135 [Value.ref d, Value.int (zi a), Value.int (zi (Y.2.2 + 1)), Value.int (zi k), Value.int (zi (X.2.1 k)), Value.int (zi w_), Value.int (zi (bes l (X.2.1 k) w_))] [] h131 Q
                        refine xv (x_iinc 138 d_X0_measureFrom_135 rfl rfl) ?_
                        show Xv E q_m_X0_measureFrom 138 [Value.ref d, Value.int (zi a), Value.int (zi (Y.2.2 + 1)), Value.int (zi k), Value.int (zi (X.2.1 k)), Value.int (zi (w_ + 1)), Value.int (zi (bes l (X.2.1 k) w_))] [] h131 Q
                        refine xv (x_goto 60 d_X0_measureFrom_138 rfl) ?_
                        have eC : bfC l (X.2.1 k) w_ Y := ⟨by omega, by omega, k88.2⟩
                        obtain ⟨y1, y2, y3⟩ := bfw_ok (w := w_) hB2 q74 k0 (show k < Y.2.2 by omega) (sq k k0 (by omega))
                        rw [bfw_t eC] at y1 y2 y3
                        refine ih60 _ (by omega) (w_ + 1) (u1 Y.1 (bes l (X.2.1 k) w_) (Y.1 (X.2.1 k) + 1), u1 Y.2.1 Y.2.2 (bes l (X.2.1 k) w_), Y.2.2 + 1) _ _ _ (by omega) (by omega) y1 (by omega) (fun j a b => (u1_ne (by omega)).trans (sq j a b)) W_131 D_131 w131 ST_131 (fun j a b => ?_) F131 (hv2.trans ((bfr_b (by omega)).trans (by rw [bfw_t eC]))) rfl
                        have b : j < Y.2.2 + 1 := b
                        show u1 mq2 Y.2.2 (bes l (X.2.1 k) w_) j = u1 Y.2.1 Y.2.2 (bes l (X.2.1 k) w_) j
                        by_cases z : j = Y.2.2
                        · subst z; rw [u1_eq, u1_eq]
                        · rw [u1_ne z, u1_ne z]; exact ag2 j a (by omega)
            exact L60 _ 0 X _ _ _ (by omega) (by omega) hB (Int.le_refl _) (fun _ _ _ => rfl) hW2 hD2 hq2 hS2 ag hF2 rfl rfl
    refine L38 _ 0 (bf0 a) _ _ _ _ _ (by omega) (by omega) (bf0_ok h1) W_33 D_33 w33 (ai_cg ST_33 fun i x y => rfl) (fun j x y => ?_) F33 (by rw [Int.sub_zero]; rfl) rfl
    have y : j < 1 := y
    rw [show j = 0 by omega]; exact u1_eq
  · replace k16 := bI_0.mp k16
    exact absurd h1 k16
theorem S_X0_stepsTo (hW : WH h w l p) (hR : RgC l) (hD : DSo h d w tr tc to) (hq : AI h (d + 1) 0 48 q) (hS : AI h (d + 2) 0 48 f) (sp : d + 54 ≤ w ∨ w + 38 ≤ d) {c : Int} (c0 : -2147483648 ≤ c) (c1 : c < 2147483648) : q_cl E q_m_X0_stepsTo [Value.ref d, Value.int (zi c)] h = some (.inl (some (Value.int (zi (if isC l c then f c else -1)))), h) := by
  suffices K : ∀ Q : q_R → q_H → Prop, Q (.inl (some (Value.int (zi (if isC l c then f c else -1))))) h → Xv E q_m_X0_stepsTo 0 [Value.ref d, Value.int (zi c)] [] h Q by
    obtain ⟨r_, g_, a_, b_, c_⟩ := K (fun r_ g_ => r_ = .inl (some (Value.int (zi (if isC l c then f c else -1)))) ∧ g_ = h) ⟨rfl, rfl⟩
    subst b_; subst c_; exact a_
  intro Q hQ
  obtain ⟨g0, g1, g2, g3, g4, gc, g5, g6, g7, gk, gl, gr, go⟩ := id hR
  refine xv (x_aload_n 1 d_X0_stepsTo_0 rfl rfl) ?_
  refine xv (x_getfield 4 d_X0_stepsTo_1 rfl f_0_9 (Nat.le_of_ble_eq_true rfl) (Nat.le_of_ble_eq_true rfl) (q_gf_of hD rfl)) ?_
  refine xv (x_iload_n 5 d_X0_stepsTo_4 rfl rfl) ?_
  refine xv (x_inv1 8 (as := [Value.int (zi c)]) d_X0_stepsTo_5 rfl c_0_42 rfl (Nat.le_of_ble_eq_true rfl) (Nat.le_of_ble_eq_true rfl) (wh_o hW) (Nat.le_of_ble_eq_true rfl) (Nat.le_of_ble_eq_true rfl) rfl (S_X6_isCell hW hR (by omega) (by omega))) ?_
  show Xv E q_m_X0_stepsTo 8 [Value.ref d, Value.int (zi c)] [Value.int (zi (bI (isC l c)))] h Q
  refine v_if_eq 20 11 d_X0_stepsTo_8 rfl rfl (by have := bI_r (isC l c); omega) (by have := bI_r (isC l c); omega) (fun k8 => ?_) (fun k8 => ?_)
  · replace k8 := bI_0.mp k8
    refine xv (x_iconst 21 d_X0_stepsTo_20 rfl) ?_
    refine xv_r (x_ireturn d_X0_stepsTo_21 rfl rfl) ?_
    refine lq hQ ?_
    first | rw [if_pos (by omega)] | rw [if_neg (by omega)]
  · replace k8 := bI_n0.mp k8
    refine xv (x_aload_n 12 d_X0_stepsTo_11 rfl rfl) ?_
    refine xv (x_getfield 15 d_X0_stepsTo_12 rfl f_0_19 (Nat.le_of_ble_eq_true rfl) (Nat.le_of_ble_eq_true rfl) (q_gf_of hD rfl)) ?_
    refine xv (x_iload_n 16 d_X0_stepsTo_15 rfl rfl) ?_
    refine xv (x_iaload 17 d_X0_stepsTo_16 rfl (ai_g hS (by omega) (by omega) (by decide))) ?_
    refine xv (x_goto 21 d_X0_stepsTo_17 rfl) ?_
    refine xv_r (x_ireturn d_X0_stepsTo_21 rfl rfl) ?_
    refine lq hQ ?_
    first | rw [if_pos (by omega)] | rw [if_neg (by omega)]
theorem S_X0_between {a b : Int} (hx : isC l a) (hy : isC l b) (hW : WH h w l p) (hR : RgC l) (hD : DSo h d w tr tc to) (hq : AI h (d + 1) 0 48 q) (hS : AI h (d + 2) 0 48 f) (sp : d + 54 ≤ w ∨ w + 38 ≤ d) : ∃ r_ h', q_cl E q_m_X0_between [Value.ref d, Value.int (zi a), Value.int (zi b)] h = some (r_, h') ∧ (r_ = .inl (some (.int (zi (far l a b)))) ∧ ∃ q' f', (WH h' w l p ∧ DSo h' d w tr tc to ∧ AI h' (d + 1) 0 48 q' ∧ AI h' (d + 2) 0 48 f') ∧ Fr (d + 1) 2 h h') := by
  suffices K : ∀ Q : q_R → q_H → Prop, (∀ r_ h', (r_ = .inl (some (.int (zi (far l a b)))) ∧ ∃ q' f', (WH h' w l p ∧ DSo h' d w tr tc to ∧ AI h' (d + 1) 0 48 q' ∧ AI h' (d + 2) 0 48 f') ∧ Fr (d + 1) 2 h h') → Q r_ h') → Xv E q_m_X0_between 0 [Value.ref d, Value.int (zi a), Value.int (zi b)] [] h Q from K _ fun _ _ p => p
  intro Q hQ
  obtain ⟨g0, g1, g2, g3, g4, gc, g5, g6, g7, gk, gl, gr, go⟩ := id hR
  refine xv (x_aload_n 1 d_X0_between_0 rfl rfl) ?_
  refine xv (x_iload_n 2 d_X0_between_1 rfl rfl) ?_
  obtain ⟨r2, h2, e2, z2, q2, ⟨w2, d2, m2, s2⟩, f2⟩ := S_X0_measureFrom (E := E) (a := a) (by omega) hW hR hD hq hS (by omega)
  subst z2
  have F2 : Fr (d + 1) 2 h h2 := fr_tr fr_rf (fr_in f2 (by omega) (by omega))
  refine xv (x_inv0 5 (as := [Value.int (zi a)]) d_X0_between_2 rfl c_0_34 rfl (Nat.le_of_ble_eq_true rfl) (Nat.le_of_ble_eq_true rfl) hD (Nat.le_of_ble_eq_true rfl) (Nat.le_of_ble_eq_true rfl) rfl e2) ?_
  have y2 := far_r hR (show isC l a by omega)
  show Xv E q_m_X0_between 5 [Value.ref d, Value.int (zi a), Value.int (zi b)] [] h2 Q
  refine xv (x_aload_n 6 d_X0_between_5 rfl rfl) ?_
  refine xv (x_iload_n 7 d_X0_between_6 rfl rfl) ?_
  refine xv (x_inv1 10 (as := [Value.int (zi b)]) d_X0_between_7 rfl c_0_38 rfl (Nat.le_of_ble_eq_true rfl) (Nat.le_of_ble_eq_true rfl) d2 (Nat.le_of_ble_eq_true rfl) (Nat.le_of_ble_eq_true rfl) rfl (S_X0_stepsTo w2 hR d2 m2 s2 (by omega) (by omega) (by omega))) ?_
  show Xv E q_m_X0_between 10 [Value.ref d, Value.int (zi a), Value.int (zi b)] [Value.int (zi (if isC l b then (far l a) b else -1))] h2 Q
  refine xv_r (x_ireturn d_X0_between_10 rfl rfl) ?_
  have lvx : (if isC l b then (far l a) b else -1) = far l a b := if_pos hy
  exact hQ _ _ ⟨by rw [lvx], _, _, ⟨w2, d2, m2, s2⟩, F2⟩
/-- how many cells a cell reaches; the least of those farthest from it -/
noncomputable def rch (s : Int → Int) (a : Int) : Int := lpI (fun k x => x + bI (¬ far s a k = -1)) 48 0 0
def frs (s : Int → Int) (a c : Int) : Int := if isC s c then far s a c else -1
def frt (s : Int → Int) (a : Int) : Int := lpI (fun k b => if frs s a b < far s a k then k else b) 48 0 a
theorem S_X0_countFrom {a : Int} (h1 : isC l a) (hW : WH h w l p) (hR : RgC l) (hD : DSo h d w tr tc to) (hq : AI h (d + 1) 0 48 q) (hS : AI h (d + 2) 0 48 f) (sp : d + 54 ≤ w ∨ w + 38 ≤ d) : ∃ r_ h', q_cl E q_m_X0_countFrom [Value.ref d, Value.int (zi a)] h = some (r_, h') ∧ (r_ = .inl (some (.int (zi (rch l a)))) ∧ ∃ q' f', (WH h' w l p ∧ DSo h' d w tr tc to ∧ AI h' (d + 1) 0 48 q' ∧ AI h' (d + 2) 0 48 f') ∧ Fr (d + 1) 2 h h') := by
  suffices K : ∀ Q : q_R → q_H → Prop, (∀ r_ h', (r_ = .inl (some (.int (zi (rch l a)))) ∧ ∃ q' f', (WH h' w l p ∧ DSo h' d w tr tc to ∧ AI h' (d + 1) 0 48 q' ∧ AI h' (d + 2) 0 48 f') ∧ Fr (d + 1) 2 h h') → Q r_ h') → Xv E q_m_X0_countFrom 0 [Value.ref d, Value.int (zi a), Value.null, Value.null] [] h Q from K _ fun _ _ p => p
  intro Q hQ
  obtain ⟨g0, g1, g2, g3, g4, gc, g5, g6, g7, gk, gl, gr, go⟩ := id hR
  refine xv (x_aload_n 1 d_X0_countFrom_0 rfl rfl) ?_
  refine xv (x_iload_n 2 d_X0_countFrom_1 rfl rfl) ?_
  obtain ⟨r2, h2, e2, z2, q2, ⟨w2, d2, m2, s2⟩, f2⟩ := S_X0_measureFrom (E := E) (a := a) (by omega) hW hR hD hq hS (by omega)
  subst z2
  have F2 : Fr (d + 1) 2 h h2 := fr_tr fr_rf (fr_in f2 (by omega) (by omega))
  refine xv (x_inv0 5 (as := [Value.int (zi a)]) d_X0_countFrom_2 rfl c_0_34 rfl (Nat.le_of_ble_eq_true rfl) (Nat.le_of_ble_eq_true rfl) hD (Nat.le_of_ble_eq_true rfl) (Nat.le_of_ble_eq_true rfl) rfl e2) ?_
  have y2 := far_r hR (show isC l a by omega)
  show Xv E q_m_X0_countFrom 5 [Value.ref d, Value.int (zi a), Value.null, Value.null] [] h2 Q
  refine xv (x_iconst 6 d_X0_countFrom_5 rfl) ?_
  refine xv (x_istore_n 7 d_X0_countFrom_6 rfl (Nat.le_of_ble_eq_true rfl)) ?_
  show Xv E q_m_X0_countFrom 7 [Value.ref d, Value.int (zi a), Value.int (zi 0), Value.null] [] h2 Q
  refine xv (x_iconst 8 d_X0_countFrom_7 rfl) ?_
  refine xv (x_istore_n 9 d_X0_countFrom_8 rfl (Nat.le_of_ble_eq_true rfl)) ?_
  show Xv E q_m_X0_countFrom 9 [Value.ref d, Value.int (zi a), Value.int (zi 0), Value.int (zi 0)] [] h2 Q
  have L9 : ∀ (n_ : Nat) (x : Int) (k : Int), (0 ≤ k) → (k ≤ 48) → (0 ≤ x ∧ x ≤ k) → (rch l a = lpI (fun k x => x + bI (¬ far l a k = -1)) (48 - k).toNat k x) → (48 - k).toNat = n_ → Xv E q_m_X0_countFrom 9 [Value.ref d, Value.int (zi a), Value.int (zi x), Value.int (zi k)] [] h2 Q := by
    intro n_
    induction n_ using Nat.strongRecOn with
    | _ n_ ih9 =>
      intro x k i0 i1 ab hv em
      have yk := y2 k
      refine xv (x_iload_n 10 d_X0_countFrom_9 rfl rfl) ?_
      refine xv (x_bipush 12 d_X0_countFrom_10 rfl rfl) ?_
      refine v_icmp_ge 34 15 d_X0_countFrom_12 rfl rfl (by omega) (by omega) (by omega) (by omega) (fun k12 => ?_) (fun k12 => ?_)
      · refine xv (x_iload_n 35 d_X0_countFrom_34 rfl rfl) ?_
        refine xv_r (x_ireturn d_X0_countFrom_35 rfl rfl) ?_
        have lvx : x = rch l a := (lpI_e (by omega)).symm.trans hv.symm
        exact hQ _ _ ⟨by rw [lvx], _, _, ⟨w2, d2, m2, s2⟩, F2⟩
      · refine xv (x_aload_n 16 d_X0_countFrom_15 rfl rfl) ?_
        refine xv (x_getfield 19 d_X0_countFrom_16 rfl f_0_19 (Nat.le_of_ble_eq_true rfl) (Nat.le_of_ble_eq_true rfl) (q_gf_of d2 rfl)) ?_
        refine xv (x_iload_n 20 d_X0_countFrom_19 rfl rfl) ?_
        refine xv (x_iaload 21 d_X0_countFrom_20 rfl (ai_g s2 (by omega) (by omega) (by decide))) ?_
        refine xv (x_iconst 22 d_X0_countFrom_21 rfl) ?_
        refine v_icmp_eq 28 25 d_X0_countFrom_22 rfl rfl (by omega) (by omega) (by omega) (by omega) (fun k22 => ?_) (fun k22 => ?_)
        · refine xv (x_iinc 31 d_X0_countFrom_28 rfl rfl) ?_
          show Xv E q_m_X0_countFrom 31 [Value.ref d, Value.int (zi a), Value.int (zi x), Value.int (zi (k + 1))] [] h2 Q
          refine xv (x_goto 9 d_X0_countFrom_31 rfl) ?_
          refine ih9 _ (by omega) _ (k + 1) (by omega) (by omega) (by omega) (hv.trans ((lpI_b (by omega)).trans (congrArg (lpI _ _ _) ?_))) rfl
          show x + bI (¬ far l a k = -1) = _
          first | rw [bI_t k22] | rw [bI_f (fun z => z k22), Int.add_zero]
        · refine xv (x_iinc 28 d_X0_countFrom_25 rfl rfl) ?_
          show Xv E q_m_X0_countFrom 28 [Value.ref d, Value.int (zi a), Value.int (zi (x + 1)), Value.int (zi k)] [] h2 Q
          refine xv (x_iinc 31 d_X0_countFrom_28 rfl rfl) ?_
          show Xv E q_m_X0_countFrom 31 [Value.ref d, Value.int (zi a), Value.int (zi (x + 1)), Value.int (zi (k + 1))] [] h2 Q
          refine xv (x_goto 9 d_X0_countFrom_31 rfl) ?_
          refine ih9 _ (by omega) _ (k + 1) (by omega) (by omega) (by omega) (hv.trans ((lpI_b (by omega)).trans (congrArg (lpI _ _ _) ?_))) rfl
          show x + bI (¬ far l a k = -1) = _
          first | rw [bI_t k22] | rw [bI_f (fun z => z k22), Int.add_zero]
  exact L9 _ 0 0 (by omega) (by omega) (by omega) rfl rfl
theorem S_X0_farthestFrom {a : Int} (h1 : isC l a) (hW : WH h w l p) (hR : RgC l) (hD : DSo h d w tr tc to) (hq : AI h (d + 1) 0 48 q) (hS : AI h (d + 2) 0 48 f) (sp : d + 54 ≤ w ∨ w + 38 ≤ d) : ∃ r_ h', q_cl E q_m_X0_farthestFrom [Value.ref d, Value.int (zi a)] h = some (r_, h') ∧ (r_ = .inl (some (.int (zi (frt l a)))) ∧ ∃ q' f', (WH h' w l p ∧ DSo h' d w tr tc to ∧ AI h' (d + 1) 0 48 q' ∧ AI h' (d + 2) 0 48 f') ∧ Fr (d + 1) 2 h h') := by
  suffices K : ∀ Q : q_R → q_H → Prop, (∀ r_ h', (r_ = .inl (some (.int (zi (frt l a)))) ∧ ∃ q' f', (WH h' w l p ∧ DSo h' d w tr tc to ∧ AI h' (d + 1) 0 48 q' ∧ AI h' (d + 2) 0 48 f') ∧ Fr (d + 1) 2 h h') → Q r_ h') → Xv E q_m_X0_farthestFrom 0 [Value.ref d, Value.int (zi a), Value.null, Value.null] [] h Q from K _ fun _ _ p => p
  intro Q hQ
  obtain ⟨g0, g1, g2, g3, g4, gc, g5, g6, g7, gk, gl, gr, go⟩ := id hR
  refine xv (x_aload_n 1 d_X0_farthestFrom_0 rfl rfl) ?_
  refine xv (x_iload_n 2 d_X0_farthestFrom_1 rfl rfl) ?_
  obtain ⟨r2, h2, e2, z2, q2, ⟨w2, d2, m2, s2⟩, f2⟩ := S_X0_measureFrom (E := E) (a := a) (by omega) hW hR hD hq hS (by omega)
  subst z2
  have F2 : Fr (d + 1) 2 h h2 := fr_tr fr_rf (fr_in f2 (by omega) (by omega))
  refine xv (x_inv0 5 (as := [Value.int (zi a)]) d_X0_farthestFrom_2 rfl c_0_34 rfl (Nat.le_of_ble_eq_true rfl) (Nat.le_of_ble_eq_true rfl) hD (Nat.le_of_ble_eq_true rfl) (Nat.le_of_ble_eq_true rfl) rfl e2) ?_
  have y2 := far_r hR (show isC l a by omega)
  show Xv E q_m_X0_farthestFrom 5 [Value.ref d, Value.int (zi a), Value.null, Value.null] [] h2 Q
  refine xv (x_iload_n 6 d_X0_farthestFrom_5 rfl rfl) ?_
  refine xv (x_istore_n 7 d_X0_farthestFrom_6 rfl (Nat.le_of_ble_eq_true rfl)) ?_
  show Xv E q_m_X0_farthestFrom 7 [Value.ref d, Value.int (zi a), Value.int (zi a), Value.null] [] h2 Q
  refine xv (x_iconst 8 d_X0_farthestFrom_7 rfl) ?_
  refine xv (x_istore_n 9 d_X0_farthestFrom_8 rfl (Nat.le_of_ble_eq_true rfl)) ?_
  show Xv E q_m_X0_farthestFrom 9 [Value.ref d, Value.int (zi a), Value.int (zi a), Value.int (zi 0)] [] h2 Q
  have L9 : ∀ (n_ : Nat) (b : Int) (k : Int), (0 ≤ k) → (k ≤ 48) → (0 ≤ b ∧ b < 48) → (frt l a = lpI (fun k b => if frs l a b < far l a k then k else b) (48 - k).toNat k b) → (48 - k).toNat = n_ → Xv E q_m_X0_farthestFrom 9 [Value.ref d, Value.int (zi a), Value.int (zi b), Value.int (zi k)] [] h2 Q := by
    intro n_
    induction n_ using Nat.strongRecOn with
    | _ n_ ih9 =>
      intro b k i0 i1 ab hv em
      have yk := y2 k
      have yb := y2 b
      have yf : -1 ≤ (if isC l b then far l a b else -1) ∧ (if isC l b then far l a b else -1) < 48 := by split <;> omega
      refine xv (x_iload_n 10 d_X0_farthestFrom_9 rfl rfl) ?_
      refine xv (x_bipush 12 d_X0_farthestFrom_10 rfl rfl) ?_
      refine v_icmp_ge 37 15 d_X0_farthestFrom_12 rfl rfl (by omega) (by omega) (by omega) (by omega) (fun k12 => ?_) (fun k12 => ?_)
      · refine xv (x_iload_n 38 d_X0_farthestFrom_37 rfl rfl) ?_
        refine xv_r (x_ireturn d_X0_farthestFrom_38 rfl rfl) ?_
        have lvx : b = frt l a := (lpI_e (by omega)).symm.trans hv.symm
        exact hQ _ _ ⟨by rw [lvx], _, _, ⟨w2, d2, m2, s2⟩, F2⟩
      · refine xv (x_aload_n 16 d_X0_farthestFrom_15 rfl rfl) ?_
        refine xv (x_getfield 19 d_X0_farthestFrom_16 rfl f_0_19 (Nat.le_of_ble_eq_true rfl) (Nat.le_of_ble_eq_true rfl) (q_gf_of d2 rfl)) ?_
        refine xv (x_iload_n 20 d_X0_farthestFrom_19 rfl rfl) ?_
        refine xv (x_iaload 21 d_X0_farthestFrom_20 rfl (ai_g s2 (by omega) (by omega) (by decide))) ?_
        refine xv (x_aload_n 22 d_X0_farthestFrom_21 rfl rfl) ?_
        refine xv (x_iload_n 23 d_X0_farthestFrom_22 rfl rfl) ?_
        refine xv (x_inv1 26 (as := [Value.int (zi b)]) d_X0_farthestFrom_23 rfl c_0_38 rfl (Nat.le_of_ble_eq_true rfl) (Nat.le_of_ble_eq_true rfl) d2 (Nat.le_of_ble_eq_true rfl) (Nat.le_of_ble_eq_true rfl) rfl (S_X0_stepsTo w2 hR d2 m2 s2 (by omega) (by omega) (by omega))) ?_
        show Xv E q_m_X0_farthestFrom 26 [Value.ref d, Value.int (zi a), Value.int (zi b), Value.int (zi k)] [Value.int (zi (if isC l b then (far l a) b else -1)), Value.int (zi ((far l a) k))] h2 Q
        refine v_icmp_le 31 29 d_X0_farthestFrom_26 rfl rfl (by omega) (by omega) (by omega) (by omega) (fun k26 => ?_) (fun k26 => ?_)
        · refine xv (x_iinc 34 d_X0_farthestFrom_31 rfl rfl) ?_
          show Xv E q_m_X0_farthestFrom 34 [Value.ref d, Value.int (zi a), Value.int (zi b), Value.int (zi (k + 1))] [] h2 Q
          refine xv (x_goto 9 d_X0_farthestFrom_34 rfl) ?_
          refine ih9 _ (by omega) _ (k + 1) (by omega) (by omega) (by omega) (hv.trans ((lpI_b (by omega)).trans (congrArg (lpI _ _ _) ?_))) rfl
          show (if (if isC l b then far l a b else -1) < far l a k then k else b) = _
          first | exact if_pos (by omega) | exact if_neg (by omega)
        · refine xv (x_iload_n 30 d_X0_farthestFrom_29 rfl rfl) ?_
          refine xv (x_istore_n 31 d_X0_farthestFrom_30 rfl (Nat.le_of_ble_eq_true rfl)) ?_
          show Xv E q_m_X0_farthestFrom 31 [Value.ref d, Value.int (zi a), Value.int (zi k), Value.int (zi k)] [] h2 Q
          refine xv (x_iinc 34 d_X0_farthestFrom_31 rfl rfl) ?_
          show Xv E q_m_X0_farthestFrom 34 [Value.ref d, Value.int (zi a), Value.int (zi k), Value.int (zi (k + 1))] [] h2 Q
          refine xv (x_goto 9 d_X0_farthestFrom_34 rfl) ?_
          refine ih9 _ (by omega) _ (k + 1) (by omega) (by omega) (by omega) (hv.trans ((lpI_b (by omega)).trans (congrArg (lpI _ _ _) ?_))) rfl
          show (if (if isC l b then far l a b else -1) < far l a k then k else b) = _
          first | exact if_pos (by omega) | exact if_neg (by omega)
  exact L9 _ a 0 (by omega) (by omega) (by omega) rfl rfl
end CD
