/-! the reference: pass (printed by program) -/
section RB1
variable {E : q_E} {h : q_H} {am : Nat} {M M2 : q_Im} {l l0 f : Int → Int} {r g T t k w v c e d b s : Int}
def mPas (t : Int) : Int × Int := if ¬ inn t 1 99 then (2, 0) else (0, 0)
def pmL : Nat → (Int → Int) → (Int → Int)
  | 0, l => l
  | n + 1, l => pmL n (tmL l)
def pmV : Nat → (Int → Int) → Int → Int
  | 0, _, d => d
  | n + 1, l, d => pmV n (tmL l) (d + tmV l)
theorem pm_b {n : Int} (h : k < n) : pmL (n - k).toNat l = pmL (n - (k + 1)).toNat (tmL l) ∧ pmV (n - k).toNat l d = pmV (n - (k + 1)).toNat (tmL l) (d + tmV l) := by
  rw [show (n - k).toNat = (n - (k + 1)).toNat + 1 by omega]; exact ⟨rfl, rfl⟩
theorem pm_e {n : Int} (h : n ≤ k) : pmL (n - k).toNat l = l ∧ pmV (n - k).toNat l d = d := by
  rw [show (n - k).toNat = 0 by omega]; exact ⟨rfl, rfl⟩
theorem S_X8_pass (hR : Rg (M 1)) (hT : 0 ≤ M 1 2) (hc : 0 ≤ M 0 4 ∧ M 0 4 ≤ 8) {y T : Int} (hB : TB0 T (M 1)) (hT0 : 0 ≤ T) (hT1 : T ≤ 90000) (y0 : -2147483648 ≤ y) (y1 : y < 2147483648) : ∃ r_ h', q_cl E q_m_X8_pass [Value.ref am, Value.int (zi y)] (q_mw h am M) = some (r_, h') ∧ ((r_ = .inl (some (.int (zi (mMut M (mPas y) (pmV y.toNat (M 1) 0) (pmL y.toNat (M 1))).1))) ∧ h' = q_mw h am (mMut M (mPas y) (pmV y.toNat (M 1) 0) (pmL y.toNat (M 1))).2) ∧ (inn y 1 99 → Rg (pmL y.toNat (M 1)) ∧ TB0 (T + y) (pmL y.toNat (M 1)))) := by
  suffices K : ∀ Q : q_R → q_H → Prop, (∀ r_ h', ((r_ = .inl (some (.int (zi (mMut M (mPas y) (pmV y.toNat (M 1) 0) (pmL y.toNat (M 1))).1))) ∧ h' = q_mw h am (mMut M (mPas y) (pmV y.toNat (M 1) 0) (pmL y.toNat (M 1))).2) ∧ (inn y 1 99 → Rg (pmL y.toNat (M 1)) ∧ TB0 (T + y) (pmL y.toNat (M 1)))) → Q r_ h') → Xv E q_m_X8_pass 0 [Value.ref am, Value.int (zi y), Value.null, Value.null] [] (q_mw h am M) Q from K _ fun _ _ p => p
  intro Q hQ
  have hR0 := hR
  obtain ⟨hr, g0, g1, g3, g4, gc, g5, g6, g7, gk, gl, gr, go⟩ := hR0
  refine xv (x_aload_n 1 d_X8_pass_0 rfl rfl) ?_
  refine xv (x_iconst 2 d_X8_pass_1 rfl) ?_
  refine xv (x_putfield 5 d_X8_pass_2 rfl f_8_49 (Nat.le_of_ble_eq_true rfl) m_pf5 rfl rfl (fun e => absurd e (by decide))) ?_
  show Xv E q_m_X8_pass 5 [Value.ref am, Value.int (zi y), Value.null, Value.null] [] (q_mw h am (uM M 0 5 0)) Q
  refine xv (x_iload_n 6 d_X8_pass_5 rfl rfl) ?_
  refine xv (x_iconst 7 d_X8_pass_6 rfl) ?_
  refine xv (x_bipush 9 d_X8_pass_7 rfl rfl) ?_
  refine xv (x_ins1 12 (as := [Value.int (zi y), Value.int (zi 1), Value.int (zi 99)]) d_X8_pass_9 rfl c_8_71 rfl (Nat.le_of_ble_eq_true rfl) (Nat.le_of_ble_eq_true rfl) (Nat.le_of_ble_eq_true rfl) rfl (S_X8_in (E := E) (h := h) (am := am) (M := (uM M 0 5 0)) (by first | omega | (rw [show (uM M 0 5 0) 1 = (M 1) from rfl]; omega)) (by first | omega | (rw [show (uM M 0 5 0) 1 = (M 1) from rfl]; omega)) (by first | omega | (rw [show (uM M 0 5 0) 1 = (M 1) from rfl]; omega)) (by first | omega | (rw [show (uM M 0 5 0) 1 = (M 1) from rfl]; omega)) (by first | omega | (rw [show (uM M 0 5 0) 1 = (M 1) from rfl]; omega)) (by first | omega | (rw [show (uM M 0 5 0) 1 = (M 1) from rfl]; omega)))) ?_
  show Xv E q_m_X8_pass 12 [Value.ref am, Value.int (zi y), Value.null, Value.null] [Value.int (zi (bI (inn y 1 99)))] (q_mw h am (uM M 0 5 0)) Q
  refine v_if_ne 22 15 d_X8_pass_12 rfl rfl (by have := bI_r (inn y 1 99); omega) (by have := bI_r (inn y 1 99); omega) (fun k12 => ?_) (fun k12 => ?_)
  · replace k12 := bI_n0.mp k12
    refine xv (x_aload_n 23 d_X8_pass_22 rfl rfl) ?_
    obtain ⟨r23, h23, e23, z23, y23⟩ := S_X8_change (E := E) (h := h) (am := am) (M := (uM M 0 5 0)) hc
    subst z23
    subst y23
    refine xv (x_inv0 26 (as := []) d_X8_pass_23 rfl c_8_100 rfl (Nat.le_of_ble_eq_true rfl) (Nat.le_of_ble_eq_true rfl) m_o (Nat.le_of_ble_eq_true rfl) (Nat.le_of_ble_eq_true rfl) rfl e23) ?_
    generalize hM2 : mch (uM M 0 5 0) = M2
    have e2 : M2 1 = M 1 := by rw [← hM2]; exact mch_1
    have eM : M2 = uA M2 1 (M 1) := by rw [← e2, uA_self]
    rw [eM]
    show Xv E q_m_X8_pass 26 [Value.ref am, Value.int (zi y), Value.null, Value.null] [] (q_mw h am (uA M2 1 (M 1))) Q
    refine xv (x_iconst 27 d_X8_pass_26 rfl) ?_
    refine xv (x_istore_n 28 d_X8_pass_27 rfl (Nat.le_of_ble_eq_true rfl)) ?_
    show Xv E q_m_X8_pass 28 [Value.ref am, Value.int (zi y), Value.int (zi 0), Value.null] [] (q_mw h am (uA M2 1 (M 1))) Q
    refine xv (x_iconst 29 d_X8_pass_28 rfl) ?_
    refine xv (x_istore_n 30 d_X8_pass_29 rfl (Nat.le_of_ble_eq_true rfl)) ?_
    show Xv E q_m_X8_pass 30 [Value.ref am, Value.int (zi y), Value.int (zi 0), Value.int (zi 0)] [] (q_mw h am (uA M2 1 (M 1))) Q
    have L30 : ∀ (n_ : Nat) (d : Int) (k : Int) (lk : Int → Int), (0 ≤ k) → (k ≤ y) → (0 ≤ d ∧ d ≤ 6 * k) → (Rg lk) → (TB0 (T + k) lk) → (0 ≤ lk 2) → (pmL y.toNat (M 1) = pmL (y - k).toNat lk) → (pmV y.toNat (M 1) 0 = pmV (y - k).toNat lk d) → (y - k).toNat = n_ → Xv E q_m_X8_pass 30 [Value.ref am, Value.int (zi y), Value.int (zi d), Value.int (zi k)] [] (q_mw h am (uA M2 1 lk)) Q := by
      intro n_
      induction n_ using Nat.strongRecOn with
      | _ n_ ih30 =>
        intro d k lk k0 k1 d0 hRk hBk hTk hv hd em
        refine xv (x_iload_n 31 d_X8_pass_30 rfl rfl) ?_
        refine xv (x_iload_n 32 d_X8_pass_31 rfl rfl) ?_
        refine v_icmp_ge 48 35 d_X8_pass_32 rfl rfl (by omega) (by omega) (by omega) (by omega) (fun k32 => ?_) (fun k32 => ?_)
        · refine xv (x_iload_n 49 d_X8_pass_48 rfl rfl) ?_
          refine xv_r (x_ireturn d_X8_pass_49 rfl rfl) ?_
          have er : mPas y = (0, 0) := by unfold mPas; repeat (first | rw [if_pos (by omega)] | rw [if_neg (by omega)])
          have ev : pmL y.toNat (M 1) = lk := hv.trans (pm_e (d := 0) (by omega)).1
          have ew : pmV y.toNat (M 1) 0 = d := hd.trans (pm_e (l := lk) (by omega)).2
          have ek : k = y := by omega
          rw [ek] at hBk
          refine hQ _ _ ⟨?_, fun _ => by rw [ev]; exact ⟨hRk, hBk⟩⟩
          unfold mMut
          rw [er, if_pos rfl, ev, ew, hM2]
          exact ⟨rfl, rfl⟩
        · refine xv (x_iload_n 36 d_X8_pass_35 rfl rfl) ?_
          refine xv (x_aload_n 37 d_X8_pass_36 rfl rfl) ?_
          obtain ⟨r37, h37, e37, ⟨⟨z37, t1, t2⟩, y37⟩, t3, t4, t5⟩ := S_X8_tick (E := E) (h := h) (am := am) (M := (uA M2 1 lk)) hRk hTk (T := T + k) hBk (by omega) (by omega)
          subst z37
          subst y37
          replace t1 : 0 ≤ tmV lk := t1
          replace t2 : tmV lk ≤ 6 := t2
          replace t3 : Rg (tmL lk) := t3
          replace t4 : TB0 (T + k + 1) (tmL lk) := t4
          replace t5 : tmL lk 2 = lk 2 + 1 := (t5 2 (by omega)).trans u1_eq
          refine xv (x_inv1 40 (as := []) d_X8_pass_37 rfl c_8_159 rfl (Nat.le_of_ble_eq_true rfl) (Nat.le_of_ble_eq_true rfl) m_o (Nat.le_of_ble_eq_true rfl) (Nat.le_of_ble_eq_true rfl) rfl e37) ?_
          rw [uA_uA]
          show Xv E q_m_X8_pass 40 [Value.ref am, Value.int (zi y), Value.int (zi d), Value.int (zi k)] [Value.int (zi (tmV lk)), Value.int (zi d)] (q_mw h am (uA M2 1 (tmL lk))) Q
          refine xv (x_iadd 41 d_X8_pass_40 rfl) ?_
          refine xv (x_istore_n 42 d_X8_pass_41 rfl (Nat.le_of_ble_eq_true rfl)) ?_
          show Xv E q_m_X8_pass 42 [Value.ref am, Value.int (zi y), Value.int (zi (d + (tmV lk))), Value.int (zi k)] [] (q_mw h am (uA M2 1 (tmL lk))) Q
          refine xv (x_iinc 45 d_X8_pass_42 rfl rfl) ?_
          show Xv E q_m_X8_pass 45 [Value.ref am, Value.int (zi y), Value.int (zi (d + (tmV lk))), Value.int (zi (k + 1))] [] (q_mw h am (uA M2 1 (tmL lk))) Q
          refine xv (x_goto 30 d_X8_pass_45 rfl) ?_
          exact ih30 _ (by omega) _ (k + 1) (tmL lk) (by omega) (by omega) (by omega) t3 (by rw [show T + (k + 1) = T + k + 1 by omega]; exact t4) (by omega) (hv.trans (pm_b (d := 0) (by omega)).1) (hd.trans (pm_b (by omega)).2) rfl
    exact L30 _ 0 0 (M 1) (by omega) (by omega) (by omega) hR (by rw [Int.add_zero]; exact hB) hT (by rw [Int.sub_zero]) (by rw [Int.sub_zero]) rfl
  · replace k12 := bI_0.mp k12
    refine xv (x_aload_n 16 d_X8_pass_15 rfl rfl) ?_
    refine xv (x_iconst 17 d_X8_pass_16 rfl) ?_
    refine xv (x_iconst 18 d_X8_pass_17 rfl) ?_
    obtain ⟨r18, h18, e18, z18, y18⟩ := S_X8_refuse (E := E) (h := h) (am := am) (M := (uM M 0 5 0)) (y := 2) (z := 0) 
    subst z18
    subst y18
    refine xv (x_inv1 21 (as := [Value.int (zi 2), Value.int (zi 0)]) d_X8_pass_18 rfl c_8_90 rfl (Nat.le_of_ble_eq_true rfl) (Nat.le_of_ble_eq_true rfl) m_o (Nat.le_of_ble_eq_true rfl) (Nat.le_of_ble_eq_true rfl) rfl e18) ?_
    show Xv E q_m_X8_pass 21 [Value.ref am, Value.int (zi y), Value.null, Value.null] [Value.int (zi 0)] (q_mw h am (uM (uM (uM (uM M 0 5 0) 0 5 1) 0 6 2) 0 7 0)) Q
    refine xv_r (x_ireturn d_X8_pass_21 rfl rfl) ?_
    have er : mPas y = (2, 0) := by unfold mPas; repeat (first | rw [if_pos (by omega)] | rw [if_neg (by omega)])
    refine hQ _ _ ?_
    unfold mMut
    rw [er]
    exact ⟨⟨rfl, rfl⟩, fun z_ => absurd z_ (by omega)⟩
end RB1
