/-! the law's loop, its start, its run (printed by program) -/
/-- how the law ends -/
def Qf (r : q_R) (h' : q_H) : Prop := r = .inl (some (.int (zi 1))) ∧ h'.2.2.1 ≤ 3000 ∧ h'.2.2.2 ≤ 200000
section LOOP
variable {E : q_E} {h h1 h' : q_H} {x N c s b L : Nat} {T T' i : Int} {ys : Nat → Int32} {M : q_Im}
theorem K_loop (hN : N ≤ x) (hE : q_EN E N) (hbN : b < N) (hS : E.2 b = some (.int, L, fun j => .int (ys j))) (hL : L ≤ 2560) : ∀ (n : Nat) (k : Nat) (h : q_H) (v6 v7 v8 : Value), 5 * k ≤ 2560 → L < 5 * k + 5 * n → LI (99 * (k : Int)) x N (1000 + k) (100000 + 6 * k) h → Xv E q_m_L_law 28 [.ref b, .ref x, .ref (x + 444), .ref (x + 456), .ref (x + 457), .int (zi (5 * (k : Int))), v6, v7, v8] [] h Qf
  | 0, k, h, v6, v7, v8, hk, hn, I => by
    refine xv (x_iload 30 d_L_law_28 rfl rfl) ?_
    refine xv (x_aload_n 31 d_L_law_30 rfl rfl) ?_
    refine xv (x_arraylength 32 d_L_law_31 rfl (q_len_ro (I.2.2.1 b hbN) hS)) ?_
    refine xv (x_iconst 33 d_L_law_32 rfl) ?_
    refine xv (x_isub 34 d_L_law_33 rfl) ?_
    refine v_icmp_gt 2405 37 d_L_law_34 rfl rfl (by omega) (by omega) (by omega) (by omega) (fun q => ?_) (fun q => absurd (show (L : Int) - 5 < 5 * (k : Int) by omega) q)
    refine xv (x_iconst 2406 d_L_law_2405 rfl) ?_
    refine xv_r (x_ireturn d_L_law_2406 rfl rfl) ?_
    have h1 := I.2.2.2.1
    have h2 := I.2.2.2.2
    exact ⟨rfl, by omega, by omega⟩
  | n + 1, k, h, v6, v7, v8, hk, hn, I => by
    refine xv (x_iload 30 d_L_law_28 rfl rfl) ?_
    refine xv (x_aload_n 31 d_L_law_30 rfl rfl) ?_
    refine xv (x_arraylength 32 d_L_law_31 rfl (q_len_ro (I.2.2.1 b hbN) hS)) ?_
    refine xv (x_iconst 33 d_L_law_32 rfl) ?_
    refine xv (x_isub 34 d_L_law_33 rfl) ?_
    refine v_icmp_gt 2405 37 d_L_law_34 rfl rfl (by omega) (by omega) (by omega) (by omega) (fun q => ?_) (fun q => ?_)
    · refine xv (x_iconst 2406 d_L_law_2405 rfl) ?_
      refine xv_r (x_ireturn d_L_law_2406 rfl rfl) ?_
      have h1 := I.2.2.2.1
      have h2 := I.2.2.2.2
      exact ⟨rfl, by omega, by omega⟩
    have hi : 0 ≤ 5 * (k : Int) ∧ 5 * (k : Int) + 5 ≤ L := by omega
    have next : ∀ h' v6 v7 v8, LI (99 * (k : Int) + 99) x N (1000 + k + 1) (100000 + 6 * k + 6) h' → Xv E q_m_L_law 2399 [.ref b, .ref x, .ref (x + 444), .ref (x + 456), .ref (x + 457), .int (zi (5 * (k : Int))), v6, v7, v8] [] h' Qf := by
      intro h' v6 v7 v8 I'
      refine xv (x_iinc 2402 d_L_law_2399 rfl rfl) ?_
      refine xv (x_goto 28 d_L_law_2402 rfl) ?_
      have e : 5 * (k : Int) + 5 = 5 * ((k + 1 : Nat) : Int) := by omega
      have I2 : LI (99 * ((k + 1 : Nat) : Int)) x N (1000 + (k + 1)) (100000 + 6 * (k + 1)) h' := li_mono I' (by omega) (by omega) (by omega) (by omega)
      have z := K_loop hN hE hbN hS hL n (k + 1) h' v6 v7 v8 (by omega) (by omega) I2
      rw [← e] at z
      exact z
    have hT0 : (0 : Int) ≤ 99 * (k : Int) := by omega
    have hT1 : 99 * (k : Int) ≤ 90000 := by omega
    obtain ⟨y, ey, y0, y1⟩ := zi_of (ys (5 * (k : Int)).toNat)
    have G : q_gI E h 0 .int b (zi (5 * (k : Int))) = some (.int (zi y)) := by rw [← ey]; exact gI_s hS hL (I.2.2.1 b hbN) hi.1 (by omega)
    refine xv (x_aload_n 38 d_L_law_37 rfl rfl) ?_
    refine xv (x_iload 40 d_L_law_38 rfl rfl) ?_
    refine xv (x_iaload 41 d_L_law_40 rfl G) ?_
    refine xv (x_bipush 43 d_L_law_41 rfl rfl) ?_
    refine xv (x_iand 44 d_L_law_43 rfl) ?_
    obtain ⟨w, ew, w0, w1⟩ := zi_of (zi y &&& zi 63)
    rw [ew]
    by_cases hw : w < 0 ∨ 36 < w
    · refine xv (x_tsw_out 2399 d_L_law_44 w0 w1 hw rfl) ?_
      exact next h v6 v7 v8 (li_mono I (by omega) hT0 (by omega) (by omega))
    by_cases e0 : w = 0
    · refine xv (x_tsw_in 208 0 d_L_law_44 e0 (by decide) (by decide) (by decide) rfl rfl) ?_
      exact K_append I hN hT0 hT1 hE hbN hS hL hi next
    by_cases e1 : w = 1
    · refine xv (x_tsw_in 266 1 d_L_law_44 e1 (by decide) (by decide) (by decide) rfl rfl) ?_
      exact K_layout I hN hT0 hT1 hE hbN hS hL hi next
    by_cases e2 : w = 2
    · refine xv (x_tsw_in 310 2 d_L_law_44 e2 (by decide) (by decide) (by decide) rfl rfl) ?_
      exact K_faultPosition I hN hT0 hT1 hE hbN hS hL hi next
    by_cases e3 : w = 3
    · refine xv (x_tsw_in 323 3 d_L_law_44 e3 (by decide) (by decide) (by decide) rfl rfl) ?_
      exact K_add I hN hT0 hT1 hE hbN hS hL hi next
    by_cases e4 : w = 4
    · refine xv (x_tsw_in 391 4 d_L_law_44 e4 (by decide) (by decide) (by decide) rfl rfl) ?_
      exact K_takeOff I hN hT0 hT1 hE hbN hS hL hi next
    by_cases e5 : w = 5
    · refine xv (x_tsw_in 447 5 d_L_law_44 e5 (by decide) (by decide) (by decide) rfl rfl) ?_
      exact K_order I hN hT0 hT1 hE hbN hS hL hi next
    by_cases e6 : w = 6
    · refine xv (x_tsw_in 539 6 d_L_law_44 e6 (by decide) (by decide) (by decide) rfl rfl) ?_
      exact K_assign I hN hT0 hT1 hE hbN hS hL hi next
    by_cases e7 : w = 7
    · refine xv (x_tsw_in 607 7 d_L_law_44 e7 (by decide) (by decide) (by decide) rfl rfl) ?_
      exact K_release I hN hT0 hT1 hE hbN hS hL hi next
    by_cases e8 : w = 8
    · refine xv (x_tsw_in 663 8 d_L_law_44 e8 (by decide) (by decide) (by decide) rfl rfl) ?_
      exact K_close I hN hT0 hT1 hE hbN hS hL hi next
    by_cases e9 : w = 9
    · refine xv (x_tsw_in 719 9 d_L_law_44 e9 (by decide) (by decide) (by decide) rfl rfl) ?_
      exact K_open I hN hT0 hT1 hE hbN hS hL hi next
    by_cases e10 : w = 10
    · refine xv (x_tsw_in 775 10 d_L_law_44 e10 (by decide) (by decide) (by decide) rfl rfl) ?_
      exact K_set I hN hT0 hT1 hE hbN hS hL hi next
    by_cases e11 : w = 11
    · refine xv (x_tsw_in 843 11 d_L_law_44 e11 (by decide) (by decide) (by decide) rfl rfl) ?_
      exact K_plan I hN hT0 hT1 hE hbN hS hL hi next
    by_cases e12 : w = 12
    · refine xv (x_tsw_in 911 12 d_L_law_44 e12 (by decide) (by decide) (by decide) rfl rfl) ?_
      exact K_cancel I hN hT0 hT1 hE hbN hS hL hi next
    by_cases e13 : w = 13
    · refine xv (x_tsw_in 967 13 d_L_law_44 e13 (by decide) (by decide) (by decide) rfl rfl) ?_
      exact K_pass I hN hT0 hT1 hE hbN hS hL hi next
    by_cases e14 : w = 14
    · refine xv (x_tsw_in 1023 14 d_L_law_44 e14 (by decide) (by decide) (by decide) rfl rfl) ?_
      exact K_cell I hN hT0 hT1 hE hbN hS hL hi next
    by_cases e15 : w = 15
    · refine xv (x_tsw_in 1091 15 d_L_law_44 e15 (by decide) (by decide) (by decide) rfl rfl) ?_
      exact K_letter I hN hT0 hT1 hE hbN hS hL hi next
    by_cases e16 : w = 16
    · refine xv (x_tsw_in 1147 16 d_L_law_44 e16 (by decide) (by decide) (by decide) rfl rfl) ?_
      exact K_distance I hN hT0 hT1 hE hbN hS hL hi next
    by_cases e17 : w = 17
    · refine xv (x_tsw_in 1215 17 d_L_law_44 e17 (by decide) (by decide) (by decide) rfl rfl) ?_
      exact K_distanceAgain I hN hT0 hT1 hE hbN hS hL hi next
    by_cases e18 : w = 18
    · refine xv (x_tsw_in 1283 18 d_L_law_44 e18 (by decide) (by decide) (by decide) rfl rfl) ?_
      exact K_reach I hN hT0 hT1 hE hbN hS hL hi next
    by_cases e19 : w = 19
    · refine xv (x_tsw_in 1339 19 d_L_law_44 e19 (by decide) (by decide) (by decide) rfl rfl) ?_
      exact K_farthest I hN hT0 hT1 hE hbN hS hL hi next
    by_cases e20 : w = 20
    · refine xv (x_tsw_in 1395 20 d_L_law_44 e20 (by decide) (by decide) (by decide) rfl rfl) ?_
      exact K_robotOf I hN hT0 hT1 hE hbN hS hL hi next
    by_cases e21 : w = 21
    · refine xv (x_tsw_in 1463 21 d_L_law_44 e21 (by decide) (by decide) (by decide) rfl rfl) ?_
      exact K_planned I hN hT0 hT1 hE hbN hS hL hi next
    by_cases e22 : w = 22
    · refine xv (x_tsw_in 1531 22 d_L_law_44 e22 (by decide) (by decide) (by decide) rfl rfl) ?_
      exact K_reserved I hN hT0 hT1 hE hbN hS hL hi next
    by_cases e23 : w = 23
    · refine xv (x_tsw_in 1599 23 d_L_law_44 e23 (by decide) (by decide) (by decide) rfl rfl) ?_
      exact K_arrival I hN hT0 hT1 hE hbN hS hL hi next
    by_cases e24 : w = 24
    · refine xv (x_tsw_in 1667 24 d_L_law_44 e24 (by decide) (by decide) (by decide) rfl rfl) ?_
      exact K_arrivalAgain I hN hT0 hT1 hE hbN hS hL hi next
    by_cases e25 : w = 25
    · refine xv (x_tsw_in 1735 25 d_L_law_44 e25 (by decide) (by decide) (by decide) rfl rfl) ?_
      exact K_orderOf I hN hT0 hT1 hE hbN hS hL hi next
    by_cases e26 : w = 26
    · refine xv (x_tsw_in 1803 26 d_L_law_44 e26 (by decide) (by decide) (by decide) rfl rfl) ?_
      exact K_line I hN hT0 hT1 hE hbN hS hL hi next
    by_cases e27 : w = 27
    · refine xv (x_tsw_in 1871 27 d_L_law_44 e27 (by decide) (by decide) (by decide) rfl rfl) ?_
      exact K_waiting I hN hT0 hT1 hE hbN hS hL hi next
    by_cases e28 : w = 28
    · refine xv (x_tsw_in 1927 28 d_L_law_44 e28 (by decide) (by decide) (by decide) rfl rfl) ?_
      exact K_suited I hN hT0 hT1 hE hbN hS hL hi next
    by_cases e29 : w = 29
    · refine xv (x_tsw_in 1983 29 d_L_law_44 e29 (by decide) (by decide) (by decide) rfl rfl) ?_
      exact K_tour I hN hT0 hT1 hE hbN hS hL hi next
    by_cases e30 : w = 30
    · refine xv (x_tsw_in 2039 30 d_L_law_44 e30 (by decide) (by decide) (by decide) rfl rfl) ?_
      exact K_loaded I hN hT0 hT1 hE hbN hS hL hi next
    by_cases e31 : w = 31
    · refine xv (x_tsw_in 2105 31 d_L_law_44 e31 (by decide) (by decide) (by decide) rfl rfl) ?_
      exact K_lateness I hN hT0 hT1 hE hbN hS hL hi next
    by_cases e32 : w = 32
    · refine xv (x_tsw_in 2170 32 d_L_law_44 e32 (by decide) (by decide) (by decide) rfl rfl) ?_
      exact K_reason I hN hT0 hT1 hE hbN hS hL hi next
    by_cases e33 : w = 33
    · refine xv (x_tsw_in 2242 33 d_L_law_44 e33 (by decide) (by decide) (by decide) rfl rfl) ?_
      exact K_account I hN hT0 hT1 hE hbN hS hL hi next
    by_cases e34 : w = 34
    · refine xv (x_tsw_in 2298 34 d_L_law_44 e34 (by decide) (by decide) (by decide) rfl rfl) ?_
      exact K_undo I hN hT0 hT1 hE hbN hS hL hi next
    by_cases e35 : w = 35
    · refine xv (x_tsw_in 2342 35 d_L_law_44 e35 (by decide) (by decide) (by decide) rfl rfl) ?_
      exact K_save I hN hT0 hT1 hE hbN hS hL hi next
    by_cases e36 : w = 36
    · refine xv (x_tsw_in 2355 36 d_L_law_44 e36 (by decide) (by decide) (by decide) rfl rfl) ?_
      exact K_restore I hN hT0 hT1 hE hbN hS hL hi next
    omega
theorem mi_v (i : Int) : mIn 1 i = if i = 7 then 30 else if i = 6 then 2 else if i = 5 then 5 else if i = 1 then 2 else if i = 0 then 1 else 0 := rfl
theorem mi_0 (i : Int) (h : 8 ≤ i) : mIn 1 i = 0 := by
  rw [mi_v, if_neg (by omega), if_neg (by omega), if_neg (by omega), if_neg (by omega), if_neg (by omega)]
theorem ini_0 (i : Int) (h : 8 ≤ i) (h1 : i < 104) : ini i = 0 := by
  unfold ini
  rw [if_neg (by omega), if_neg (by omega), if_neg (by omega), if_neg (by omega), if_neg (by omega), if_neg (by omega), if_neg (by omega)]
/-- a new object's row -/
theorem st_ini : StR 0 ini (mIn 1) := by
  have m0 : mIn 1 0 = 1 := rfl
  have m1 : mIn 1 1 = 2 := rfl
  have m2 : mIn 1 2 = 0 := rfl
  have m3 : mIn 1 3 = 0 := rfl
  have m4 : mIn 1 4 = 0 := rfl
  have m5 : mIn 1 5 = 5 := rfl
  have m6 : mIn 1 6 = 2 := rfl
  have m7 : mIn 1 7 = 30 := rfl
  have mc : cs (mIn 1) = 2 := by unfold cs; rw [m0, m1]; rfl
  have nR (r : Int) : ¬ isR (mIn 1) r := by unfold isR; rw [m3]; omega
  have nO (o : Int) : ¬ isO (mIn 1) o := by unfold isO; rw [m4]; omega
  have RC : RgC (mIn 1) := by
    unfold RgC
    rw [mc, m0, m1, m2, m3, m4, m5, m6, m7]
    exact ⟨by omega, by omega, by omega, by omega, by omega, by omega, by omega, by omega, by omega, fun k a b => by rw [mi_0 _ (by omega)]; omega, fun k a b => by rw [mi_0 _ (by omega)]; omega, fun r a b => by omega, fun o a b => by omega⟩
  have RR : Rg (mIn 1) := by
    refine rg_of (fun j => ?_) RC fun o a b => by rw [m4] at b; omega
    rw [mi_v]
    repeat' split
    all_goals omega
  refine ⟨⟨fun i a b => ?_, fun c hc => ?_, fun r hr => absurd hr (nR r), fun o ho => absurd ho (nO o)⟩, ⟨RR, by rw [m2]; omega, ⟨fun r a => absurd a (nR r), fun o a => absurd a (nO o), fun o a => absurd a (nO o)⟩, fun r a => absurd a (nR r), fun r r' a => absurd a (nR r)⟩, fun k a b => ?_, ⟨by rw [m2]; omega, fun r a b => by rw [m3] at b; omega, fun o a b => by rw [m4] at b; omega⟩⟩
  · rcases (by omega : i = 0 ∨ i = 1 ∨ i = 2 ∨ i = 3 ∨ i = 4 ∨ i = 5 ∨ i = 6 ∨ i = 7) with e | e | e | e | e | e | e | e <;> subst e <;> rfl
  · have hc : 0 ≤ c ∧ c < 2 := by unfold isC at hc; rw [mc] at hc; exact hc
    exact ⟨(ini_0 _ (by omega) (by omega)).trans (mi_0 _ (by omega)).symm, (ini_0 _ (by omega) (by omega)).trans (mi_0 _ (by omega)).symm⟩
  · rw [ini_0 _ (by omega) (by omega)]; omega
theorem ob_ini : OBx 0 ini ini 0 0 (fun _ => ini) 0 (fun _ => 0) 0 (-1) (-1) 0 mIn := by
  refine ⟨st_ini, ⟨by omega, rfl, by omega, fun j a b => by omega⟩, ⟨rfl, by omega, fun z => absurd z (by decide)⟩, ⟨rfl, by omega, fun k a b => by omega, fun k a b => ?_⟩, rfl, ⟨fun _ => rfl, fun _ => rfl⟩, fun z => absurd rfl z, by omega, by omega⟩
  show 0 ≤ (0 : Int) ∧ (0 : Int) < 65536
  omega
/-- THE LAW'S RUN -/
theorem law_run {b0 : Nat} (hE : q_EN E b0) (hS : E.2 b = some (.int, L, fun j => .int (ys j))) (hL : L ≤ 2560) (hb : b < b0) : ∃ h', q_cl E q_m_L_law [.ref b] (fun _ => none, some b0, 0, 0) = some (.inl (some (.int 1)), h') ∧ h'.2.2.1 ≤ 3000 ∧ h'.2.2.2 ≤ 200000 := by
  suffices K : Xv E q_m_L_law 0 [.ref b, .null, .null, .null, .null, .null, .null, .null, .null] [] (fun _ => none, some b0, 0, 0) Qf by
    obtain ⟨r, h', e, e1, e2, e3⟩ := K
    rw [e1] at e
    exact ⟨h', e, e2, e3⟩
  have L0 : Lo ((fun _ => none, some b0, 0, 0) : q_H) b0 := fun a _ => rfl
  obtain ⟨h1, e1, a1, f1, z1⟩ := al_x (h := ((fun _ => none, some b0, 0, 0) : q_H)) (e := .inr (7, q_df 7)) (n := q_N 7) (a := b0) (c := 0) (s := 0) rfl
  refine xv (xA_new 3 d_L_law_0 rfl rfl (Nat.le_of_ble_eq_true rfl) rfl e1) ?_
  refine xv (x_dup 4 d_L_law_3 rfl rfl) ?_
  have L1 : Lo h1 b0 := by have z_ := lo_fr L0 f1 (Nat.le_refl _); exact z_
  obtain ⟨r2, h2, e2, y2, C2, z2, f2⟩ := S_X7_init (E := E) (x := b0) a1 z1 hE L1 (Nat.le_refl _)
  subst y2
  have L2 : Lo h2 b0 := by have z_ := lo_fr L1 f2 (Nat.le_refl _); exact z_
  refine xv (x_ini 7 (as := []) d_L_law_4 rfl c_9_135 rfl (Nat.le_of_ble_eq_true rfl) (Nat.le_of_ble_eq_true rfl) (Nat.le_of_ble_eq_true rfl) rfl e2) ?_
  refine xv (x_astore_n 8 d_L_law_7 rfl (Nat.le_of_ble_eq_true rfl)) ?_
  show Xv E q_m_L_law 8 [.ref b, .ref b0, .null, .null, .null, .null, .null, .null, .null] [] h2 Qf
  obtain ⟨h3, e3, a3, f3, z3⟩ := al_x (h := h2) (e := .inr (8, q_df 8)) (n := q_N 8) z2
  refine xv (xA_new 11 d_L_law_8 rfl rfl (Nat.le_of_ble_eq_true rfl) (sz_1 z2) e3) ?_
  refine xv (x_dup 12 d_L_law_11 rfl rfl) ?_
  have L3 : Lo h3 b0 := by have z_ := lo_fr L2 f3 (by omega); exact z_
  have C3 : CA h3 b0 ini ini 0 0 (fun _ => ini) 0 (fun _ => 0) 0 (-1) (-1) 0 := by have z_ := ca_fr C2 f3 (by omega); exact z_
  obtain ⟨r4, h4, e4, y4, w4, z4, f4⟩ := S_X8_init (E := E) (am := b0 + 444) a3 z3
  subst y4
  have L4 : Lo h4 b0 := by have z_ := lo_fr L3 f4 (by omega); exact z_
  have C4 : CA h4 b0 ini ini 0 0 (fun _ => ini) 0 (fun _ => 0) 0 (-1) (-1) 0 := by have z_ := ca_fr C3 f4 (by omega); exact z_
  refine xv (x_ini 15 (as := []) d_L_law_12 rfl c_9_138 rfl (Nat.le_of_ble_eq_true rfl) (Nat.le_of_ble_eq_true rfl) (Nat.le_of_ble_eq_true rfl) rfl e4) ?_
  refine xv (x_astore_n 16 d_L_law_15 rfl (Nat.le_of_ble_eq_true rfl)) ?_
  show Xv E q_m_L_law 16 [.ref b, .ref b0, .ref (b0 + 444), .null, .null, .null, .null, .null, .null] [] h4 Qf
  refine xv (x_iconst 17 d_L_law_16 rfl) ?_
  obtain ⟨h5, e5, a5, f5, z5⟩ := al_x (h := h4) (e := .inl (1, 1, q_z 1)) (n := 1) z4
  refine xv (xA_newarray 19 (n := 1) d_L_law_17 rfl rfl (by decide) (sz_1 z4) e5) ?_
  have L5 : Lo h5 b0 := by have z_ := lo_fr L4 f5 (by omega); exact z_
  have C5 : CA h5 b0 ini ini 0 0 (fun _ => ini) 0 (fun _ => 0) 0 (-1) (-1) 0 := by have z_ := ca_fr C4 f5 (by omega); exact z_
  refine xv (x_astore_n 20 d_L_law_19 rfl (Nat.le_of_ble_eq_true rfl)) ?_
  show Xv E q_m_L_law 20 [.ref b, .ref b0, .ref (b0 + 444), .ref (b0 + 456), .null, .null, .null, .null, .null] [] h5 Qf
  refine xv (x_iconst 21 d_L_law_20 rfl) ?_
  obtain ⟨h6, e6, a6, f6, z6⟩ := al_x (h := h5) (e := .inl (4, 1, q_z 4)) (n := 1) z5
  refine xv (xA_newarray 23 (n := 1) d_L_law_21 rfl rfl (by decide) (sz_1 z5) e6) ?_
  have L6 : Lo h6 b0 := by have z_ := lo_fr L5 f6 (by omega); exact z_
  have C6 : CA h6 b0 ini ini 0 0 (fun _ => ini) 0 (fun _ => 0) 0 (-1) (-1) 0 := by have z_ := ca_fr C5 f6 (by omega); exact z_
  refine xv (x_astore 25 d_L_law_23 rfl (Nat.le_of_ble_eq_true rfl)) ?_
  show Xv E q_m_L_law 25 [.ref b, .ref b0, .ref (b0 + 444), .ref (b0 + 456), .ref (b0 + 457), .null, .null, .null, .null] [] h6 Qf
  refine xv (x_iconst 26 d_L_law_25 rfl) ?_
  refine xv (x_istore 28 d_L_law_26 rfl (Nat.le_of_ble_eq_true rfl)) ?_
  show Xv E q_m_L_law 28 [.ref b, .ref b0, .ref (b0 + 444), .ref (b0 + 456), .ref (b0 + 457), .int (zi (5 * ((0 : Nat) : Int))), .null, .null, .null] [] h6 Qf
  have hs : h6 = q_mw h6 (b0 + 444) mIn := mw_self fun j hj => ((f6.2 _ (by omega)).trans (f5.2 _ (by omega))).trans ((congrFun (congrArg Prod.fst w4) _).trans (m_at j hj))
  refine K_loop (Nat.le_refl _) hE hb hS hL 513 0 h6 _ _ _ (by omega) (by omega) ⟨⟨mIn, hs, _, _, _, _, _, _, _, _, _, _, _, C6, ob_ini⟩, ⟨⟨_, (f6.2 _ (by omega)).trans a5⟩, ⟨_, a6⟩⟩, L6, ?_, ?_⟩
  · rw [z6]
    show 0 + 1 + 443 + 1 + 11 + 1 + 1 ≤ 1000 + 0
    omega
  · rw [z6]
    show 0 + q_N 7 + 9943 + q_N 8 + 9469 + 1 + 1 ≤ 100000 + 6 * 0
    decide
end LOOP
