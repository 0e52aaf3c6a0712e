/-! the law's loop, its start, its run (printed by program) -/
/-- how the law ends -/
def Qf (r : q_R) (h' : q_H) : Prop := r = .inl (some (.int (zi 1))) ∧ h'.2.2.1 ≤ 603072 ∧ h'.2.2.2 ≤ 7198826
section LOOP
variable {E : q_E} {h h1 h' : q_H} {x N c s b L : Nat} {T T' i : Int} {ys : Nat → Int32} {M : q_Im}
theorem K_loop (hN : N ≤ x) (hE : q_EN E N) (hbN : b < N) (hS : E.2 b = some (.int, L, fun j => .int (ys j))) (hL : L ≤ 2560) : ∀ (n : Nat) (k : Nat) (h : q_H) (v6 v7 v8 : Value), 5 * k ≤ 2560 → L < 5 * k + 5 * n → LI (99 * (k : Int)) x N (1000 + k) (100000 + 6 * k) h → Xv E q_m_L_law 28 [.ref b, .ref x, .ref (x + 444), .ref (x + 456), .ref (x + 457), .int (zi (5 * (k : Int))), v6, v7, v8] [] h Qf
  | 0, k, h, v6, v7, v8, hk, hn, I => by
    refine xv (x_iload 30 d_L_law_28 rfl rfl) ?_
    refine xv (x_aload_n 31 d_L_law_30 rfl rfl) ?_
    refine xv (x_arraylength 32 d_L_law_31 rfl (q_len_ro (I.2.2.1 b hbN) hS)) ?_
    refine xv (x_iconst 33 d_L_law_32 rfl) ?_
    refine xv (x_isub 34 d_L_law_33 rfl) ?_
    refine v_icmp_gt 2405 37 d_L_law_34 rfl rfl (by omega) (by omega) (by omega) (by omega) (fun q => ?_) (fun q => absurd (show (L : Int) - 5 < 5 * (k : Int) by omega) q)
    refine xv (x_iconst 2406 d_L_law_2405 rfl) ?_
    refine xv_r (x_ireturn d_L_law_2406 rfl rfl) ?_
    have h1 := I.2.2.2.1
    have h2 := I.2.2.2.2
    exact ⟨rfl, by omega, by omega⟩
  | n + 1, k, h, v6, v7, v8, hk, hn, I => by
    refine xv (x_iload 30 d_L_law_28 rfl rfl) ?_
    refine xv (x_aload_n 31 d_L_law_30 rfl rfl) ?_
    refine xv (x_arraylength 32 d_L_law_31 rfl (q_len_ro (I.2.2.1 b hbN) hS)) ?_
    refine xv (x_iconst 33 d_L_law_32 rfl) ?_
    refine xv (x_isub 34 d_L_law_33 rfl) ?_
    refine v_icmp_gt 2405 37 d_L_law_34 rfl rfl (by omega) (by omega) (by omega) (by omega) (fun q => ?_) (fun q => ?_)
    · refine xv (x_iconst 2406 d_L_law_2405 rfl) ?_
      refine xv_r (x_ireturn d_L_law_2406 rfl rfl) ?_
      have h1 := I.2.2.2.1
      have h2 := I.2.2.2.2
      exact ⟨rfl, by omega, by omega⟩
    have hi : 0 ≤ 5 * (k : Int) ∧ 5 * (k : Int) + 5 ≤ L := by omega
    have next : ∀ h' v6 v7 v8, LI (99 * (k : Int) + 99) x N (1000 + k + 1) (100000 + 6 * k + 6) h' → Xv E q_m_L_law 2399 [.ref b, .ref x, .ref (x + 444), .ref (x + 456), .ref (x + 457), .int (zi (5 * (k : Int))), v6, v7, v8] [] h' Qf := by
      intro h' v6 v7 v8 I'
      refine xv (x_iinc 2402 d_L_law_2399 rfl rfl) ?_
      refine xv (x_goto 28 d_L_law_2402 rfl) ?_
      have e : 5 * (k : Int) + 5 = 5 * ((k + 1 : Nat) : Int) := by omega
      have I2 : LI (99 * ((k + 1 : Nat) : Int)) x N (1000 + (k + 1)) (100000 + 6 * (k + 1)) h' := li_mono I' (by omega) (by omega) (by omega) (by omega)
      have z := K_loop hN hE hbN hS hL n (k + 1) h' v6 v7 v8 (by omega) (by omega) I2
      rw [← e] at z
      exact z
    have hT0 : (0 : Int) ≤ 99 * (k : Int) := by omega
    have hT1 : 99 * (k : Int) ≤ 90000 := by omega
    obtain ⟨y, ey, y0, y1⟩ := zi_of (ys (5 * (k : Int)).toNat)
    have G : q_gI E h 0 .int b (zi (5 * (k : Int))) = some (.int (zi y)) := by rw [← ey]; exact gI_s hS hL (I.2.2.1 b hbN) hi.1 (by omega)
    refine xv (x_aload_n 38 d_L_law_37 rfl rfl) ?_
    refine xv (x_iload 40 d_L_law_38 rfl rfl) ?_
    refine xv (x_iaload 41 d_L_law_40 rfl G) ?_
    refine xv (x_bipush 43 d_L_law_41 rfl rfl) ?_
    refine xv (x_iand 44 d_L_law_43 rfl) ?_
    obtain ⟨w, ew, w0, w1⟩ := zi_of (zi y &&& zi 63)
    rw [ew]
    by_cases hw : w < 0 ∨ 36 < w
    · refine xv (x_tsw_out 2399 d_L_law_44 w0 w1 hw rfl) ?_
      exact next h v6 v7 v8 (li_mono I (by omega) hT0 (by omega) (by omega))
    by_cases e0 : w = 0
    · refine xv (x_tsw_in 208 0 d_L_law_44 e0 (by decide) (by decide) (by decide) rfl rfl) ?_
      exact K_append I hN hT0 hT1 hE hbN hS hL hi next
    by_cases e1 : w = 1
    · refine xv (x_tsw_in 266 1 d_L_law_44 e1 (by decide) (by decide) (by decide) rfl rfl) ?_
      exact K_layout I hN hT0 hT1 hE hbN hS hL hi next
    by_cases e2 : w = 2
    · refine xv (x_tsw_in 310 2 d_L_law_44 e2 (by decide) (by decide) (by decide) rfl rfl) ?_
      exact K_faultPosition I hN hT0 hT1 hE hbN hS hL hi next
    by_cases e3 : w = 3
    · refine xv (x_tsw_in 323 3 d_L_law_44 e3 (by decide) (by decide) (by decide) rfl rfl) ?_
      exact K_add I hN hT0 hT1 hE hbN hS hL hi next
    by_cases e4 : w = 4
    · refine xv (x_tsw_in 391 4 d_L_law_44 e4 (by decide) (by decide) (by decide) rfl rfl) ?_
      exact K_takeOff I hN hT0 hT1 hE hbN hS hL hi next
    by_cases e5 : w = 5
    · refine xv (x_tsw_in 447 5 d_L_law_44 e5 (by decide) (by decide) (by decide) rfl rfl) ?_
      exact K_order I hN hT0 hT1 hE hbN hS hL hi next
    by_cases e6 : w = 6
    · refine xv (x_tsw_in 539 6 d_L_law_44 e6 (by decide) (by decide) (by decide) rfl rfl) ?_
      exact K_assign I hN hT0 hT1 hE hbN hS hL hi next
    by_cases e7 : w = 7
    · refine xv (x_tsw_in 607 7 d_L_law_44 e7 (by decide) (by decide) (by decide) rfl rfl) ?_
      exact K_release I hN hT0 hT1 hE hbN hS hL hi next
    by_cases e8 : w = 8
    · refine xv (x_tsw_in 663 8 d_L_law_44 e8 (by decide) (by decide) (by decide) rfl rfl) ?_
      exact K_close I hN hT0 hT1 hE hbN hS hL hi next
    by_cases e9 : w = 9
    · refine xv (x_tsw_in 719 9 d_L_law_44 e9 (by decide) (by decide) (by decide) rfl rfl) ?_
      exact K_open I hN hT0 hT1 hE hbN hS hL hi next
    by_cases e10 : w = 10
    · refine xv (x_tsw_in 775 10 d_L_law_44 e10 (by decide) (by decide) (by decide) rfl rfl) ?_
      exact K_set I hN hT0 hT1 hE hbN hS hL hi next
    by_cases e11 : w = 11
    · refine xv (x_tsw_in 843 11 d_L_law_44 e11 (by decide) (by decide) (by decide) rfl rfl) ?_
      exact K_plan I hN hT0 hT1 hE hbN hS hL hi next
    by_cases e12 : w = 12
    · refine xv (x_tsw_in 911 12 d_L_law_44 e12 (by decide) (by decide) (by decide) rfl rfl) ?_
      exact K_cancel I hN hT0 hT1 hE hbN hS hL hi next
    by_cases e13 : w = 13
    · refine xv (x_tsw_in 967 13 d_L_law_44 e13 (by decide) (by decide) (by decide) rfl rfl) ?_
      exact K_pass I hN hT0 hT1 hE hbN hS hL hi next
    by_cases e14 : w = 14
    · refine xv (x_tsw_in 1023 14 d_L_law_44 e14 (by decide) (by decide) (by decide) rfl rfl) ?_
      exact K_cell I hN hT0 hT1 hE hbN hS hL hi next
    by_cases e15 : w = 15
    · refine xv (x_tsw_in 1091 15 d_L_law_44 e15 (by decide) (by decide) (by decide) rfl rfl) ?_
      exact K_letter I hN hT0 hT1 hE hbN hS hL hi next
    by_cases e16 : w = 16
    · refine xv (x_tsw_in 1147 16 d_L_law_44 e16 (by decide) (by decide) (by decide) rfl rfl) ?_
      exact K_distance I hN hT0 hT1 hE hbN hS hL hi next
    by_cases e17 : w = 17
    · refine xv (x_tsw_in 1215 17 d_L_law_44 e17 (by decide) (by decide) (by decide) rfl rfl) ?_
      exact K_distanceAgain I hN hT0 hT1 hE hbN hS hL hi next
    by_cases e18 : w = 18
    · refine xv (x_tsw_in 1283 18 d_L_law_44 e18 (by decide) (by decide) (by decide) rfl rfl) ?_
      exact K_reach I hN hT0 hT1 hE hbN hS hL hi next
    by_cases e19 : w = 19
    · refine xv (x_tsw_in 1339 19 d_L_law_44 e19 (by decide) (by decide) (by decide) rfl rfl) ?_
      exact K_farthest I hN hT0 hT1 hE hbN hS hL hi next
    by_cases e20 : w = 20
    · refine xv (x_tsw_in 1395 20 d_L_law_44 e20 (by decide) (by decide) (by decide) rfl rfl) ?_
      exact K_robotOf I hN hT0 hT1 hE hbN hS hL hi next
    by_cases e21 : w = 21
    · refine xv (x_tsw_in 1463 21 d_L_law_44 e21 (by decide) (by decide) (by decide) rfl rfl) ?_
      exact K_planned I hN hT0 hT1 hE hbN hS hL hi next
    by_cases e22 : w = 22
    · refine xv (x_tsw_in 1531 22 d_L_law_44 e22 (by decide) (by decide) (by decide) rfl rfl) ?_
      exact K_reserved I hN hT0 hT1 hE hbN hS hL hi next
    by_cases e23 : w = 23
    · refine xv (x_tsw_in 1599 23 d_L_law_44 e23 (by decide) (by decide) (by decide) rfl rfl) ?_
      exact K_arrival I hN hT0 hT1 hE hbN hS hL hi next
    by_cases e24 : w = 24
    · refine xv (x_tsw_in 1667 24 d_L_law_44 e24 (by decide) (by decide) (by decide) rfl rfl) ?_
      exact K_arrivalAgain I hN hT0 hT1 hE hbN hS hL hi next
    by_cases e25 : w = 25
    · refine xv (x_tsw_in 1735 25 d_L_law_44 e25 (by decide) (by decide) (by decide) rfl rfl) ?_
      exact K_orderOf I hN hT0 hT1 hE hbN hS hL hi next
    by_cases e26 : w = 26
    · refine xv (x_tsw_in 1803 26 d_L_law_44 e26 (by decide) (by decide) (by decide) rfl rfl) ?_
      exact K_line I hN hT0 hT1 hE hbN hS hL hi next
    by_cases e27 : w = 27
    · refine xv (x_tsw_in 1871 27 d_L_law_44 e27 (by decide) (by decide) (by decide) rfl rfl) ?_
      exact K_waiting I hN hT0 hT1 hE hbN hS hL hi next
    by_cases e28 : w = 28
    · refine xv (x_tsw_in 1927 28 d_L_law_44 e28 (by decide) (by decide) (by decide) rfl rfl) ?_
      exact K_suited I hN hT0 hT1 hE hbN hS hL hi next
    by_cases e29 : w = 29
    · refine xv (x_tsw_in 1983 29 d_L_law_44 e29 (by decide) (by decide) (by decide) rfl rfl) ?_
      exact K_tour I hN hT0 hT1 hE hbN hS hL hi next
    by_cases e30 : w = 30
    · refine xv (x_tsw_in 2039 30 d_L_law_44 e30 (by decide) (by decide) (by decide) rfl rfl) ?_
      exact K_loaded I hN hT0 hT1 hE hbN hS hL hi next
    by_cases e31 : w = 31
    · refine xv (x_tsw_in 2105 31 d_L_law_44 e31 (by decide) (by decide) (by decide) rfl rfl) ?_
      exact K_lateness I hN hT0 hT1 hE hbN hS hL hi next
    by_cases e32 : w = 32
    · refine xv (x_tsw_in 2170 32 d_L_law_44 e32 (by decide) (by decide) (by decide) rfl rfl) ?_
      exact K_reason I hN hT0 hT1 hE hbN hS hL hi next
    by_cases e33 : w = 33
    · refine xv (x_tsw_in 2242 33 d_L_law_44 e33 (by decide) (by decide) (by decide) rfl rfl) ?_
      exact K_account I hN hT0 hT1 hE hbN hS hL hi next
    by_cases e34 : w = 34
    · refine xv (x_tsw_in 2298 34 d_L_law_44 e34 (by decide) (by decide) (by decide) rfl rfl) ?_
      exact K_undo I hN hT0 hT1 hE hbN hS hL hi next
    by_cases e35 : w = 35
    · refine xv (x_tsw_in 2342 35 d_L_law_44 e35 (by decide) (by decide) (by decide) rfl rfl) ?_
      exact K_save I hN hT0 hT1 hE hbN hS hL hi next
    by_cases e36 : w = 36
    · refine xv (x_tsw_in 2355 36 d_L_law_44 e36 (by decide) (by decide) (by decide) rfl rfl) ?_
      exact K_restore I hN hT0 hT1 hE hbN hS hL hi next
    omega
/-- a new law's two objects -/
theorem Kp_ini : StR 0 ini (mIn 1) := by
  sorry
end LOOP
