/-! the reference: a tick, the walk (printed by program) -/
section RA9
variable {E : q_E} {h : q_H} {am : Nat} {M M2 : q_Im} {l l0 f : Int → Int} {r g T t k w v c e d b s : Int}
theorem rg_now (hR : Rg l) (hT : 0 ≤ l 2) (h : l 2 + 1 ≤ 1000000) : Rg (u1 l 2 (l 2 + 1)) := by
  have gO := hR.2.2.2.2.2.2.2.2.2.2.2.2
  refine rg_of (u1_r hR.1 (by omega)) (rgc_now (rgc_of hR hT) (by omega)) fun o a b => ?_
  rw [u1_ne (by omega)] at b
  rw [show ob (u1 l 2 (l 2 + 1)) o 3 = ob l o 3 from u1_ne (i := 320 + 8 * o + 3) (by omega), u1_ne (by omega)]
  exact (gO o a b).2
theorem tkm_eq (hl : 0 < rb l k 3 ∧ rb l k 3 ≤ 30) (hb : b = if rb l k 6 = rb l k 0 then rb l k 1 else rb l k 1 - rb l k 4) (hs : s = if rb l k 6 = rb l k 0 then rb l k 5 else rb l k 5 + 1) :
    cpI (u1 (u1 (u1 (u1 l (104 + 36 * k + 1) b) (104 + 36 * k + 5) s) (104 + 36 * k + 0) (rb l k 6)) (104 + 36 * k + 3) (rb l k 3 - 1)) (u1 (u1 (u1 (u1 l (104 + 36 * k + 1) b) (104 + 36 * k + 5) s) (104 + 36 * k + 0) (rb l k 6)) (104 + 36 * k + 3) (rb l k 3 - 1)) (104 + 36 * k + 6 + 1) (104 + 36 * k + 6) (rb l k 3 - 1) = tkm l k := by
  have h7 : ahf (rb l k) 1 = rb l k 6 := by
    unfold ahf
    rw [if_neg (by omega), if_neg (by omega)]
    rfl
  funext i
  generalize hF : u1 (u1 (u1 (u1 l (104 + 36 * k + 1) b) (104 + 36 * k + 5) s) (104 + 36 * k + 0) (rb l k 6)) (104 + 36 * k + 3) (rb l k 3 - 1) = F
  have hn (j : Int) (j0 : j ≠ 104 + 36 * k) (j1 : j ≠ 104 + 36 * k + 1) (j3 : j ≠ 104 + 36 * k + 3) (j5 : j ≠ 104 + 36 * k + 5) : F j = l j := by
    rw [← hF, u1_ne (by omega), u1_ne (by omega), u1_ne (by omega), u1_ne (by omega)]
  show (if 104 + 36 * k + 6 ≤ i ∧ i < 104 + 36 * k + 6 + (rb l k 3 - 1) then F (104 + 36 * k + 6 + 1 + (i - (104 + 36 * k + 6))) else F i) = (if 104 + 36 * k ≤ i ∧ i < 140 + 36 * k then gon (rb l k) (i - (104 + 36 * k)) else l i)
  by_cases z : 104 + 36 * k + 6 ≤ i ∧ i < 104 + 36 * k + 6 + (rb l k 3 - 1)
  · rw [if_pos z, if_pos (by omega), hn _ (by omega) (by omega) (by omega) (by omega)]
    have e := gon_p (f := rb l k) (t := i - (104 + 36 * k + 6)) (by omega) (by omega)
    rw [show i - (104 + 36 * k) = 6 + (i - (104 + 36 * k + 6)) by omega, e]
    show l _ = l (104 + 36 * k + (6 + (i - (104 + 36 * k + 6) + 1)))
    congr 1
    omega
  · rw [if_neg z]
    by_cases y : 104 + 36 * k ≤ i ∧ i < 140 + 36 * k
    · rw [if_pos y]
      by_cases j3 : i = 104 + 36 * k + 3
      · rw [j3, show 104 + 36 * k + 3 - (104 + 36 * k) = 3 by omega, gon_3, ← hF, u1_eq]
      · by_cases j0 : i = 104 + 36 * k + 0
        · rw [j0, show 104 + 36 * k + 0 - (104 + 36 * k) = 0 by omega, gon_0, h7, ← hF, u1_ne (by omega), u1_eq]
        · by_cases j5 : i = 104 + 36 * k + 5
          · rw [j5, show 104 + 36 * k + 5 - (104 + 36 * k) = 5 by omega, gon_5, h7, ← hF, u1_ne (by omega), u1_ne (by omega), u1_eq, hs]
          · by_cases j1 : i = 104 + 36 * k + 1
            · rw [j1, show 104 + 36 * k + 1 - (104 + 36 * k) = 1 by omega, gon_1, h7, ← hF, u1_ne (by omega), u1_ne (by omega), u1_ne (by omega), u1_eq, hb]
            · rw [hn i (by omega) (by omega) (by omega) (by omega)]
              unfold gon
              rw [if_neg (by omega), if_neg (by omega), if_neg (by omega), if_neg (by omega), if_neg (by omega)]
              show l i = l (104 + 36 * k + (i - (104 + 36 * k)))
              congr 1
              omega
    · rw [if_neg y, hn i (by omega) (by omega) (by omega) (by omega)]
theorem chg_eq : u1 l (104 + 36 * k + 1) v = rset l k (u1 (rb l k) 1 v) := (rset_u (l := l) (r := k) (v := v) (k := 1) (by omega) (by omega)).symm
theorem tkm_3 (hk : 0 ≤ k) : rb (tkm l k) k 3 = rb l k 3 - 1 := (rset_eq (by omega) (by omega)).trans gon_3
theorem enV_r : 0 ≤ enV l r ∧ enV l r ≤ 1 := by
  unfold enV
  repeat' split
  all_goals omega
theorem S_X8_tick (hR : Rg (M 1)) (hT : 0 ≤ M 1 2) {T : Int} (hB : TB0 T (M 1)) (hT0 : 0 ≤ T) (hT1 : T ≤ 98000) : ∃ r_ h', q_cl E q_m_X8_tick [Value.ref am] (q_mw h am M) = some (r_, h') ∧ (((r_ = .inl (some (.int (zi (tmV (M 1))))) ∧ 0 ≤ tmV (M 1) ∧ tmV (M 1) ≤ 6) ∧ h' = q_mw h am (uA M 1 (tmL (M 1)))) ∧ Rg (tmL (M 1)) ∧ TB0 (T + 1) (tmL (M 1)) ∧ ∀ i, i < 104 → tmL (M 1) i = u1 (M 1) 2 (M 1 2 + 1) i) := by
  suffices K : ∀ Q : q_R → q_H → Prop, (∀ r_ h', (((r_ = .inl (some (.int (zi (tmV (M 1))))) ∧ 0 ≤ tmV (M 1) ∧ tmV (M 1) ≤ 6) ∧ h' = q_mw h am (uA M 1 (tmL (M 1)))) ∧ Rg (tmL (M 1)) ∧ TB0 (T + 1) (tmL (M 1)) ∧ ∀ i, i < 104 → tmL (M 1) i = u1 (M 1) 2 (M 1 2 + 1) i) → Q r_ h') → Xv E q_m_X8_tick 0 [Value.ref am, Value.null, Value.null, Value.null, Value.null] [] (q_mw h am M) Q from K _ fun _ _ p => p
  intro Q hQ
  have hR0 := hR
  obtain ⟨hr, g0, g1, g3, g4, gc, g5, g6, g7, gk, gl, gr, go⟩ := hR0
  refine xv (x_aload_n 1 d_X8_tick_0 rfl rfl) ?_
  refine xv (x_getfield 4 d_X8_tick_1 rfl f_8_9 (Nat.le_of_ble_eq_true rfl) (Nat.le_of_ble_eq_true rfl) (q_gf_of m_o rfl)) ?_
  refine xv (x_iconst 5 d_X8_tick_4 rfl) ?_
  refine xv (x_dup2 6 d_X8_tick_5 rfl rfl rfl) ?_
  refine xv (x_iaload 7 d_X8_tick_6 rfl ((m_g1 (by omega) (by omega)).trans (rfl : _ = some (Value.int (zi ((M 1) 2)))))) ?_
  have q_1 : -1000000 ≤ (M 1) 2 ∧ (M 1) 2 ≤ 1000000 := hr _
  refine xv (x_iconst 8 d_X8_tick_7 rfl) ?_
  refine xv (x_iadd 9 d_X8_tick_8 rfl) ?_
  refine xv (x_iastore 10 d_X8_tick_9 rfl (m_s1 (by omega) (by omega))) ?_
  show Xv E q_m_X8_tick 10 [Value.ref am, Value.null, Value.null, Value.null, Value.null] [] (q_mw h am (uM M 1 2 (((M 1) 2) + 1))) Q
  refine xv (x_iconst 11 d_X8_tick_10 rfl) ?_
  refine xv (x_istore_n 12 d_X8_tick_11 rfl (Nat.le_of_ble_eq_true rfl)) ?_
  show Xv E q_m_X8_tick 12 [Value.ref am, Value.int (zi 0), Value.null, Value.null, Value.null] [] (q_mw h am (uM M 1 2 (((M 1) 2) + 1))) Q
  refine xv (x_iconst 13 d_X8_tick_12 rfl) ?_
  refine xv (x_istore_n 14 d_X8_tick_13 rfl (Nat.le_of_ble_eq_true rfl)) ?_
  show Xv E q_m_X8_tick 14 [Value.ref am, Value.int (zi 0), Value.int (zi 0), Value.null, Value.null] [] (q_mw h am (uM M 1 2 (((M 1) 2) + 1))) Q
  have L14 : ∀ (n_ : Nat) (e : Int) (k : Int) (lk : Int → Int) (x3 : Value) (x4 : Value), (0 ≤ k) → (k ≤ M 1 3) → (Rg lk) → (TBk T k lk) → (∀ i, i < 104 → lk i = u1 (M 1) 2 (M 1 2 + 1) i) → (∀ r, k ≤ r → ∀ j, 0 ≤ j → j < 36 → rb lk r j = rb (M 1) r j) → (EBk (M 1) e k) → (tmP (M 1) = mt1 (M 1 3 - k).toNat k lk) → (M 1 3 - k).toNat = n_ → Xv E q_m_X8_tick 14 [Value.ref am, Value.int (zi e), Value.int (zi k), x3, x4] [] (q_mw h am (uA M 1 lk)) Q := by
    intro n_
    induction n_ using Nat.strongRecOn with
    | _ n_ ih14 =>
      intro e k lk x3 x4 k0 k1 hRk hBk eA eB hE hv em
      have e3 : lk 3 = M 1 3 := (eA 3 (by omega)).trans (u1_ne (by omega))
      have e2_ : lk 2 = M 1 2 + 1 := (eA 2 (by omega)).trans u1_eq
      have hTk : 0 ≤ lk 2 := by omega
      have hCk := rgc_of hRk hTk
      have gck := hCk.2.2.2.2.2.1
      have hE1 := hE.1
      have e64 : e < 64 := by
        rcases (by omega : k = 0 ∨ 0 < k) with z | z
        · rw [z] at hE1; have := hE1.2; have : pw 0 = 1 := rfl; omega
        · have := pw_b (k := k - 1) (by omega); rw [show k - 1 + 1 = k by omega] at this; omega
      refine xv (x_iload_n 15 d_X8_tick_14 rfl rfl) ?_
      refine xv (x_aload_n 16 d_X8_tick_15 rfl rfl) ?_
      refine xv (x_getfield 19 d_X8_tick_16 rfl f_8_9 (Nat.le_of_ble_eq_true rfl) (Nat.le_of_ble_eq_true rfl) (q_gf_of m_o rfl)) ?_
      refine xv (x_iconst 20 d_X8_tick_19 rfl) ?_
      refine xv (x_iaload 21 d_X8_tick_20 rfl ((m_g1 (by omega) (by omega)).trans (rfl : _ = some (Value.int (zi (lk 3)))))) ?_
      have q_2 : -1000000 ≤ lk 3 ∧ lk 3 ≤ 1000000 := hRk.1 _
      refine v_icmp_ge 275 24 d_X8_tick_21 rfl rfl (by omega) (by omega) (by omega) (by omega) (fun k21 => ?_) (fun k21 => ?_)
      · refine xv (x_iconst 276 d_X8_tick_275 rfl) ?_
        refine xv (x_istore_n 277 d_X8_tick_276 rfl (Nat.le_of_ble_eq_true rfl)) ?_
        show Xv E q_m_X8_tick 277 [Value.ref am, Value.int (zi e), Value.int (zi 0), x3, x4] [] (q_mw h am (uA M 1 lk)) Q
        refine xv (x_iconst 278 d_X8_tick_277 rfl) ?_
        refine xv (x_istore_n 279 d_X8_tick_278 rfl (Nat.le_of_ble_eq_true rfl)) ?_
        show Xv E q_m_X8_tick 279 [Value.ref am, Value.int (zi e), Value.int (zi 0), Value.int (zi 0), x4] [] (q_mw h am (uA M 1 lk)) Q
        have L279 : ∀ (n_ : Nat) (d : Int) (k : Int) (lk : Int → Int) (x4 : Value), (0 ≤ k) → (k ≤ M 1 3) → (0 ≤ d ∧ d ≤ k) → (Rg lk) → (TB0 (T + 1) lk) → (∀ i, i < 104 → lk i = u1 (M 1) 2 (M 1 2 + 1) i) → (tmL (M 1) = mt2 (M 1) (M 1 3 - k).toNat k lk) → (tmV (M 1) = mtV (M 1) (M 1 3 - k).toNat k lk d) → (M 1 3 - k).toNat = n_ → Xv E q_m_X8_tick 279 [Value.ref am, Value.int (zi e), Value.int (zi d), Value.int (zi k), x4] [] (q_mw h am (uA M 1 lk)) Q := by
          intro n_
          induction n_ using Nat.strongRecOn with
          | _ n_ ih279 =>
            intro d k lk x4 k0 k1 d0 hRk hBk eA hv hd em
            have e3 : lk 3 = M 1 3 := (eA 3 (by omega)).trans (u1_ne (by omega))
            have e2_ : lk 2 = M 1 2 + 1 := (eA 2 (by omega)).trans u1_eq
            have hTk : 0 ≤ lk 2 := by omega
            have qeb := @ebt_r k e
            refine xv (x_iload_n 280 d_X8_tick_279 rfl rfl) ?_
            refine xv (x_aload_n 281 d_X8_tick_280 rfl rfl) ?_
            refine xv (x_getfield 284 d_X8_tick_281 rfl f_8_9 (Nat.le_of_ble_eq_true rfl) (Nat.le_of_ble_eq_true rfl) (q_gf_of m_o rfl)) ?_
            refine xv (x_iconst 285 d_X8_tick_284 rfl) ?_
            refine xv (x_iaload 286 d_X8_tick_285 rfl ((m_g1 (by omega) (by omega)).trans (rfl : _ = some (Value.int (zi (lk 3)))))) ?_
            have q_3 : -1000000 ≤ lk 3 ∧ lk 3 ≤ 1000000 := hRk.1 _
            refine v_icmp_ge 316 289 d_X8_tick_286 rfl rfl (by omega) (by omega) (by omega) (by omega) (fun k286 => ?_) (fun k286 => ?_)
            · refine xv (x_iload_n 317 d_X8_tick_316 rfl rfl) ?_
              refine xv_r (x_ireturn d_X8_tick_317 rfl rfl) ?_
              have ev : tmL (M 1) = lk := hv.trans (mt2_e (by omega))
              have ew : tmV (M 1) = d := hd.trans (mtV_e (by omega))
              refine hQ _ _ ⟨⟨⟨by rw [ew], by omega⟩, by rw [ev]⟩, ?_, ?_, ?_⟩
              · rw [ev]; exact hRk
              · rw [ev]; exact hBk
              · rw [ev]; exact eA
            · refine xv (x_iload_n 290 d_X8_tick_289 rfl rfl) ?_
              refine xv (x_iload_n 291 d_X8_tick_290 rfl rfl) ?_
              refine xv (x_iload_n 292 d_X8_tick_291 rfl rfl) ?_
              refine xv (y_ishr 293 d_X8_tick_292 rfl) ?_
              refine xv (x_iconst 294 d_X8_tick_293 rfl) ?_
              refine xv (y_iand 295 d_X8_tick_294 rfl (eb_and (by omega) (by omega))) ?_
              refine xv (x_iconst 296 d_X8_tick_295 rfl) ?_
              refine v_icmp_ne 307 299 d_X8_tick_296 rfl rfl (by omega) (by omega) (by omega) (by omega) (fun k296 => ?_) (fun k296 => ?_)
              · refine xv (x_iconst 308 d_X8_tick_307 rfl) ?_
                refine xv (x_iadd 309 d_X8_tick_308 rfl) ?_
                refine xv (x_istore_n 310 d_X8_tick_309 rfl (Nat.le_of_ble_eq_true rfl)) ?_
                show Xv E q_m_X8_tick 310 [Value.ref am, Value.int (zi e), Value.int (zi (d + 0)), Value.int (zi k), x4] [] (q_mw h am (uA M 1 lk)) Q
                refine xv (x_iinc 313 d_X8_tick_310 rfl rfl) ?_
                show Xv E q_m_X8_tick 313 [Value.ref am, Value.int (zi e), Value.int (zi (d + 0)), Value.int (zi (k + 1)), x4] [] (q_mw h am (uA M 1 lk)) Q
                refine xv (x_goto 279 d_X8_tick_313 rfl) ?_
                have hx := hE.2 k k0 (by omega)
                refine ih279 _ (by omega) _ (k + 1) _ _ (by omega) (by omega) (by omega) hRk hBk eA (hv.trans ((mt2_b (by omega)).trans ?_)) (hd.trans ((mtV_b (by omega)).trans ?_)) rfl
                · rw [if_neg (fun z_ => k296 (hx.mpr z_))]
                · rw [if_neg (fun z_ => k296 (hx.mpr z_)), if_neg (fun z_ => k296 (hx.mpr z_))]
              · refine xv (x_aload_n 300 d_X8_tick_299 rfl rfl) ?_
                refine xv (x_iload_n 301 d_X8_tick_300 rfl rfl) ?_
                obtain ⟨r301, h301, e301, z301, y301⟩ := S_X8_ends (E := E) (h := h) (am := am) (M := (uA M 1 lk)) hRk (y := k) ⟨by omega, by show k < lk 3; omega⟩
                subst z301
                subst y301
                refine xv (x_inv1 304 (as := [Value.int (zi k)]) d_X8_tick_301 rfl c_8_156 rfl (Nat.le_of_ble_eq_true rfl) (Nat.le_of_ble_eq_true rfl) m_o (Nat.le_of_ble_eq_true rfl) (Nat.le_of_ble_eq_true rfl) rfl e301) ?_
                rw [uA_uA]
                have q301 := enV_r (l := lk) (r := k)
                show Xv E q_m_X8_tick 304 [Value.ref am, Value.int (zi e), Value.int (zi d), Value.int (zi k), x4] [Value.int (zi (enV lk k)), Value.int (zi d)] (q_mw h am (uA M 1 (enL lk k))) Q
                refine xv (x_goto 308 d_X8_tick_304 rfl) ?_
                refine xv (x_iadd 309 d_X8_tick_308 rfl) ?_
                refine xv (x_istore_n 310 d_X8_tick_309 rfl (Nat.le_of_ble_eq_true rfl)) ?_
                show Xv E q_m_X8_tick 310 [Value.ref am, Value.int (zi e), Value.int (zi (d + (enV lk k))), Value.int (zi k), x4] [] (q_mw h am (uA M 1 (enL lk k))) Q
                refine xv (x_iinc 313 d_X8_tick_310 rfl rfl) ?_
                show Xv E q_m_X8_tick 313 [Value.ref am, Value.int (zi e), Value.int (zi (d + (enV lk k))), Value.int (zi (k + 1)), x4] [] (q_mw h am (uA M 1 (enL lk k))) Q
                refine xv (x_goto 279 d_X8_tick_313 rfl) ?_
                have hx := hE.2 k k0 (by omega)
                obtain ⟨n1, n2, n3, n4⟩ := enL_ok hRk hTk (show isR lk k from ⟨k0, by omega⟩) hBk (by omega) (by omega)
                refine ih279 _ (by omega) _ (k + 1) _ _ (by omega) (by omega) (by omega) n1 n2 (fun i hi => (n3 i hi).trans (eA i hi)) (hv.trans ((mt2_b (by omega)).trans ?_)) (hd.trans ((mtV_b (by omega)).trans ?_)) rfl
                · rw [if_pos (hx.mp (by omega))]
                · rw [if_pos (hx.mp (by omega)), if_pos (hx.mp (by omega))]
        have ek : k = M 1 3 := by omega
        rw [ek] at hE hBk
        have ep : tmP (M 1) = lk := hv.trans (mt1_e (by omega))
        exact L279 _ 0 0 lk _ (by omega) (by omega) (by omega) hRk (tbk_0 hBk) eA (by rw [← ep, Int.sub_zero]; rfl) (by rw [← ep, Int.sub_zero]; rfl) rfl
      · have hk : isR lk k := ⟨k0, by omega⟩
        have gq := rgc_r hCk hk
        refine xv (x_iload_n 25 d_X8_tick_24 rfl rfl) ?_
        refine xv (x_ins1 28 (as := [Value.int (zi k)]) d_X8_tick_25 rfl c_8_75 rfl (Nat.le_of_ble_eq_true rfl) (Nat.le_of_ble_eq_true rfl) (Nat.le_of_ble_eq_true rfl) rfl (S_X8_at (E := E) (h := h) (am := am) (M := (uA M 1 lk)))) ?_
        show Xv E q_m_X8_tick 28 [Value.ref am, Value.int (zi e), Value.int (zi k), x3, x4] [Value.int (zi (104 + 36 * k))] (q_mw h am (uA M 1 lk)) Q
        refine xv (x_istore_n 29 d_X8_tick_28 rfl (Nat.le_of_ble_eq_true rfl)) ?_
        show Xv E q_m_X8_tick 29 [Value.ref am, Value.int (zi e), Value.int (zi k), Value.int (zi (104 + 36 * k)), x4] [] (q_mw h am (uA M 1 lk)) Q
        refine xv (x_aload_n 30 d_X8_tick_29 rfl rfl) ?_
        refine xv (x_getfield 33 d_X8_tick_30 rfl f_8_9 (Nat.le_of_ble_eq_true rfl) (Nat.le_of_ble_eq_true rfl) (q_gf_of m_o rfl)) ?_
        refine xv (x_iload_n 34 d_X8_tick_33 rfl rfl) ?_
        refine xv (x_iconst 35 d_X8_tick_34 rfl) ?_
        refine xv (x_iadd 36 d_X8_tick_35 rfl) ?_
        refine xv (x_iaload 37 d_X8_tick_36 rfl ((m_g1 (by omega) (by omega)).trans (rfl : _ = some (Value.int (zi (rb lk k 3)))))) ?_
        have q_4 : -1000000 ≤ rb lk k 3 ∧ rb lk k 3 ≤ 1000000 := hRk.1 _
        refine v_if_ne 114 40 d_X8_tick_37 rfl rfl (by omega) (by omega) (fun k37 => ?_) (fun k37 => ?_)
        · refine xv (x_aload_n 115 d_X8_tick_114 rfl rfl) ?_
          refine xv (x_getfield 118 d_X8_tick_115 rfl f_8_9 (Nat.le_of_ble_eq_true rfl) (Nat.le_of_ble_eq_true rfl) (q_gf_of m_o rfl)) ?_
          refine xv (x_iload_n 119 d_X8_tick_118 rfl rfl) ?_
          refine xv (x_bipush 121 d_X8_tick_119 rfl rfl) ?_
          refine xv (x_iadd 122 d_X8_tick_121 rfl) ?_
          refine xv (x_iaload 123 d_X8_tick_122 rfl ((m_g1 (by omega) (by omega)).trans (rfl : _ = some (Value.int (zi (rb lk k 6)))))) ?_
          have q_5 : -1000000 ≤ rb lk k 6 ∧ rb lk k 6 ≤ 1000000 := hRk.1 _
          refine xv (x_aload_n 124 d_X8_tick_123 rfl rfl) ?_
          refine xv (x_getfield 127 d_X8_tick_124 rfl f_8_9 (Nat.le_of_ble_eq_true rfl) (Nat.le_of_ble_eq_true rfl) (q_gf_of m_o rfl)) ?_
          refine xv (x_iload_n 128 d_X8_tick_127 rfl rfl) ?_
          refine xv (x_iconst 129 d_X8_tick_128 rfl) ?_
          refine xv (x_iadd 130 d_X8_tick_129 rfl) ?_
          refine xv (x_iaload 131 d_X8_tick_130 rfl ((m_g1 (by omega) (by omega)).trans (rfl : _ = some (Value.int (zi (rb lk k 0)))))) ?_
          have q_6 : -1000000 ≤ rb lk k 0 ∧ rb lk k 0 ≤ 1000000 := hRk.1 _
          refine v_icmp_eq 138 134 d_X8_tick_131 rfl rfl (by omega) (by omega) (by omega) (by omega) (fun k131 => ?_) (fun k131 => ?_)
          · refine xv (x_iconst 139 d_X8_tick_138 rfl) ?_
            refine xv (x_istore 141 d_X8_tick_139 rfl (Nat.le_of_ble_eq_true rfl)) ?_
            show Xv E q_m_X8_tick 141 [Value.ref am, Value.int (zi e), Value.int (zi k), Value.int (zi (104 + 36 * k)), Value.int (zi 0)] [] (q_mw h am (uA M 1 lk)) Q
            refine xv (x_aload_n 142 d_X8_tick_141 rfl rfl) ?_
            refine xv (x_getfield 145 d_X8_tick_142 rfl f_8_9 (Nat.le_of_ble_eq_true rfl) (Nat.le_of_ble_eq_true rfl) (q_gf_of m_o rfl)) ?_
            refine xv (x_iload_n 146 d_X8_tick_145 rfl rfl) ?_
            refine xv (x_iconst 147 d_X8_tick_146 rfl) ?_
            refine xv (x_iadd 148 d_X8_tick_147 rfl) ?_
            refine xv (x_dup2 149 d_X8_tick_148 rfl rfl rfl) ?_
            refine xv (x_iaload 150 d_X8_tick_149 rfl ((m_g1 (by omega) (by omega)).trans (rfl : _ = some (Value.int (zi (rb lk k 1)))))) ?_
            have q_7 : -1000000 ≤ rb lk k 1 ∧ rb lk k 1 ≤ 1000000 := hRk.1 _
            refine xv (x_iload 152 d_X8_tick_150 rfl rfl) ?_
            refine v_if_eq 166 155 d_X8_tick_152 rfl rfl (by omega) (by omega) (fun k152 => ?_) (fun k152 => ?_)
            · refine xv (x_iconst 167 d_X8_tick_166 rfl) ?_
              refine xv (x_isub 168 d_X8_tick_167 rfl) ?_
              refine xv (x_iastore 169 d_X8_tick_168 rfl (m_s1 (by omega) (by omega))) ?_
              show Xv E q_m_X8_tick 169 [Value.ref am, Value.int (zi e), Value.int (zi k), Value.int (zi (104 + 36 * k)), Value.int (zi 0)] [] (q_mw h am (uM (uA M 1 lk) 1 ((104 + 36 * k) + 1) ((rb lk k 1) - 0))) Q
              refine xv (x_aload_n 170 d_X8_tick_169 rfl rfl) ?_
              refine xv (x_getfield 173 d_X8_tick_170 rfl f_8_9 (Nat.le_of_ble_eq_true rfl) (Nat.le_of_ble_eq_true rfl) (q_gf_of m_o rfl)) ?_
              refine xv (x_iload_n 174 d_X8_tick_173 rfl rfl) ?_
              refine xv (x_iconst 175 d_X8_tick_174 rfl) ?_
              refine xv (x_iadd 176 d_X8_tick_175 rfl) ?_
              refine xv (x_dup2 177 d_X8_tick_176 rfl rfl rfl) ?_
              refine xv (x_iaload 178 d_X8_tick_177 rfl ((m_g1 (by omega) (by omega)).trans (congrArg (fun z => some (Value.int (zi z))) (show (u1 lk ((104 + 36 * k) + 1) ((rb lk k 1) - 0)) ((104 + 36 * k) + 5) = (rb lk k 5) from (u1_ne (by omega)))))) ?_
              have q_8 : -1000000 ≤ rb lk k 5 ∧ rb lk k 5 ≤ 1000000 := hRk.1 _
              refine xv (x_iload 180 d_X8_tick_178 rfl rfl) ?_
              refine v_if_eq 187 183 d_X8_tick_180 rfl rfl (by omega) (by omega) (fun k180 => ?_) (fun k180 => ?_)
              · refine xv (x_iconst 188 d_X8_tick_187 rfl) ?_
                refine xv (x_iadd 189 d_X8_tick_188 rfl) ?_
                refine xv (x_iastore 190 d_X8_tick_189 rfl (m_s1 (by omega) (by omega))) ?_
                show Xv E q_m_X8_tick 190 [Value.ref am, Value.int (zi e), Value.int (zi k), Value.int (zi (104 + 36 * k)), Value.int (zi 0)] [] (q_mw h am (uM (uM (uA M 1 lk) 1 ((104 + 36 * k) + 1) ((rb lk k 1) - 0)) 1 ((104 + 36 * k) + 5) ((rb lk k 5) + 0))) Q
                refine xv (x_aload_n 191 d_X8_tick_190 rfl rfl) ?_
                refine xv (x_getfield 194 d_X8_tick_191 rfl f_8_9 (Nat.le_of_ble_eq_true rfl) (Nat.le_of_ble_eq_true rfl) (q_gf_of m_o rfl)) ?_
                refine xv (x_iload_n 195 d_X8_tick_194 rfl rfl) ?_
                refine xv (x_iconst 196 d_X8_tick_195 rfl) ?_
                refine xv (x_iadd 197 d_X8_tick_196 rfl) ?_
                refine xv (x_aload_n 198 d_X8_tick_197 rfl rfl) ?_
                refine xv (x_getfield 201 d_X8_tick_198 rfl f_8_9 (Nat.le_of_ble_eq_true rfl) (Nat.le_of_ble_eq_true rfl) (q_gf_of m_o rfl)) ?_
                refine xv (x_iload_n 202 d_X8_tick_201 rfl rfl) ?_
                refine xv (x_bipush 204 d_X8_tick_202 rfl rfl) ?_
                refine xv (x_iadd 205 d_X8_tick_204 rfl) ?_
                refine xv (x_iaload 206 d_X8_tick_205 rfl ((m_g1 (by omega) (by omega)).trans (congrArg (fun z => some (Value.int (zi z))) (show (u1 (u1 lk ((104 + 36 * k) + 1) ((rb lk k 1) - 0)) ((104 + 36 * k) + 5) ((rb lk k 5) + 0)) ((104 + 36 * k) + 6) = (rb lk k 6) from ((u1_ne (by omega)).trans (u1_ne (by omega))))))) ?_
                have q_9 : -1000000 ≤ rb lk k 6 ∧ rb lk k 6 ≤ 1000000 := hRk.1 _
                refine xv (x_iastore 207 d_X8_tick_206 rfl (m_s1 (by omega) (by omega))) ?_
                show Xv E q_m_X8_tick 207 [Value.ref am, Value.int (zi e), Value.int (zi k), Value.int (zi (104 + 36 * k)), Value.int (zi 0)] [] (q_mw h am (uM (uM (uM (uA M 1 lk) 1 ((104 + 36 * k) + 1) ((rb lk k 1) - 0)) 1 ((104 + 36 * k) + 5) ((rb lk k 5) + 0)) 1 ((104 + 36 * k) + 0) (rb lk k 6))) Q
                refine xv (x_aload_n 208 d_X8_tick_207 rfl rfl) ?_
                refine xv (x_getfield 211 d_X8_tick_208 rfl f_8_9 (Nat.le_of_ble_eq_true rfl) (Nat.le_of_ble_eq_true rfl) (q_gf_of m_o rfl)) ?_
                refine xv (x_iload_n 212 d_X8_tick_211 rfl rfl) ?_
                refine xv (x_iconst 213 d_X8_tick_212 rfl) ?_
                refine xv (x_iadd 214 d_X8_tick_213 rfl) ?_
                refine xv (x_dup2 215 d_X8_tick_214 rfl rfl rfl) ?_
                refine xv (x_iaload 216 d_X8_tick_215 rfl ((m_g1 (by omega) (by omega)).trans (congrArg (fun z => some (Value.int (zi z))) (show (u1 (u1 (u1 lk ((104 + 36 * k) + 1) ((rb lk k 1) - 0)) ((104 + 36 * k) + 5) ((rb lk k 5) + 0)) ((104 + 36 * k) + 0) (rb lk k 6)) ((104 + 36 * k) + 3) = (rb lk k 3) from ((u1_ne (by omega)).trans ((u1_ne (by omega)).trans (u1_ne (by omega)))))))) ?_
                have q_10 : -1000000 ≤ rb lk k 3 ∧ rb lk k 3 ≤ 1000000 := hRk.1 _
                refine xv (x_iconst 217 d_X8_tick_216 rfl) ?_
                refine xv (x_isub 218 d_X8_tick_217 rfl) ?_
                refine xv (x_iastore 219 d_X8_tick_218 rfl (m_s1 (by omega) (by omega))) ?_
                show Xv E q_m_X8_tick 219 [Value.ref am, Value.int (zi e), Value.int (zi k), Value.int (zi (104 + 36 * k)), Value.int (zi 0)] [] (q_mw h am (uM (uM (uM (uM (uA M 1 lk) 1 ((104 + 36 * k) + 1) ((rb lk k 1) - 0)) 1 ((104 + 36 * k) + 5) ((rb lk k 5) + 0)) 1 ((104 + 36 * k) + 0) (rb lk k 6)) 1 ((104 + 36 * k) + 3) ((rb lk k 3) - 1))) Q
                refine xv (x_aload_n 220 d_X8_tick_219 rfl rfl) ?_
                refine xv (x_getfield 223 d_X8_tick_220 rfl f_8_9 (Nat.le_of_ble_eq_true rfl) (Nat.le_of_ble_eq_true rfl) (q_gf_of m_o rfl)) ?_
                refine xv (x_iload_n 224 d_X8_tick_223 rfl rfl) ?_
                refine xv (x_bipush 226 d_X8_tick_224 rfl rfl) ?_
                refine xv (x_iadd 227 d_X8_tick_226 rfl) ?_
                refine xv (x_iconst 228 d_X8_tick_227 rfl) ?_
                refine xv (x_iadd 229 d_X8_tick_228 rfl) ?_
                refine xv (x_aload_n 230 d_X8_tick_229 rfl rfl) ?_
                refine xv (x_getfield 233 d_X8_tick_230 rfl f_8_9 (Nat.le_of_ble_eq_true rfl) (Nat.le_of_ble_eq_true rfl) (q_gf_of m_o rfl)) ?_
                refine xv (x_iload_n 234 d_X8_tick_233 rfl rfl) ?_
                refine xv (x_bipush 236 d_X8_tick_234 rfl rfl) ?_
                refine xv (x_iadd 237 d_X8_tick_236 rfl) ?_
                refine xv (x_aload_n 238 d_X8_tick_237 rfl rfl) ?_
                refine xv (x_getfield 241 d_X8_tick_238 rfl f_8_9 (Nat.le_of_ble_eq_true rfl) (Nat.le_of_ble_eq_true rfl) (q_gf_of m_o rfl)) ?_
                refine xv (x_iload_n 242 d_X8_tick_241 rfl rfl) ?_
                refine xv (x_iconst 243 d_X8_tick_242 rfl) ?_
                refine xv (x_iadd 244 d_X8_tick_243 rfl) ?_
                refine xv (x_iaload 245 d_X8_tick_244 rfl ((m_g1 (by omega) (by omega)).trans (congrArg (fun z => some (Value.int (zi z))) (show (u1 (u1 (u1 (u1 lk ((104 + 36 * k) + 1) ((rb lk k 1) - 0)) ((104 + 36 * k) + 5) ((rb lk k 5) + 0)) ((104 + 36 * k) + 0) (rb lk k 6)) ((104 + 36 * k) + 3) ((rb lk k 3) - 1)) ((104 + 36 * k) + 3) = ((rb lk k 3) - 1) from u1_eq)))) ?_
                refine xv (x_copy 248 d_X8_tick_245 rfl rfl rfl (Nat.le_of_ble_eq_true rfl) (Nat.le_of_ble_eq_true rfl) (Nat.le_of_ble_eq_true rfl) (m_cpy 1 1 m_a1 m_a1 m_w1 (by omega) (by omega) (by omega) (by omega) (by omega) (by decide) (by decide))) ?_
                show Xv E q_m_X8_tick 248 [Value.ref am, Value.int (zi e), Value.int (zi k), Value.int (zi (104 + 36 * k)), Value.int (zi 0)] [] (q_mw h am (uA (uM (uM (uM (uM (uA M 1 lk) 1 ((104 + 36 * k) + 1) ((rb lk k 1) - 0)) 1 ((104 + 36 * k) + 5) ((rb lk k 5) + 0)) 1 ((104 + 36 * k) + 0) (rb lk k 6)) 1 ((104 + 36 * k) + 3) ((rb lk k 3) - 1)) 1 (cpI (u1 (u1 (u1 (u1 lk ((104 + 36 * k) + 1) ((rb lk k 1) - 0)) ((104 + 36 * k) + 5) ((rb lk k 5) + 0)) ((104 + 36 * k) + 0) (rb lk k 6)) ((104 + 36 * k) + 3) ((rb lk k 3) - 1)) (u1 (u1 (u1 (u1 lk ((104 + 36 * k) + 1) ((rb lk k 1) - 0)) ((104 + 36 * k) + 5) ((rb lk k 5) + 0)) ((104 + 36 * k) + 0) (rb lk k 6)) ((104 + 36 * k) + 3) ((rb lk k 3) - 1)) (((104 + 36 * k) + 6) + 1) ((104 + 36 * k) + 6) ((rb lk k 3) - 1)))) Q
                have im248 : (uA (uM (uM (uM (uM (uA M 1 lk) 1 ((104 + 36 * k) + 1) ((rb lk k 1) - 0)) 1 ((104 + 36 * k) + 5) ((rb lk k 5) + 0)) 1 ((104 + 36 * k) + 0) (rb lk k 6)) 1 ((104 + 36 * k) + 3) ((rb lk k 3) - 1)) 1 (cpI (u1 (u1 (u1 (u1 lk ((104 + 36 * k) + 1) ((rb lk k 1) - 0)) ((104 + 36 * k) + 5) ((rb lk k 5) + 0)) ((104 + 36 * k) + 0) (rb lk k 6)) ((104 + 36 * k) + 3) ((rb lk k 3) - 1)) (u1 (u1 (u1 (u1 lk ((104 + 36 * k) + 1) ((rb lk k 1) - 0)) ((104 + 36 * k) + 5) ((rb lk k 5) + 0)) ((104 + 36 * k) + 0) (rb lk k 6)) ((104 + 36 * k) + 3) ((rb lk k 3) - 1)) (((104 + 36 * k) + 6) + 1) ((104 + 36 * k) + 6) ((rb lk k 3) - 1))) = uA M 1 (tkm lk k) := by
                  rw [← tkm_eq (l := lk) (k := k) (b := (rb lk k 1) - 0) (s := (rb lk k 5) + 0) (by omega) (by split <;> omega) (by split <;> omega)]
                  simp only [uM_uA, uA_uA]
                refine xv ((congrArg (fun z_ => q_ex E q_m_X8_tick 248 [Value.ref am, Value.int (zi e), Value.int (zi k), Value.int (zi (104 + 36 * k)), Value.int (zi 0)] [] (q_mw h am z_)) im248).trans (x_iload_n 249 d_X8_tick_248 rfl rfl)) ?_
                show Xv E q_m_X8_tick 249 [Value.ref am, Value.int (zi e), Value.int (zi k), Value.int (zi (104 + 36 * k)), Value.int (zi 0)] [Value.int (zi e)] (q_mw h am (uA M 1 (tkm lk k))) Q
                refine xv (x_aload_n 250 d_X8_tick_249 rfl rfl) ?_
                refine xv (x_getfield 253 d_X8_tick_250 rfl f_8_9 (Nat.le_of_ble_eq_true rfl) (Nat.le_of_ble_eq_true rfl) (q_gf_of m_o rfl)) ?_
                refine xv (x_iload_n 254 d_X8_tick_253 rfl rfl) ?_
                refine xv (x_iconst 255 d_X8_tick_254 rfl) ?_
                refine xv (x_iadd 256 d_X8_tick_255 rfl) ?_
                refine xv (x_iaload 257 d_X8_tick_256 rfl ((m_g1 (by omega) (by omega)).trans (rfl : _ = some (Value.int (zi (rb (tkm lk k) k 3)))))) ?_
                have q_11 : rb (tkm lk k) k 3 = rb lk k 3 - 1 := tkm_3 k0
                refine v_if_ne 266 260 d_X8_tick_257 rfl rfl (by omega) (by omega) (fun k257 => ?_) (fun k257 => ?_)
                · refine xv (x_iconst 267 d_X8_tick_266 rfl) ?_
                  refine xv (y_ior 268 d_X8_tick_267 rfl (eb_ior0 (by omega))) ?_
                  refine xv (x_istore_n 269 d_X8_tick_268 rfl (Nat.le_of_ble_eq_true rfl)) ?_
                  show Xv E q_m_X8_tick 269 [Value.ref am, Value.int (zi e), Value.int (zi k), Value.int (zi (104 + 36 * k)), Value.int (zi 0)] [] (q_mw h am (uA M 1 (tkm lk k))) Q
                  refine xv (x_iinc 272 d_X8_tick_269 rfl rfl) ?_
                  show Xv E q_m_X8_tick 272 [Value.ref am, Value.int (zi e), Value.int (zi (k + 1)), Value.int (zi (104 + 36 * k)), Value.int (zi 0)] [] (q_mw h am (uA M 1 (tkm lk k))) Q
                  refine xv (x_goto 14 d_X8_tick_272 rfl) ?_
                  have et : tk1 lk k = tkm lk k := if_pos (by omega)
                  obtain ⟨n1, n2, n3, n4, n5⟩ := tk1_ok hRk hTk hk hBk hT0 (by omega)
                  have e30 : rb lk k 3 = rb (M 1) k 3 := eB k (Int.le_refl k) 3 (by omega) (by omega)
                  rw [← et]
                  refine ih14 _ (by omega) _ (k + 1) _ _ _ (by omega) (by omega) n1 n2 (fun i hi => (n3 i hi).trans (eA i hi)) (fun r a j b c => (n5 r (by omega) j b c).trans (eB r (by omega) j b c)) ?_ (hv.trans (mt1_b (by omega))) rfl
                  first | exact ebk_t (by omega) hE (by omega) | exact ebk_f (by omega) hE (by omega)
                · refine xv (x_iconst 261 d_X8_tick_260 rfl) ?_
                  refine xv (x_iload_n 262 d_X8_tick_261 rfl rfl) ?_
                  refine xv (y_ishl 263 d_X8_tick_262 rfl (eb_shl (by omega))) ?_
                  refine xv (x_goto 267 d_X8_tick_263 rfl) ?_
                  refine xv (y_ior 268 d_X8_tick_267 rfl (eb_ior (by omega) (by omega))) ?_
                  refine xv (x_istore_n 269 d_X8_tick_268 rfl (Nat.le_of_ble_eq_true rfl)) ?_
                  show Xv E q_m_X8_tick 269 [Value.ref am, Value.int (zi (e + pw k)), Value.int (zi k), Value.int (zi (104 + 36 * k)), Value.int (zi 0)] [] (q_mw h am (uA M 1 (tkm lk k))) Q
                  refine xv (x_iinc 272 d_X8_tick_269 rfl rfl) ?_
                  show Xv E q_m_X8_tick 272 [Value.ref am, Value.int (zi (e + pw k)), Value.int (zi (k + 1)), Value.int (zi (104 + 36 * k)), Value.int (zi 0)] [] (q_mw h am (uA M 1 (tkm lk k))) Q
                  refine xv (x_goto 14 d_X8_tick_272 rfl) ?_
                  have et : tk1 lk k = tkm lk k := if_pos (by omega)
                  obtain ⟨n1, n2, n3, n4, n5⟩ := tk1_ok hRk hTk hk hBk hT0 (by omega)
                  have e30 : rb lk k 3 = rb (M 1) k 3 := eB k (Int.le_refl k) 3 (by omega) (by omega)
                  rw [← et]
                  refine ih14 _ (by omega) _ (k + 1) _ _ _ (by omega) (by omega) n1 n2 (fun i hi => (n3 i hi).trans (eA i hi)) (fun r a j b c => (n5 r (by omega) j b c).trans (eB r (by omega) j b c)) ?_ (hv.trans (mt1_b (by omega))) rfl
                  first | exact ebk_t (by omega) hE (by omega) | exact ebk_f (by omega) hE (by omega)
              · omega
            · omega
          · refine xv (x_iconst 135 d_X8_tick_134 rfl) ?_
            refine xv (x_goto 139 d_X8_tick_135 rfl) ?_
            refine xv (x_istore 141 d_X8_tick_139 rfl (Nat.le_of_ble_eq_true rfl)) ?_
            show Xv E q_m_X8_tick 141 [Value.ref am, Value.int (zi e), Value.int (zi k), Value.int (zi (104 + 36 * k)), Value.int (zi 1)] [] (q_mw h am (uA M 1 lk)) Q
            refine xv (x_aload_n 142 d_X8_tick_141 rfl rfl) ?_
            refine xv (x_getfield 145 d_X8_tick_142 rfl f_8_9 (Nat.le_of_ble_eq_true rfl) (Nat.le_of_ble_eq_true rfl) (q_gf_of m_o rfl)) ?_
            refine xv (x_iload_n 146 d_X8_tick_145 rfl rfl) ?_
            refine xv (x_iconst 147 d_X8_tick_146 rfl) ?_
            refine xv (x_iadd 148 d_X8_tick_147 rfl) ?_
            refine xv (x_dup2 149 d_X8_tick_148 rfl rfl rfl) ?_
            refine xv (x_iaload 150 d_X8_tick_149 rfl ((m_g1 (by omega) (by omega)).trans (rfl : _ = some (Value.int (zi (rb lk k 1)))))) ?_
            have q_12 : -1000000 ≤ rb lk k 1 ∧ rb lk k 1 ≤ 1000000 := hRk.1 _
            refine xv (x_iload 152 d_X8_tick_150 rfl rfl) ?_
            refine v_if_eq 166 155 d_X8_tick_152 rfl rfl (by omega) (by omega) (fun k152 => ?_) (fun k152 => ?_)
            · omega
            · refine xv (x_aload_n 156 d_X8_tick_155 rfl rfl) ?_
              refine xv (x_getfield 159 d_X8_tick_156 rfl f_8_9 (Nat.le_of_ble_eq_true rfl) (Nat.le_of_ble_eq_true rfl) (q_gf_of m_o rfl)) ?_
              refine xv (x_iload_n 160 d_X8_tick_159 rfl rfl) ?_
              refine xv (x_iconst 161 d_X8_tick_160 rfl) ?_
              refine xv (x_iadd 162 d_X8_tick_161 rfl) ?_
              refine xv (x_iaload 163 d_X8_tick_162 rfl ((m_g1 (by omega) (by omega)).trans (rfl : _ = some (Value.int (zi (rb lk k 4)))))) ?_
              have q_13 : -1000000 ≤ rb lk k 4 ∧ rb lk k 4 ≤ 1000000 := hRk.1 _
              refine xv (x_goto 167 d_X8_tick_163 rfl) ?_
              refine xv (x_isub 168 d_X8_tick_167 rfl) ?_
              refine xv (x_iastore 169 d_X8_tick_168 rfl (m_s1 (by omega) (by omega))) ?_
              show Xv E q_m_X8_tick 169 [Value.ref am, Value.int (zi e), Value.int (zi k), Value.int (zi (104 + 36 * k)), Value.int (zi 1)] [] (q_mw h am (uM (uA M 1 lk) 1 ((104 + 36 * k) + 1) ((rb lk k 1) - (rb lk k 4)))) Q
              refine xv (x_aload_n 170 d_X8_tick_169 rfl rfl) ?_
              refine xv (x_getfield 173 d_X8_tick_170 rfl f_8_9 (Nat.le_of_ble_eq_true rfl) (Nat.le_of_ble_eq_true rfl) (q_gf_of m_o rfl)) ?_
              refine xv (x_iload_n 174 d_X8_tick_173 rfl rfl) ?_
              refine xv (x_iconst 175 d_X8_tick_174 rfl) ?_
              refine xv (x_iadd 176 d_X8_tick_175 rfl) ?_
              refine xv (x_dup2 177 d_X8_tick_176 rfl rfl rfl) ?_
              refine xv (x_iaload 178 d_X8_tick_177 rfl ((m_g1 (by omega) (by omega)).trans (congrArg (fun z => some (Value.int (zi z))) (show (u1 lk ((104 + 36 * k) + 1) ((rb lk k 1) - (rb lk k 4))) ((104 + 36 * k) + 5) = (rb lk k 5) from (u1_ne (by omega)))))) ?_
              have q_14 : -1000000 ≤ rb lk k 5 ∧ rb lk k 5 ≤ 1000000 := hRk.1 _
              refine xv (x_iload 180 d_X8_tick_178 rfl rfl) ?_
              refine v_if_eq 187 183 d_X8_tick_180 rfl rfl (by omega) (by omega) (fun k180 => ?_) (fun k180 => ?_)
              · omega
              · refine xv (x_iconst 184 d_X8_tick_183 rfl) ?_
                refine xv (x_goto 188 d_X8_tick_184 rfl) ?_
                refine xv (x_iadd 189 d_X8_tick_188 rfl) ?_
                refine xv (x_iastore 190 d_X8_tick_189 rfl (m_s1 (by omega) (by omega))) ?_
                show Xv E q_m_X8_tick 190 [Value.ref am, Value.int (zi e), Value.int (zi k), Value.int (zi (104 + 36 * k)), Value.int (zi 1)] [] (q_mw h am (uM (uM (uA M 1 lk) 1 ((104 + 36 * k) + 1) ((rb lk k 1) - (rb lk k 4))) 1 ((104 + 36 * k) + 5) ((rb lk k 5) + 1))) Q
                refine xv (x_aload_n 191 d_X8_tick_190 rfl rfl) ?_
                refine xv (x_getfield 194 d_X8_tick_191 rfl f_8_9 (Nat.le_of_ble_eq_true rfl) (Nat.le_of_ble_eq_true rfl) (q_gf_of m_o rfl)) ?_
                refine xv (x_iload_n 195 d_X8_tick_194 rfl rfl) ?_
                refine xv (x_iconst 196 d_X8_tick_195 rfl) ?_
                refine xv (x_iadd 197 d_X8_tick_196 rfl) ?_
                refine xv (x_aload_n 198 d_X8_tick_197 rfl rfl) ?_
                refine xv (x_getfield 201 d_X8_tick_198 rfl f_8_9 (Nat.le_of_ble_eq_true rfl) (Nat.le_of_ble_eq_true rfl) (q_gf_of m_o rfl)) ?_
                refine xv (x_iload_n 202 d_X8_tick_201 rfl rfl) ?_
                refine xv (x_bipush 204 d_X8_tick_202 rfl rfl) ?_
                refine xv (x_iadd 205 d_X8_tick_204 rfl) ?_
                refine xv (x_iaload 206 d_X8_tick_205 rfl ((m_g1 (by omega) (by omega)).trans (congrArg (fun z => some (Value.int (zi z))) (show (u1 (u1 lk ((104 + 36 * k) + 1) ((rb lk k 1) - (rb lk k 4))) ((104 + 36 * k) + 5) ((rb lk k 5) + 1)) ((104 + 36 * k) + 6) = (rb lk k 6) from ((u1_ne (by omega)).trans (u1_ne (by omega))))))) ?_
                have q_15 : -1000000 ≤ rb lk k 6 ∧ rb lk k 6 ≤ 1000000 := hRk.1 _
                refine xv (x_iastore 207 d_X8_tick_206 rfl (m_s1 (by omega) (by omega))) ?_
                show Xv E q_m_X8_tick 207 [Value.ref am, Value.int (zi e), Value.int (zi k), Value.int (zi (104 + 36 * k)), Value.int (zi 1)] [] (q_mw h am (uM (uM (uM (uA M 1 lk) 1 ((104 + 36 * k) + 1) ((rb lk k 1) - (rb lk k 4))) 1 ((104 + 36 * k) + 5) ((rb lk k 5) + 1)) 1 ((104 + 36 * k) + 0) (rb lk k 6))) Q
                refine xv (x_aload_n 208 d_X8_tick_207 rfl rfl) ?_
                refine xv (x_getfield 211 d_X8_tick_208 rfl f_8_9 (Nat.le_of_ble_eq_true rfl) (Nat.le_of_ble_eq_true rfl) (q_gf_of m_o rfl)) ?_
                refine xv (x_iload_n 212 d_X8_tick_211 rfl rfl) ?_
                refine xv (x_iconst 213 d_X8_tick_212 rfl) ?_
                refine xv (x_iadd 214 d_X8_tick_213 rfl) ?_
                refine xv (x_dup2 215 d_X8_tick_214 rfl rfl rfl) ?_
                refine xv (x_iaload 216 d_X8_tick_215 rfl ((m_g1 (by omega) (by omega)).trans (congrArg (fun z => some (Value.int (zi z))) (show (u1 (u1 (u1 lk ((104 + 36 * k) + 1) ((rb lk k 1) - (rb lk k 4))) ((104 + 36 * k) + 5) ((rb lk k 5) + 1)) ((104 + 36 * k) + 0) (rb lk k 6)) ((104 + 36 * k) + 3) = (rb lk k 3) from ((u1_ne (by omega)).trans ((u1_ne (by omega)).trans (u1_ne (by omega)))))))) ?_
                have q_16 : -1000000 ≤ rb lk k 3 ∧ rb lk k 3 ≤ 1000000 := hRk.1 _
                refine xv (x_iconst 217 d_X8_tick_216 rfl) ?_
                refine xv (x_isub 218 d_X8_tick_217 rfl) ?_
                refine xv (x_iastore 219 d_X8_tick_218 rfl (m_s1 (by omega) (by omega))) ?_
                show Xv E q_m_X8_tick 219 [Value.ref am, Value.int (zi e), Value.int (zi k), Value.int (zi (104 + 36 * k)), Value.int (zi 1)] [] (q_mw h am (uM (uM (uM (uM (uA M 1 lk) 1 ((104 + 36 * k) + 1) ((rb lk k 1) - (rb lk k 4))) 1 ((104 + 36 * k) + 5) ((rb lk k 5) + 1)) 1 ((104 + 36 * k) + 0) (rb lk k 6)) 1 ((104 + 36 * k) + 3) ((rb lk k 3) - 1))) Q
                refine xv (x_aload_n 220 d_X8_tick_219 rfl rfl) ?_
                refine xv (x_getfield 223 d_X8_tick_220 rfl f_8_9 (Nat.le_of_ble_eq_true rfl) (Nat.le_of_ble_eq_true rfl) (q_gf_of m_o rfl)) ?_
                refine xv (x_iload_n 224 d_X8_tick_223 rfl rfl) ?_
                refine xv (x_bipush 226 d_X8_tick_224 rfl rfl) ?_
                refine xv (x_iadd 227 d_X8_tick_226 rfl) ?_
                refine xv (x_iconst 228 d_X8_tick_227 rfl) ?_
                refine xv (x_iadd 229 d_X8_tick_228 rfl) ?_
                refine xv (x_aload_n 230 d_X8_tick_229 rfl rfl) ?_
                refine xv (x_getfield 233 d_X8_tick_230 rfl f_8_9 (Nat.le_of_ble_eq_true rfl) (Nat.le_of_ble_eq_true rfl) (q_gf_of m_o rfl)) ?_
                refine xv (x_iload_n 234 d_X8_tick_233 rfl rfl) ?_
                refine xv (x_bipush 236 d_X8_tick_234 rfl rfl) ?_
                refine xv (x_iadd 237 d_X8_tick_236 rfl) ?_
                refine xv (x_aload_n 238 d_X8_tick_237 rfl rfl) ?_
                refine xv (x_getfield 241 d_X8_tick_238 rfl f_8_9 (Nat.le_of_ble_eq_true rfl) (Nat.le_of_ble_eq_true rfl) (q_gf_of m_o rfl)) ?_
                refine xv (x_iload_n 242 d_X8_tick_241 rfl rfl) ?_
                refine xv (x_iconst 243 d_X8_tick_242 rfl) ?_
                refine xv (x_iadd 244 d_X8_tick_243 rfl) ?_
                refine xv (x_iaload 245 d_X8_tick_244 rfl ((m_g1 (by omega) (by omega)).trans (congrArg (fun z => some (Value.int (zi z))) (show (u1 (u1 (u1 (u1 lk ((104 + 36 * k) + 1) ((rb lk k 1) - (rb lk k 4))) ((104 + 36 * k) + 5) ((rb lk k 5) + 1)) ((104 + 36 * k) + 0) (rb lk k 6)) ((104 + 36 * k) + 3) ((rb lk k 3) - 1)) ((104 + 36 * k) + 3) = ((rb lk k 3) - 1) from u1_eq)))) ?_
                refine xv (x_copy 248 d_X8_tick_245 rfl rfl rfl (Nat.le_of_ble_eq_true rfl) (Nat.le_of_ble_eq_true rfl) (Nat.le_of_ble_eq_true rfl) (m_cpy 1 1 m_a1 m_a1 m_w1 (by omega) (by omega) (by omega) (by omega) (by omega) (by decide) (by decide))) ?_
                show Xv E q_m_X8_tick 248 [Value.ref am, Value.int (zi e), Value.int (zi k), Value.int (zi (104 + 36 * k)), Value.int (zi 1)] [] (q_mw h am (uA (uM (uM (uM (uM (uA M 1 lk) 1 ((104 + 36 * k) + 1) ((rb lk k 1) - (rb lk k 4))) 1 ((104 + 36 * k) + 5) ((rb lk k 5) + 1)) 1 ((104 + 36 * k) + 0) (rb lk k 6)) 1 ((104 + 36 * k) + 3) ((rb lk k 3) - 1)) 1 (cpI (u1 (u1 (u1 (u1 lk ((104 + 36 * k) + 1) ((rb lk k 1) - (rb lk k 4))) ((104 + 36 * k) + 5) ((rb lk k 5) + 1)) ((104 + 36 * k) + 0) (rb lk k 6)) ((104 + 36 * k) + 3) ((rb lk k 3) - 1)) (u1 (u1 (u1 (u1 lk ((104 + 36 * k) + 1) ((rb lk k 1) - (rb lk k 4))) ((104 + 36 * k) + 5) ((rb lk k 5) + 1)) ((104 + 36 * k) + 0) (rb lk k 6)) ((104 + 36 * k) + 3) ((rb lk k 3) - 1)) (((104 + 36 * k) + 6) + 1) ((104 + 36 * k) + 6) ((rb lk k 3) - 1)))) Q
                have im248 : (uA (uM (uM (uM (uM (uA M 1 lk) 1 ((104 + 36 * k) + 1) ((rb lk k 1) - (rb lk k 4))) 1 ((104 + 36 * k) + 5) ((rb lk k 5) + 1)) 1 ((104 + 36 * k) + 0) (rb lk k 6)) 1 ((104 + 36 * k) + 3) ((rb lk k 3) - 1)) 1 (cpI (u1 (u1 (u1 (u1 lk ((104 + 36 * k) + 1) ((rb lk k 1) - (rb lk k 4))) ((104 + 36 * k) + 5) ((rb lk k 5) + 1)) ((104 + 36 * k) + 0) (rb lk k 6)) ((104 + 36 * k) + 3) ((rb lk k 3) - 1)) (u1 (u1 (u1 (u1 lk ((104 + 36 * k) + 1) ((rb lk k 1) - (rb lk k 4))) ((104 + 36 * k) + 5) ((rb lk k 5) + 1)) ((104 + 36 * k) + 0) (rb lk k 6)) ((104 + 36 * k) + 3) ((rb lk k 3) - 1)) (((104 + 36 * k) + 6) + 1) ((104 + 36 * k) + 6) ((rb lk k 3) - 1))) = uA M 1 (tkm lk k) := by
                  rw [← tkm_eq (l := lk) (k := k) (b := (rb lk k 1) - (rb lk k 4)) (s := (rb lk k 5) + 1) (by omega) (by split <;> omega) (by split <;> omega)]
                  simp only [uM_uA, uA_uA]
                refine xv ((congrArg (fun z_ => q_ex E q_m_X8_tick 248 [Value.ref am, Value.int (zi e), Value.int (zi k), Value.int (zi (104 + 36 * k)), Value.int (zi 1)] [] (q_mw h am z_)) im248).trans (x_iload_n 249 d_X8_tick_248 rfl rfl)) ?_
                show Xv E q_m_X8_tick 249 [Value.ref am, Value.int (zi e), Value.int (zi k), Value.int (zi (104 + 36 * k)), Value.int (zi 1)] [Value.int (zi e)] (q_mw h am (uA M 1 (tkm lk k))) Q
                refine xv (x_aload_n 250 d_X8_tick_249 rfl rfl) ?_
                refine xv (x_getfield 253 d_X8_tick_250 rfl f_8_9 (Nat.le_of_ble_eq_true rfl) (Nat.le_of_ble_eq_true rfl) (q_gf_of m_o rfl)) ?_
                refine xv (x_iload_n 254 d_X8_tick_253 rfl rfl) ?_
                refine xv (x_iconst 255 d_X8_tick_254 rfl) ?_
                refine xv (x_iadd 256 d_X8_tick_255 rfl) ?_
                refine xv (x_iaload 257 d_X8_tick_256 rfl ((m_g1 (by omega) (by omega)).trans (rfl : _ = some (Value.int (zi (rb (tkm lk k) k 3)))))) ?_
                have q_17 : rb (tkm lk k) k 3 = rb lk k 3 - 1 := tkm_3 k0
                refine v_if_ne 266 260 d_X8_tick_257 rfl rfl (by omega) (by omega) (fun k257 => ?_) (fun k257 => ?_)
                · refine xv (x_iconst 267 d_X8_tick_266 rfl) ?_
                  refine xv (y_ior 268 d_X8_tick_267 rfl (eb_ior0 (by omega))) ?_
                  refine xv (x_istore_n 269 d_X8_tick_268 rfl (Nat.le_of_ble_eq_true rfl)) ?_
                  show Xv E q_m_X8_tick 269 [Value.ref am, Value.int (zi e), Value.int (zi k), Value.int (zi (104 + 36 * k)), Value.int (zi 1)] [] (q_mw h am (uA M 1 (tkm lk k))) Q
                  refine xv (x_iinc 272 d_X8_tick_269 rfl rfl) ?_
                  show Xv E q_m_X8_tick 272 [Value.ref am, Value.int (zi e), Value.int (zi (k + 1)), Value.int (zi (104 + 36 * k)), Value.int (zi 1)] [] (q_mw h am (uA M 1 (tkm lk k))) Q
                  refine xv (x_goto 14 d_X8_tick_272 rfl) ?_
                  have et : tk1 lk k = tkm lk k := if_pos (by omega)
                  obtain ⟨n1, n2, n3, n4, n5⟩ := tk1_ok hRk hTk hk hBk hT0 (by omega)
                  have e30 : rb lk k 3 = rb (M 1) k 3 := eB k (Int.le_refl k) 3 (by omega) (by omega)
                  rw [← et]
                  refine ih14 _ (by omega) _ (k + 1) _ _ _ (by omega) (by omega) n1 n2 (fun i hi => (n3 i hi).trans (eA i hi)) (fun r a j b c => (n5 r (by omega) j b c).trans (eB r (by omega) j b c)) ?_ (hv.trans (mt1_b (by omega))) rfl
                  first | exact ebk_t (by omega) hE (by omega) | exact ebk_f (by omega) hE (by omega)
                · refine xv (x_iconst 261 d_X8_tick_260 rfl) ?_
                  refine xv (x_iload_n 262 d_X8_tick_261 rfl rfl) ?_
                  refine xv (y_ishl 263 d_X8_tick_262 rfl (eb_shl (by omega))) ?_
                  refine xv (x_goto 267 d_X8_tick_263 rfl) ?_
                  refine xv (y_ior 268 d_X8_tick_267 rfl (eb_ior (by omega) (by omega))) ?_
                  refine xv (x_istore_n 269 d_X8_tick_268 rfl (Nat.le_of_ble_eq_true rfl)) ?_
                  show Xv E q_m_X8_tick 269 [Value.ref am, Value.int (zi (e + pw k)), Value.int (zi k), Value.int (zi (104 + 36 * k)), Value.int (zi 1)] [] (q_mw h am (uA M 1 (tkm lk k))) Q
                  refine xv (x_iinc 272 d_X8_tick_269 rfl rfl) ?_
                  show Xv E q_m_X8_tick 272 [Value.ref am, Value.int (zi (e + pw k)), Value.int (zi (k + 1)), Value.int (zi (104 + 36 * k)), Value.int (zi 1)] [] (q_mw h am (uA M 1 (tkm lk k))) Q
                  refine xv (x_goto 14 d_X8_tick_272 rfl) ?_
                  have et : tk1 lk k = tkm lk k := if_pos (by omega)
                  obtain ⟨n1, n2, n3, n4, n5⟩ := tk1_ok hRk hTk hk hBk hT0 (by omega)
                  have e30 : rb lk k 3 = rb (M 1) k 3 := eB k (Int.le_refl k) 3 (by omega) (by omega)
                  rw [← et]
                  refine ih14 _ (by omega) _ (k + 1) _ _ _ (by omega) (by omega) n1 n2 (fun i hi => (n3 i hi).trans (eA i hi)) (fun r a j b c => (n5 r (by omega) j b c).trans (eB r (by omega) j b c)) ?_ (hv.trans (mt1_b (by omega))) rfl
                  first | exact ebk_t (by omega) hE (by omega) | exact ebk_f (by omega) hE (by omega)
        · refine xv (x_aload_n 41 d_X8_tick_40 rfl rfl) ?_
          refine xv (x_getfield 44 d_X8_tick_41 rfl f_8_9 (Nat.le_of_ble_eq_true rfl) (Nat.le_of_ble_eq_true rfl) (q_gf_of m_o rfl)) ?_
          refine xv (x_bipush 46 d_X8_tick_44 rfl rfl) ?_
          refine xv (x_aload_n 47 d_X8_tick_46 rfl rfl) ?_
          refine xv (x_getfield 50 d_X8_tick_47 rfl f_8_9 (Nat.le_of_ble_eq_true rfl) (Nat.le_of_ble_eq_true rfl) (q_gf_of m_o rfl)) ?_
          refine xv (x_iload_n 51 d_X8_tick_50 rfl rfl) ?_
          refine xv (x_iconst 52 d_X8_tick_51 rfl) ?_
          refine xv (x_iadd 53 d_X8_tick_52 rfl) ?_
          refine xv (x_iaload 54 d_X8_tick_53 rfl ((m_g1 (by omega) (by omega)).trans (rfl : _ = some (Value.int (zi (rb lk k 0)))))) ?_
          have q_18 : -1000000 ≤ rb lk k 0 ∧ rb lk k 0 ≤ 1000000 := hRk.1 _
          refine xv (x_iadd 55 d_X8_tick_54 rfl) ?_
          refine xv (x_iaload 56 d_X8_tick_55 rfl ((m_g1 (by omega) (by omega)).trans (rfl : _ = some (Value.int (zi (lk (8 + (rb lk k 0)))))))) ?_
          have q_19 : -1000000 ≤ lk (8 + (rb lk k 0)) ∧ lk (8 + (rb lk k 0)) ≤ 1000000 := hRk.1 _
          refine xv (x_iconst 57 d_X8_tick_56 rfl) ?_
          refine v_icmp_ne 64 60 d_X8_tick_57 rfl rfl (by omega) (by omega) (by omega) (by omega) (fun k57 => ?_) (fun k57 => ?_)
          · refine xv (x_iconst 65 d_X8_tick_64 rfl) ?_
            refine xv (x_istore 67 d_X8_tick_65 rfl (Nat.le_of_ble_eq_true rfl)) ?_
            show Xv E q_m_X8_tick 67 [Value.ref am, Value.int (zi e), Value.int (zi k), Value.int (zi (104 + 36 * k)), Value.int (zi 0)] [] (q_mw h am (uA M 1 lk)) Q
            refine xv (x_aload_n 68 d_X8_tick_67 rfl rfl) ?_
            refine xv (x_getfield 71 d_X8_tick_68 rfl f_8_9 (Nat.le_of_ble_eq_true rfl) (Nat.le_of_ble_eq_true rfl) (q_gf_of m_o rfl)) ?_
            refine xv (x_iload_n 72 d_X8_tick_71 rfl rfl) ?_
            refine xv (x_iconst 73 d_X8_tick_72 rfl) ?_
            refine xv (x_iadd 74 d_X8_tick_73 rfl) ?_
            refine xv (x_iload 76 d_X8_tick_74 rfl rfl) ?_
            refine v_if_eq 102 79 d_X8_tick_76 rfl rfl (by omega) (by omega) (fun k76 => ?_) (fun k76 => ?_)
            · refine xv (x_aload_n 103 d_X8_tick_102 rfl rfl) ?_
              refine xv (x_getfield 106 d_X8_tick_103 rfl f_8_9 (Nat.le_of_ble_eq_true rfl) (Nat.le_of_ble_eq_true rfl) (q_gf_of m_o rfl)) ?_
              refine xv (x_iload_n 107 d_X8_tick_106 rfl rfl) ?_
              refine xv (x_iconst 108 d_X8_tick_107 rfl) ?_
              refine xv (x_iadd 109 d_X8_tick_108 rfl) ?_
              refine xv (x_iaload 110 d_X8_tick_109 rfl ((m_g1 (by omega) (by omega)).trans (rfl : _ = some (Value.int (zi (rb lk k 1)))))) ?_
              have q_20 : -1000000 ≤ rb lk k 1 ∧ rb lk k 1 ≤ 1000000 := hRk.1 _
              refine xv (x_iastore 111 d_X8_tick_110 rfl (m_s1 (by omega) (by omega))) ?_
              show Xv E q_m_X8_tick 111 [Value.ref am, Value.int (zi e), Value.int (zi k), Value.int (zi (104 + 36 * k)), Value.int (zi 0)] [] (q_mw h am (uM (uA M 1 lk) 1 ((104 + 36 * k) + 1) (rb lk k 1))) Q
              refine xv (x_goto 269 d_X8_tick_111 rfl) ?_
              refine xv (x_iinc 272 d_X8_tick_269 rfl rfl) ?_
              show Xv E q_m_X8_tick 272 [Value.ref am, Value.int (zi e), Value.int (zi (k + 1)), Value.int (zi (104 + 36 * k)), Value.int (zi 0)] [] (q_mw h am (uM (uA M 1 lk) 1 ((104 + 36 * k) + 1) (rb lk k 1))) Q
              refine xv (x_goto 14 d_X8_tick_272 rfl) ?_
              have et : tk1 lk k = u1 lk (104 + 36 * k + 1) (rb lk k 1) := by
                unfold tk1
                rw [if_neg (by omega)]
                first
                | (rw [if_pos (by omega)]; exact chg_eq.symm)
                | (rw [if_neg (by omega)]; exact u1_self.symm)
              obtain ⟨n1, n2, n3, n4, n5⟩ := tk1_ok hRk hTk hk hBk hT0 (by omega)
              have e30 : rb lk k 3 = rb (M 1) k 3 := eB k (Int.le_refl k) 3 (by omega) (by omega)
              rw [uM_uA, ← et]
              refine ih14 _ (by omega) _ (k + 1) _ _ _ (by omega) (by omega) n1 n2 (fun i hi => (n3 i hi).trans (eA i hi)) (fun r a j b c => (n5 r (by omega) j b c).trans (eB r (by omega) j b c)) ?_ (hv.trans (mt1_b (by omega))) rfl
              first | exact ebk_t (by omega) hE (by omega) | exact ebk_f (by omega) hE (by omega)
            · omega
          · refine xv (x_iconst 61 d_X8_tick_60 rfl) ?_
            refine xv (x_goto 65 d_X8_tick_61 rfl) ?_
            refine xv (x_istore 67 d_X8_tick_65 rfl (Nat.le_of_ble_eq_true rfl)) ?_
            show Xv E q_m_X8_tick 67 [Value.ref am, Value.int (zi e), Value.int (zi k), Value.int (zi (104 + 36 * k)), Value.int (zi 1)] [] (q_mw h am (uA M 1 lk)) Q
            refine xv (x_aload_n 68 d_X8_tick_67 rfl rfl) ?_
            refine xv (x_getfield 71 d_X8_tick_68 rfl f_8_9 (Nat.le_of_ble_eq_true rfl) (Nat.le_of_ble_eq_true rfl) (q_gf_of m_o rfl)) ?_
            refine xv (x_iload_n 72 d_X8_tick_71 rfl rfl) ?_
            refine xv (x_iconst 73 d_X8_tick_72 rfl) ?_
            refine xv (x_iadd 74 d_X8_tick_73 rfl) ?_
            refine xv (x_iload 76 d_X8_tick_74 rfl rfl) ?_
            refine v_if_eq 102 79 d_X8_tick_76 rfl rfl (by omega) (by omega) (fun k76 => ?_) (fun k76 => ?_)
            · omega
            · refine xv (x_bipush 81 d_X8_tick_79 rfl rfl) ?_
              refine xv (x_aload_n 82 d_X8_tick_81 rfl rfl) ?_
              refine xv (x_getfield 85 d_X8_tick_82 rfl f_8_9 (Nat.le_of_ble_eq_true rfl) (Nat.le_of_ble_eq_true rfl) (q_gf_of m_o rfl)) ?_
              refine xv (x_iload_n 86 d_X8_tick_85 rfl rfl) ?_
              refine xv (x_iconst 87 d_X8_tick_86 rfl) ?_
              refine xv (x_iadd 88 d_X8_tick_87 rfl) ?_
              refine xv (x_iaload 89 d_X8_tick_88 rfl ((m_g1 (by omega) (by omega)).trans (rfl : _ = some (Value.int (zi (rb lk k 1)))))) ?_
              have q_21 : -1000000 ≤ rb lk k 1 ∧ rb lk k 1 ≤ 1000000 := hRk.1 _
              refine xv (x_aload_n 90 d_X8_tick_89 rfl rfl) ?_
              refine xv (x_getfield 93 d_X8_tick_90 rfl f_8_9 (Nat.le_of_ble_eq_true rfl) (Nat.le_of_ble_eq_true rfl) (q_gf_of m_o rfl)) ?_
              refine xv (x_iconst 94 d_X8_tick_93 rfl) ?_
              refine xv (x_iaload 95 d_X8_tick_94 rfl ((m_g1 (by omega) (by omega)).trans (rfl : _ = some (Value.int (zi (lk 5)))))) ?_
              have q_22 : -1000000 ≤ lk 5 ∧ lk 5 ≤ 1000000 := hRk.1 _
              refine xv (x_iadd 96 d_X8_tick_95 rfl) ?_
              refine xv (x_mmin 99 d_X8_tick_96 rfl rfl rfl rfl (Nat.le_of_ble_eq_true rfl) (Nat.le_of_ble_eq_true rfl) (Nat.le_of_ble_eq_true rfl) (by omega) (by omega) (by omega) (by omega)) ?_
              refine xv (x_goto 110 d_X8_tick_99 rfl) ?_
              refine xv (x_iastore 111 d_X8_tick_110 rfl (m_s1 (by omega) (by omega))) ?_
              show Xv E q_m_X8_tick 111 [Value.ref am, Value.int (zi e), Value.int (zi k), Value.int (zi (104 + 36 * k)), Value.int (zi 1)] [] (q_mw h am (uM (uA M 1 lk) 1 ((104 + 36 * k) + 1) (min 99 ((rb lk k 1) + (lk 5))))) Q
              refine xv (x_goto 269 d_X8_tick_111 rfl) ?_
              refine xv (x_iinc 272 d_X8_tick_269 rfl rfl) ?_
              show Xv E q_m_X8_tick 272 [Value.ref am, Value.int (zi e), Value.int (zi (k + 1)), Value.int (zi (104 + 36 * k)), Value.int (zi 1)] [] (q_mw h am (uM (uA M 1 lk) 1 ((104 + 36 * k) + 1) (min 99 ((rb lk k 1) + (lk 5))))) Q
              refine xv (x_goto 14 d_X8_tick_272 rfl) ?_
              have et : tk1 lk k = u1 lk (104 + 36 * k + 1) (min 99 ((rb lk k 1) + (lk 5))) := by
                unfold tk1
                rw [if_neg (by omega)]
                first
                | (rw [if_pos (by omega)]; exact chg_eq.symm)
                | (rw [if_neg (by omega)]; exact u1_self.symm)
              obtain ⟨n1, n2, n3, n4, n5⟩ := tk1_ok hRk hTk hk hBk hT0 (by omega)
              have e30 : rb lk k 3 = rb (M 1) k 3 := eB k (Int.le_refl k) 3 (by omega) (by omega)
              rw [uM_uA, ← et]
              refine ih14 _ (by omega) _ (k + 1) _ _ _ (by omega) (by omega) n1 n2 (fun i hi => (n3 i hi).trans (eA i hi)) (fun r a j b c => (n5 r (by omega) j b c).trans (eB r (by omega) j b c)) ?_ (hv.trans (mt1_b (by omega))) rfl
              first | exact ebk_t (by omega) hE (by omega) | exact ebk_f (by omega) hE (by omega)
  have hB1 := hB.1
  have i0 := L14 _ 0 0 (u1 (M 1) 2 (M 1 2 + 1)) Value.null Value.null (by omega) (by omega) (rg_now hR hT (by omega)) (tb0_k hB hT0) (fun _ _ => rfl) (fun r a j b c => u1_ne (i := 104 + 36 * r + j) (by omega)) ebk_0 (by rw [Int.sub_zero]; rfl) rfl
  exact i0
end RA9
