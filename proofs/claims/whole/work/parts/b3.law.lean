/-! the law's cases (printed by program) -/
def chkF (p : UInt32) : Bool := decide (FP.f2d p &&& 0x7fffffffffffffff ≤ 0x7ff0000000000000) && decide (Op.cmpValue (FP.dcmp (FP.f2d p) (FP.f2d p)) .l = zi 0)
theorem chk_all : ∀ a : Fin 7, ∀ b : Fin 7, 0 < b.val → chkF (FP.fdiv (FP.i2f (zi a.val)) (FP.i2f (zi b.val))) = true := by decide +kernel
theorem chk_0 : chkF FP.fconst0 = true := by decide +kernel
def isF2 (v : Value) : Prop := ∃ p, v = .float p ∧ chkF p = true
theorem ldM_o2 {m : Int → Int} (h : Iv m) : chkF (ldM m).2 = true := by
  have g3 := (iv_c h).2.2.2.1
  have hb : 0 ≤ mld m ∧ mld m ≤ 0 + ((m 3).toNat : Int) := by
    unfold mld
    refine ⟨lpI_nn _ _ _ fun i y a b => ?_, lpI_ub _ _ _ fun i y => ?_⟩
    · show y ≤ y + bI (ldd m i)
      unfold bI
      split <;> omega
    · show y + bI (ldd m i) ≤ y + 1
      unfold bI
      split <;> omega
  unfold ldM
  by_cases q : m 3 = 0
  · rw [if_pos q]
    exact chk_0
  · rw [if_neg q]
    obtain ⟨a, ea⟩ := Int.eq_ofNat_of_zero_le hb.1
    obtain ⟨b, eb⟩ := Int.eq_ofNat_of_zero_le g3.1
    show chkF (FP.fdiv (FP.i2f (zi (mld m))) (FP.i2f (zi (m 3)))) = true
    rw [ea, eb]
    exact chk_all ⟨a, by omega⟩ ⟨b, by omega⟩ (by show 0 < b; omega)
section KC
variable {E : q_E} {h h1 h' : q_H} {x N c s b L : Nat} {T T' i : Int} {ys : Nat → Int32} {M : q_Im} {v6 v7 v8 : Value} {Q : q_R → q_H → Prop}
theorem P_loaded2 (hR : RM T x h M) : Bo E T x h q_m_X7_loaded q_m_X8_loaded [] [xAE] isF2 := by
  obtain ⟨hsf, l, ls, nx, ct, kl, n, c, hs, fa, kr, kd_, hC, hO⟩ := hR
  obtain ⟨r, h1, e1, hM⟩ := S_X7_loaded (E := E) hC (st_rg hO.1) hO.2.1.1 hO.2.1.2.2.1
  obtain ⟨f1, f2, f3⟩ := p_rv (T := T) hsf hC hM (op_ldd hO.1.1 hO.1.2.1)
  refine ⟨r, h1, _, _, e1, f1, f2, ⟨_, rfl, ldM_o2 hO.1.2.1⟩, fun h1' F => ?_⟩
  obtain ⟨g1, g2⟩ := f3 h1' F
  obtain ⟨r2, h2, e2, e3, e4⟩ := S_X8_loaded (E := E) (h := h1') (am := x + 444) (M := M) hO.1.2.1.1
  rw [← g1, e3, e4] at e2
  exact ⟨_, e2, rfl, g2 _ (ob_5 hO)⟩
theorem K_append (I : LI T x N c s h) (hN : N ≤ x) (h0 : 0 ≤ T) (hT1 : T ≤ 90000) (hE : q_EN E N) (hbN : b < N) (hS : E.2 b = some (.int, L, fun j => .int (ys j))) (hL : L ≤ 2560) (hi : 0 ≤ i ∧ i + 5 ≤ L) (next : ∀ h' v6 v7 v8, LI (T + 99) x N (c + 1) (s + 6) h' → Xv E q_m_L_law 2399 [.ref b, .ref x, .ref (x + 444), .ref (x + 456), .ref (x + 457), .int (zi i), v6, v7, v8] [] h' Q) : Xv E q_m_L_law 208 [.ref b, .ref x, .ref (x + 444), .ref (x + 456), .ref (x + 457), .int (zi i), v6, v7, v8] [] h Q := by
  obtain ⟨⟨M, hR⟩, _⟩ := id I
  obtain ⟨fs7, hb7⟩ := rm_o7 hR
  have hLo := I.2.2.1
  obtain ⟨y1, ey1, y10, y11⟩ := zi_of (ys (i + 1).toNat)
  have G1 : ∀ h' : q_H, Lo h' N → q_gI E h' 0 .int b (zi (i + 1)) = some (.int (zi y1)) := fun h' l => by rw [← ey1]; exact gI_s hS hL (l b hbN) (by omega) (by omega)
  obtain ⟨w1, ew1, w10, w11⟩ := i2c_r (zi y1)
  obtain ⟨t, z, h2, h3, c1, c2, c3, c4, ⟨c5, c6, fs8, c7⟩, ⟨fs9, c8⟩, t0, t1⟩ := two_i (mL := q_m_L_append) (P_append (E := E) hR ⟨w10, w11⟩) I hN (fun r h1 t x0 a1 a2 a3 => H_append a1 a2 hb7 a3)
  have nx := next h3
  have c9 := li_mono (T' := T + 99) c5 (by omega) (by omega) (Nat.le_refl _) (Nat.le_refl _)
  refine xv (x_aload_n 209 d_L_law_208 rfl rfl) ?_
  refine xv (x_aload_n 210 d_L_law_209 rfl rfl) ?_
  refine xv (x_iload 212 d_L_law_210 rfl rfl) ?_
  refine xv (x_iconst 213 d_L_law_212 rfl) ?_
  refine xv (x_iadd 214 d_L_law_213 rfl) ?_
  refine xv (x_iaload 215 d_L_law_214 rfl (G1 h hLo)) ?_
  refine xv (x_i2c 216 d_L_law_215 rfl) ?_
  rw [ew1]
  refine xv (x_aload_n 217 d_L_law_216 rfl rfl) ?_
  refine xv (x_ins1 220 (as := .ref x :: ([.int (zi w1)] ++ [.ref (x + 456)])) (rest := []) d_L_law_217 rfl c_9_139 rfl (Nat.le_of_ble_eq_true rfl) (Nat.le_of_ble_eq_true rfl) (Nat.le_of_ble_eq_true rfl) rfl c1) ?_
  refine xv (x_istore 222 d_L_law_220 rfl (Nat.le_of_ble_eq_true rfl)) ?_
  show Xv E q_m_L_law 222 [.ref b, .ref x, .ref (x + 444), .ref (x + 456), .ref (x + 457), .int (zi i), .int (zi t), v7, v8] [] h2 Q
  refine xv (x_aload_n 223 d_L_law_222 rfl rfl) ?_
  refine xv (x_aload_n 224 d_L_law_223 rfl rfl) ?_
  refine xv (x_iload 226 d_L_law_224 rfl rfl) ?_
  refine xv (x_iconst 227 d_L_law_226 rfl) ?_
  refine xv (x_iadd 228 d_L_law_227 rfl) ?_
  refine xv (x_iaload 229 d_L_law_228 rfl (G1 h2 c6)) ?_
  refine xv (x_i2c 230 d_L_law_229 rfl) ?_
  rw [ew1]
  refine xv (x_inv1 233 (as := [.int (zi w1)]) (rest := []) d_L_law_230 rfl c_9_144 rfl (Nat.le_of_ble_eq_true rfl) (Nat.le_of_ble_eq_true rfl) c7 (Nat.le_of_ble_eq_true rfl) (Nat.le_of_ble_eq_true rfl) rfl c2) ?_
  refine xv (x_istore 235 d_L_law_233 rfl (Nat.le_of_ble_eq_true rfl)) ?_
  show Xv E q_m_L_law 235 [.ref b, .ref x, .ref (x + 444), .ref (x + 456), .ref (x + 457), .int (zi i), .int (zi t), .int (zi z), v8] [] h3 Q
  refine xv (x_aload_n 236 d_L_law_235 rfl rfl) ?_
  refine xv (x_inv1 239 (as := []) (rest := []) d_L_law_236 rfl c_9_145 rfl (Nat.le_of_ble_eq_true rfl) (Nat.le_of_ble_eq_true rfl) c8 (Nat.le_of_ble_eq_true rfl) (Nat.le_of_ble_eq_true rfl) rfl c3) ?_
  refine xv (x_iload 241 d_L_law_239 rfl rfl) ?_
  refine v_icmp_eq 246 244 d_L_law_241 rfl rfl (by omega) (by omega) (by omega) (by omega) (fun _ => ?_) (fun k_ => absurd rfl k_)
  refine xv (x_iload 248 d_L_law_246 rfl rfl) ?_
  refine v_if_ne 263 251 d_L_law_248 rfl rfl (by omega) (by omega) (fun _ => xv (x_goto 2399 d_L_law_263 rfl) (nx _ _ _ c9)) (fun kt => ?_)
  refine xv (x_aload_n 252 d_L_law_251 rfl rfl) ?_
  refine xv (x_iconst 253 d_L_law_252 rfl) ?_
  refine xv (x_laload 254 d_L_law_253 rfl (c4 kt)) ?_
  refine xv (x_iload 256 d_L_law_254 rfl rfl) ?_
  refine xv (x_i2l 257 d_L_law_256 rfl) ?_
  refine xv (x_lcmp 258 d_L_law_257 rfl) ?_
  rw [lc_self]
  exact v_if_eq 263 261 d_L_law_258 rfl rfl (by omega) (by omega) (fun _ => xv (x_goto 2399 d_L_law_263 rfl) (nx _ _ _ c9)) (fun k_ => absurd rfl k_)
theorem K_layout (I : LI T x N c s h) (hN : N ≤ x) (h0 : 0 ≤ T) (hT1 : T ≤ 90000) (hE : q_EN E N) (hbN : b < N) (hS : E.2 b = some (.int, L, fun j => .int (ys j))) (hL : L ≤ 2560) (hi : 0 ≤ i ∧ i + 5 ≤ L) (next : ∀ h' v6 v7 v8, LI (T + 99) x N (c + 1) (s + 6) h' → Xv E q_m_L_law 2399 [.ref b, .ref x, .ref (x + 444), .ref (x + 456), .ref (x + 457), .int (zi i), v6, v7, v8] [] h' Q) : Xv E q_m_L_law 266 [.ref b, .ref x, .ref (x + 444), .ref (x + 456), .ref (x + 457), .int (zi i), v6, v7, v8] [] h Q := by
  obtain ⟨⟨M, hR⟩, _⟩ := id I
  obtain ⟨fs7, hb7⟩ := rm_o7 hR
  have hLo := I.2.2.1
  obtain ⟨t, z, h2, h3, c1, c2, c3, c4, ⟨c5, c6, fs8, c7⟩, ⟨fs9, c8⟩, t0, t1⟩ := two_i (mL := q_m_L_layout) (P_layout (E := E) hR h0 hE hLo hN) I hN (fun r h1 t x0 a1 a2 a3 => H_layout a1 a2 hb7 a3)
  have nx := next h3
  have c9 := li_mono (T' := T + 99) c5 (by omega) (by omega) (Nat.le_refl _) (Nat.le_refl _)
  refine xv (x_aload_n 267 d_L_law_266 rfl rfl) ?_
  refine xv (x_aload_n 268 d_L_law_267 rfl rfl) ?_
  refine xv (x_ins1 271 (as := .ref x :: ([] ++ [.ref (x + 456)])) (rest := []) d_L_law_268 rfl c_9_148 rfl (Nat.le_of_ble_eq_true rfl) (Nat.le_of_ble_eq_true rfl) (Nat.le_of_ble_eq_true rfl) rfl c1) ?_
  refine xv (x_istore 273 d_L_law_271 rfl (Nat.le_of_ble_eq_true rfl)) ?_
  show Xv E q_m_L_law 273 [.ref b, .ref x, .ref (x + 444), .ref (x + 456), .ref (x + 457), .int (zi i), .int (zi t), v7, v8] [] h2 Q
  refine xv (x_aload_n 274 d_L_law_273 rfl rfl) ?_
  refine xv (x_inv1 277 (as := []) (rest := []) d_L_law_274 rfl c_9_151 rfl (Nat.le_of_ble_eq_true rfl) (Nat.le_of_ble_eq_true rfl) c7 (Nat.le_of_ble_eq_true rfl) (Nat.le_of_ble_eq_true rfl) rfl c2) ?_
  refine xv (x_istore 279 d_L_law_277 rfl (Nat.le_of_ble_eq_true rfl)) ?_
  show Xv E q_m_L_law 279 [.ref b, .ref x, .ref (x + 444), .ref (x + 456), .ref (x + 457), .int (zi i), .int (zi t), .int (zi z), v8] [] h3 Q
  refine xv (x_aload_n 280 d_L_law_279 rfl rfl) ?_
  refine xv (x_inv1 283 (as := []) (rest := []) d_L_law_280 rfl c_9_145 rfl (Nat.le_of_ble_eq_true rfl) (Nat.le_of_ble_eq_true rfl) c8 (Nat.le_of_ble_eq_true rfl) (Nat.le_of_ble_eq_true rfl) rfl c3) ?_
  refine xv (x_iload 285 d_L_law_283 rfl rfl) ?_
  refine v_icmp_eq 290 288 d_L_law_285 rfl rfl (by omega) (by omega) (by omega) (by omega) (fun _ => ?_) (fun k_ => absurd rfl k_)
  refine xv (x_iload 292 d_L_law_290 rfl rfl) ?_
  refine v_if_ne 307 295 d_L_law_292 rfl rfl (by omega) (by omega) (fun _ => xv (x_goto 2399 d_L_law_307 rfl) (nx _ _ _ c9)) (fun kt => ?_)
  refine xv (x_aload_n 296 d_L_law_295 rfl rfl) ?_
  refine xv (x_iconst 297 d_L_law_296 rfl) ?_
  refine xv (x_laload 298 d_L_law_297 rfl (c4 kt)) ?_
  refine xv (x_iload 300 d_L_law_298 rfl rfl) ?_
  refine xv (x_i2l 301 d_L_law_300 rfl) ?_
  refine xv (x_lcmp 302 d_L_law_301 rfl) ?_
  rw [lc_self]
  exact v_if_eq 307 305 d_L_law_302 rfl rfl (by omega) (by omega) (fun _ => xv (x_goto 2399 d_L_law_307 rfl) (nx _ _ _ c9)) (fun k_ => absurd rfl k_)
theorem K_faultPosition (I : LI T x N c s h) (hN : N ≤ x) (h0 : 0 ≤ T) (hT1 : T ≤ 90000) (hE : q_EN E N) (hbN : b < N) (hS : E.2 b = some (.int, L, fun j => .int (ys j))) (hL : L ≤ 2560) (hi : 0 ≤ i ∧ i + 5 ≤ L) (next : ∀ h' v6 v7 v8, LI (T + 99) x N (c + 1) (s + 6) h' → Xv E q_m_L_law 2399 [.ref b, .ref x, .ref (x + 444), .ref (x + 456), .ref (x + 457), .int (zi i), v6, v7, v8] [] h' Q) : Xv E q_m_L_law 310 [.ref b, .ref x, .ref (x + 444), .ref (x + 456), .ref (x + 457), .int (zi i), v6, v7, v8] [] h Q := by
  obtain ⟨⟨M, hR⟩, _⟩ := id I
  obtain ⟨fs7, hb7⟩ := rm_o7 hR
  have hLo := I.2.2.1
  obtain ⟨z, h2, h3, ⟨z0, z1⟩, c1, c2, c5, ⟨fs8, c7⟩⟩ := two_0 (P_faultPosition (E := E) hR ) I hN
  have nx := next h3
  have c9 := li_mono (T' := T + 99) c5 (by omega) (by omega) (Nat.le_refl _) (Nat.le_refl _)
  refine xv (x_aload_n 311 d_L_law_310 rfl rfl) ?_
  refine xv (x_inv1 314 (as := []) (rest := []) d_L_law_311 rfl c_9_152 rfl (Nat.le_of_ble_eq_true rfl) (Nat.le_of_ble_eq_true rfl) hb7 (Nat.le_of_ble_eq_true rfl) (Nat.le_of_ble_eq_true rfl) rfl c1) ?_
  refine xv (x_aload_n 315 d_L_law_314 rfl rfl) ?_
  refine xv (x_inv1 318 (as := []) (rest := [.int (zi z)]) d_L_law_315 rfl c_9_155 rfl (Nat.le_of_ble_eq_true rfl) (Nat.le_of_ble_eq_true rfl) c7 (Nat.le_of_ble_eq_true rfl) (Nat.le_of_ble_eq_true rfl) rfl c2) ?_
  exact v_icmp_eq 2399 321 d_L_law_318 rfl rfl z0 z1 z0 z1 (fun _ => nx _ _ _ c9) (fun k_ => absurd rfl k_)
theorem K_add (I : LI T x N c s h) (hN : N ≤ x) (h0 : 0 ≤ T) (hT1 : T ≤ 90000) (hE : q_EN E N) (hbN : b < N) (hS : E.2 b = some (.int, L, fun j => .int (ys j))) (hL : L ≤ 2560) (hi : 0 ≤ i ∧ i + 5 ≤ L) (next : ∀ h' v6 v7 v8, LI (T + 99) x N (c + 1) (s + 6) h' → Xv E q_m_L_law 2399 [.ref b, .ref x, .ref (x + 444), .ref (x + 456), .ref (x + 457), .int (zi i), v6, v7, v8] [] h' Q) : Xv E q_m_L_law 323 [.ref b, .ref x, .ref (x + 444), .ref (x + 456), .ref (x + 457), .int (zi i), v6, v7, v8] [] h Q := by
  obtain ⟨⟨M, hR⟩, _⟩ := id I
  obtain ⟨fs7, hb7⟩ := rm_o7 hR
  have hLo := I.2.2.1
  obtain ⟨y1, ey1, y10, y11⟩ := zi_of (ys (i + 1).toNat)
  have G1 : ∀ h' : q_H, Lo h' N → q_gI E h' 0 .int b (zi (i + 1)) = some (.int (zi y1)) := fun h' l => by rw [← ey1]; exact gI_s hS hL (l b hbN) (by omega) (by omega)
  obtain ⟨y2, ey2, y20, y21⟩ := zi_of (ys (i + 2).toNat)
  have G2 : ∀ h' : q_H, Lo h' N → q_gI E h' 0 .int b (zi (i + 2)) = some (.int (zi y2)) := fun h' l => by rw [← ey2]; exact gI_s hS hL (l b hbN) (by omega) (by omega)
  obtain ⟨t, z, h2, h3, c1, c2, c3, c4, ⟨c5, c6, fs8, c7⟩, ⟨fs9, c8⟩, t0, t1⟩ := two_i (mL := q_m_L_add) (P_add (E := E) hR h0 y10 y11 y20 y21) I hN (fun r h1 t x0 a1 a2 a3 => H_add a1 a2 hb7 a3)
  have nx := next h3
  have c9 := li_mono (T' := T + 99) c5 (by omega) (by omega) (Nat.le_refl _) (Nat.le_refl _)
  refine xv (x_aload_n 324 d_L_law_323 rfl rfl) ?_
  refine xv (x_aload_n 325 d_L_law_324 rfl rfl) ?_
  refine xv (x_iload 327 d_L_law_325 rfl rfl) ?_
  refine xv (x_iconst 328 d_L_law_327 rfl) ?_
  refine xv (x_iadd 329 d_L_law_328 rfl) ?_
  refine xv (x_iaload 330 d_L_law_329 rfl (G1 h hLo)) ?_
  refine xv (x_aload_n 331 d_L_law_330 rfl rfl) ?_
  refine xv (x_iload 333 d_L_law_331 rfl rfl) ?_
  refine xv (x_iconst 334 d_L_law_333 rfl) ?_
  refine xv (x_iadd 335 d_L_law_334 rfl) ?_
  refine xv (x_iaload 336 d_L_law_335 rfl (G2 h hLo)) ?_
  refine xv (x_aload_n 337 d_L_law_336 rfl rfl) ?_
  refine xv (x_ins1 340 (as := .ref x :: ([.int (zi y1), .int (zi y2)] ++ [.ref (x + 456)])) (rest := []) d_L_law_337 rfl c_9_156 rfl (Nat.le_of_ble_eq_true rfl) (Nat.le_of_ble_eq_true rfl) (Nat.le_of_ble_eq_true rfl) rfl c1) ?_
  refine xv (x_istore 342 d_L_law_340 rfl (Nat.le_of_ble_eq_true rfl)) ?_
  show Xv E q_m_L_law 342 [.ref b, .ref x, .ref (x + 444), .ref (x + 456), .ref (x + 457), .int (zi i), .int (zi t), v7, v8] [] h2 Q
  refine xv (x_aload_n 343 d_L_law_342 rfl rfl) ?_
  refine xv (x_aload_n 344 d_L_law_343 rfl rfl) ?_
  refine xv (x_iload 346 d_L_law_344 rfl rfl) ?_
  refine xv (x_iconst 347 d_L_law_346 rfl) ?_
  refine xv (x_iadd 348 d_L_law_347 rfl) ?_
  refine xv (x_iaload 349 d_L_law_348 rfl (G1 h2 c6)) ?_
  refine xv (x_aload_n 350 d_L_law_349 rfl rfl) ?_
  refine xv (x_iload 352 d_L_law_350 rfl rfl) ?_
  refine xv (x_iconst 353 d_L_law_352 rfl) ?_
  refine xv (x_iadd 354 d_L_law_353 rfl) ?_
  refine xv (x_iaload 355 d_L_law_354 rfl (G2 h2 c6)) ?_
  refine xv (x_inv1 358 (as := [.int (zi y1), .int (zi y2)]) (rest := []) d_L_law_355 rfl c_9_159 rfl (Nat.le_of_ble_eq_true rfl) (Nat.le_of_ble_eq_true rfl) c7 (Nat.le_of_ble_eq_true rfl) (Nat.le_of_ble_eq_true rfl) rfl c2) ?_
  refine xv (x_istore 360 d_L_law_358 rfl (Nat.le_of_ble_eq_true rfl)) ?_
  show Xv E q_m_L_law 360 [.ref b, .ref x, .ref (x + 444), .ref (x + 456), .ref (x + 457), .int (zi i), .int (zi t), .int (zi z), v8] [] h3 Q
  refine xv (x_aload_n 361 d_L_law_360 rfl rfl) ?_
  refine xv (x_inv1 364 (as := []) (rest := []) d_L_law_361 rfl c_9_145 rfl (Nat.le_of_ble_eq_true rfl) (Nat.le_of_ble_eq_true rfl) c8 (Nat.le_of_ble_eq_true rfl) (Nat.le_of_ble_eq_true rfl) rfl c3) ?_
  refine xv (x_iload 366 d_L_law_364 rfl rfl) ?_
  refine v_icmp_eq 371 369 d_L_law_366 rfl rfl (by omega) (by omega) (by omega) (by omega) (fun _ => ?_) (fun k_ => absurd rfl k_)
  refine xv (x_iload 373 d_L_law_371 rfl rfl) ?_
  refine v_if_ne 388 376 d_L_law_373 rfl rfl (by omega) (by omega) (fun _ => xv (x_goto 2399 d_L_law_388 rfl) (nx _ _ _ c9)) (fun kt => ?_)
  refine xv (x_aload_n 377 d_L_law_376 rfl rfl) ?_
  refine xv (x_iconst 378 d_L_law_377 rfl) ?_
  refine xv (x_laload 379 d_L_law_378 rfl (c4 kt)) ?_
  refine xv (x_iload 381 d_L_law_379 rfl rfl) ?_
  refine xv (x_i2l 382 d_L_law_381 rfl) ?_
  refine xv (x_lcmp 383 d_L_law_382 rfl) ?_
  rw [lc_self]
  exact v_if_eq 388 386 d_L_law_383 rfl rfl (by omega) (by omega) (fun _ => xv (x_goto 2399 d_L_law_388 rfl) (nx _ _ _ c9)) (fun k_ => absurd rfl k_)
theorem K_takeOff (I : LI T x N c s h) (hN : N ≤ x) (h0 : 0 ≤ T) (hT1 : T ≤ 90000) (hE : q_EN E N) (hbN : b < N) (hS : E.2 b = some (.int, L, fun j => .int (ys j))) (hL : L ≤ 2560) (hi : 0 ≤ i ∧ i + 5 ≤ L) (next : ∀ h' v6 v7 v8, LI (T + 99) x N (c + 1) (s + 6) h' → Xv E q_m_L_law 2399 [.ref b, .ref x, .ref (x + 444), .ref (x + 456), .ref (x + 457), .int (zi i), v6, v7, v8] [] h' Q) : Xv E q_m_L_law 391 [.ref b, .ref x, .ref (x + 444), .ref (x + 456), .ref (x + 457), .int (zi i), v6, v7, v8] [] h Q := by
  obtain ⟨⟨M, hR⟩, _⟩ := id I
  obtain ⟨fs7, hb7⟩ := rm_o7 hR
  have hLo := I.2.2.1
  obtain ⟨y1, ey1, y10, y11⟩ := zi_of (ys (i + 1).toNat)
  have G1 : ∀ h' : q_H, Lo h' N → q_gI E h' 0 .int b (zi (i + 1)) = some (.int (zi y1)) := fun h' l => by rw [← ey1]; exact gI_s hS hL (l b hbN) (by omega) (by omega)
  obtain ⟨t, z, h2, h3, c1, c2, c3, c4, ⟨c5, c6, fs8, c7⟩, ⟨fs9, c8⟩, t0, t1⟩ := two_i (mL := q_m_L_takeOff) (P_takeOff (E := E) hR h0 y10 y11) I hN (fun r h1 t x0 a1 a2 a3 => H_takeOff a1 a2 hb7 a3)
  have nx := next h3
  have c9 := li_mono (T' := T + 99) c5 (by omega) (by omega) (Nat.le_refl _) (Nat.le_refl _)
  refine xv (x_aload_n 392 d_L_law_391 rfl rfl) ?_
  refine xv (x_aload_n 393 d_L_law_392 rfl rfl) ?_
  refine xv (x_iload 395 d_L_law_393 rfl rfl) ?_
  refine xv (x_iconst 396 d_L_law_395 rfl) ?_
  refine xv (x_iadd 397 d_L_law_396 rfl) ?_
  refine xv (x_iaload 398 d_L_law_397 rfl (G1 h hLo)) ?_
  refine xv (x_aload_n 399 d_L_law_398 rfl rfl) ?_
  refine xv (x_ins1 402 (as := .ref x :: ([.int (zi y1)] ++ [.ref (x + 456)])) (rest := []) d_L_law_399 rfl c_9_160 rfl (Nat.le_of_ble_eq_true rfl) (Nat.le_of_ble_eq_true rfl) (Nat.le_of_ble_eq_true rfl) rfl c1) ?_
  refine xv (x_istore 404 d_L_law_402 rfl (Nat.le_of_ble_eq_true rfl)) ?_
  show Xv E q_m_L_law 404 [.ref b, .ref x, .ref (x + 444), .ref (x + 456), .ref (x + 457), .int (zi i), .int (zi t), v7, v8] [] h2 Q
  refine xv (x_aload_n 405 d_L_law_404 rfl rfl) ?_
  refine xv (x_aload_n 406 d_L_law_405 rfl rfl) ?_
  refine xv (x_iload 408 d_L_law_406 rfl rfl) ?_
  refine xv (x_iconst 409 d_L_law_408 rfl) ?_
  refine xv (x_iadd 410 d_L_law_409 rfl) ?_
  refine xv (x_iaload 411 d_L_law_410 rfl (G1 h2 c6)) ?_
  refine xv (x_inv1 414 (as := [.int (zi y1)]) (rest := []) d_L_law_411 rfl c_9_163 rfl (Nat.le_of_ble_eq_true rfl) (Nat.le_of_ble_eq_true rfl) c7 (Nat.le_of_ble_eq_true rfl) (Nat.le_of_ble_eq_true rfl) rfl c2) ?_
  refine xv (x_istore 416 d_L_law_414 rfl (Nat.le_of_ble_eq_true rfl)) ?_
  show Xv E q_m_L_law 416 [.ref b, .ref x, .ref (x + 444), .ref (x + 456), .ref (x + 457), .int (zi i), .int (zi t), .int (zi z), v8] [] h3 Q
  refine xv (x_aload_n 417 d_L_law_416 rfl rfl) ?_
  refine xv (x_inv1 420 (as := []) (rest := []) d_L_law_417 rfl c_9_145 rfl (Nat.le_of_ble_eq_true rfl) (Nat.le_of_ble_eq_true rfl) c8 (Nat.le_of_ble_eq_true rfl) (Nat.le_of_ble_eq_true rfl) rfl c3) ?_
  refine xv (x_iload 422 d_L_law_420 rfl rfl) ?_
  refine v_icmp_eq 427 425 d_L_law_422 rfl rfl (by omega) (by omega) (by omega) (by omega) (fun _ => ?_) (fun k_ => absurd rfl k_)
  refine xv (x_iload 429 d_L_law_427 rfl rfl) ?_
  refine v_if_ne 444 432 d_L_law_429 rfl rfl (by omega) (by omega) (fun _ => xv (x_goto 2399 d_L_law_444 rfl) (nx _ _ _ c9)) (fun kt => ?_)
  refine xv (x_aload_n 433 d_L_law_432 rfl rfl) ?_
  refine xv (x_iconst 434 d_L_law_433 rfl) ?_
  refine xv (x_laload 435 d_L_law_434 rfl (c4 kt)) ?_
  refine xv (x_iload 437 d_L_law_435 rfl rfl) ?_
  refine xv (x_i2l 438 d_L_law_437 rfl) ?_
  refine xv (x_lcmp 439 d_L_law_438 rfl) ?_
  rw [lc_self]
  exact v_if_eq 444 442 d_L_law_439 rfl rfl (by omega) (by omega) (fun _ => xv (x_goto 2399 d_L_law_444 rfl) (nx _ _ _ c9)) (fun k_ => absurd rfl k_)
theorem K_order (I : LI T x N c s h) (hN : N ≤ x) (h0 : 0 ≤ T) (hT1 : T ≤ 90000) (hE : q_EN E N) (hbN : b < N) (hS : E.2 b = some (.int, L, fun j => .int (ys j))) (hL : L ≤ 2560) (hi : 0 ≤ i ∧ i + 5 ≤ L) (next : ∀ h' v6 v7 v8, LI (T + 99) x N (c + 1) (s + 6) h' → Xv E q_m_L_law 2399 [.ref b, .ref x, .ref (x + 444), .ref (x + 456), .ref (x + 457), .int (zi i), v6, v7, v8] [] h' Q) : Xv E q_m_L_law 447 [.ref b, .ref x, .ref (x + 444), .ref (x + 456), .ref (x + 457), .int (zi i), v6, v7, v8] [] h Q := by
  obtain ⟨⟨M, hR⟩, _⟩ := id I
  obtain ⟨fs7, hb7⟩ := rm_o7 hR
  have hLo := I.2.2.1
  obtain ⟨y1, ey1, y10, y11⟩ := zi_of (ys (i + 1).toNat)
  have G1 : ∀ h' : q_H, Lo h' N → q_gI E h' 0 .int b (zi (i + 1)) = some (.int (zi y1)) := fun h' l => by rw [← ey1]; exact gI_s hS hL (l b hbN) (by omega) (by omega)
  obtain ⟨y2, ey2, y20, y21⟩ := zi_of (ys (i + 2).toNat)
  have G2 : ∀ h' : q_H, Lo h' N → q_gI E h' 0 .int b (zi (i + 2)) = some (.int (zi y2)) := fun h' l => by rw [← ey2]; exact gI_s hS hL (l b hbN) (by omega) (by omega)
  obtain ⟨y3, ey3, y30, y31⟩ := zi_of (ys (i + 3).toNat)
  have G3 : ∀ h' : q_H, Lo h' N → q_gI E h' 0 .int b (zi (i + 3)) = some (.int (zi y3)) := fun h' l => by rw [← ey3]; exact gI_s hS hL (l b hbN) (by omega) (by omega)
  obtain ⟨y4, ey4, y40, y41⟩ := zi_of (ys (i + 4).toNat)
  have G4 : ∀ h' : q_H, Lo h' N → q_gI E h' 0 .int b (zi (i + 4)) = some (.int (zi y4)) := fun h' l => by rw [← ey4]; exact gI_s hS hL (l b hbN) (by omega) (by omega)
  obtain ⟨t, z, h2, h3, c1, c2, c3, c4, ⟨c5, c6, fs8, c7⟩, ⟨fs9, c8⟩, t0, t1⟩ := two_i (mL := q_m_L_order) (P_order (E := E) hR h0 y10 y11 y20 y21 y30 y31 y40 y41) I hN (fun r h1 t x0 a1 a2 a3 => H_order a1 a2 hb7 a3)
  have nx := next h3
  have c9 := li_mono (T' := T + 99) c5 (by omega) (by omega) (Nat.le_refl _) (Nat.le_refl _)
  refine xv (x_aload_n 448 d_L_law_447 rfl rfl) ?_
  refine xv (x_aload_n 449 d_L_law_448 rfl rfl) ?_
  refine xv (x_iload 451 d_L_law_449 rfl rfl) ?_
  refine xv (x_iconst 452 d_L_law_451 rfl) ?_
  refine xv (x_iadd 453 d_L_law_452 rfl) ?_
  refine xv (x_iaload 454 d_L_law_453 rfl (G1 h hLo)) ?_
  refine xv (x_aload_n 455 d_L_law_454 rfl rfl) ?_
  refine xv (x_iload 457 d_L_law_455 rfl rfl) ?_
  refine xv (x_iconst 458 d_L_law_457 rfl) ?_
  refine xv (x_iadd 459 d_L_law_458 rfl) ?_
  refine xv (x_iaload 460 d_L_law_459 rfl (G2 h hLo)) ?_
  refine xv (x_aload_n 461 d_L_law_460 rfl rfl) ?_
  refine xv (x_iload 463 d_L_law_461 rfl rfl) ?_
  refine xv (x_iconst 464 d_L_law_463 rfl) ?_
  refine xv (x_iadd 465 d_L_law_464 rfl) ?_
  refine xv (x_iaload 466 d_L_law_465 rfl (G3 h hLo)) ?_
  refine xv (x_aload_n 467 d_L_law_466 rfl rfl) ?_
  refine xv (x_iload 469 d_L_law_467 rfl rfl) ?_
  refine xv (x_iconst 470 d_L_law_469 rfl) ?_
  refine xv (x_iadd 471 d_L_law_470 rfl) ?_
  refine xv (x_iaload 472 d_L_law_471 rfl (G4 h hLo)) ?_
  refine xv (x_aload_n 473 d_L_law_472 rfl rfl) ?_
  refine xv (x_ins1 476 (as := .ref x :: ([.int (zi y1), .int (zi y2), .int (zi y3), .int (zi y4)] ++ [.ref (x + 456)])) (rest := []) d_L_law_473 rfl c_9_164 rfl (Nat.le_of_ble_eq_true rfl) (Nat.le_of_ble_eq_true rfl) (Nat.le_of_ble_eq_true rfl) rfl c1) ?_
  refine xv (x_istore 478 d_L_law_476 rfl (Nat.le_of_ble_eq_true rfl)) ?_
  show Xv E q_m_L_law 478 [.ref b, .ref x, .ref (x + 444), .ref (x + 456), .ref (x + 457), .int (zi i), .int (zi t), v7, v8] [] h2 Q
  refine xv (x_aload_n 479 d_L_law_478 rfl rfl) ?_
  refine xv (x_aload_n 480 d_L_law_479 rfl rfl) ?_
  refine xv (x_iload 482 d_L_law_480 rfl rfl) ?_
  refine xv (x_iconst 483 d_L_law_482 rfl) ?_
  refine xv (x_iadd 484 d_L_law_483 rfl) ?_
  refine xv (x_iaload 485 d_L_law_484 rfl (G1 h2 c6)) ?_
  refine xv (x_aload_n 486 d_L_law_485 rfl rfl) ?_
  refine xv (x_iload 488 d_L_law_486 rfl rfl) ?_
  refine xv (x_iconst 489 d_L_law_488 rfl) ?_
  refine xv (x_iadd 490 d_L_law_489 rfl) ?_
  refine xv (x_iaload 491 d_L_law_490 rfl (G2 h2 c6)) ?_
  refine xv (x_aload_n 492 d_L_law_491 rfl rfl) ?_
  refine xv (x_iload 494 d_L_law_492 rfl rfl) ?_
  refine xv (x_iconst 495 d_L_law_494 rfl) ?_
  refine xv (x_iadd 496 d_L_law_495 rfl) ?_
  refine xv (x_iaload 497 d_L_law_496 rfl (G3 h2 c6)) ?_
  refine xv (x_aload_n 498 d_L_law_497 rfl rfl) ?_
  refine xv (x_iload 500 d_L_law_498 rfl rfl) ?_
  refine xv (x_iconst 501 d_L_law_500 rfl) ?_
  refine xv (x_iadd 502 d_L_law_501 rfl) ?_
  refine xv (x_iaload 503 d_L_law_502 rfl (G4 h2 c6)) ?_
  refine xv (x_inv1 506 (as := [.int (zi y1), .int (zi y2), .int (zi y3), .int (zi y4)]) (rest := []) d_L_law_503 rfl c_9_167 rfl (Nat.le_of_ble_eq_true rfl) (Nat.le_of_ble_eq_true rfl) c7 (Nat.le_of_ble_eq_true rfl) (Nat.le_of_ble_eq_true rfl) rfl c2) ?_
  refine xv (x_istore 508 d_L_law_506 rfl (Nat.le_of_ble_eq_true rfl)) ?_
  show Xv E q_m_L_law 508 [.ref b, .ref x, .ref (x + 444), .ref (x + 456), .ref (x + 457), .int (zi i), .int (zi t), .int (zi z), v8] [] h3 Q
  refine xv (x_aload_n 509 d_L_law_508 rfl rfl) ?_
  refine xv (x_inv1 512 (as := []) (rest := []) d_L_law_509 rfl c_9_145 rfl (Nat.le_of_ble_eq_true rfl) (Nat.le_of_ble_eq_true rfl) c8 (Nat.le_of_ble_eq_true rfl) (Nat.le_of_ble_eq_true rfl) rfl c3) ?_
  refine xv (x_iload 514 d_L_law_512 rfl rfl) ?_
  refine v_icmp_eq 519 517 d_L_law_514 rfl rfl (by omega) (by omega) (by omega) (by omega) (fun _ => ?_) (fun k_ => absurd rfl k_)
  refine xv (x_iload 521 d_L_law_519 rfl rfl) ?_
  refine v_if_ne 536 524 d_L_law_521 rfl rfl (by omega) (by omega) (fun _ => xv (x_goto 2399 d_L_law_536 rfl) (nx _ _ _ c9)) (fun kt => ?_)
  refine xv (x_aload_n 525 d_L_law_524 rfl rfl) ?_
  refine xv (x_iconst 526 d_L_law_525 rfl) ?_
  refine xv (x_laload 527 d_L_law_526 rfl (c4 kt)) ?_
  refine xv (x_iload 529 d_L_law_527 rfl rfl) ?_
  refine xv (x_i2l 530 d_L_law_529 rfl) ?_
  refine xv (x_lcmp 531 d_L_law_530 rfl) ?_
  rw [lc_self]
  exact v_if_eq 536 534 d_L_law_531 rfl rfl (by omega) (by omega) (fun _ => xv (x_goto 2399 d_L_law_536 rfl) (nx _ _ _ c9)) (fun k_ => absurd rfl k_)
theorem K_assign (I : LI T x N c s h) (hN : N ≤ x) (h0 : 0 ≤ T) (hT1 : T ≤ 90000) (hE : q_EN E N) (hbN : b < N) (hS : E.2 b = some (.int, L, fun j => .int (ys j))) (hL : L ≤ 2560) (hi : 0 ≤ i ∧ i + 5 ≤ L) (next : ∀ h' v6 v7 v8, LI (T + 99) x N (c + 1) (s + 6) h' → Xv E q_m_L_law 2399 [.ref b, .ref x, .ref (x + 444), .ref (x + 456), .ref (x + 457), .int (zi i), v6, v7, v8] [] h' Q) : Xv E q_m_L_law 539 [.ref b, .ref x, .ref (x + 444), .ref (x + 456), .ref (x + 457), .int (zi i), v6, v7, v8] [] h Q := by
  obtain ⟨⟨M, hR⟩, _⟩ := id I
  obtain ⟨fs7, hb7⟩ := rm_o7 hR
  have hLo := I.2.2.1
  obtain ⟨y1, ey1, y10, y11⟩ := zi_of (ys (i + 1).toNat)
  have G1 : ∀ h' : q_H, Lo h' N → q_gI E h' 0 .int b (zi (i + 1)) = some (.int (zi y1)) := fun h' l => by rw [← ey1]; exact gI_s hS hL (l b hbN) (by omega) (by omega)
  obtain ⟨y2, ey2, y20, y21⟩ := zi_of (ys (i + 2).toNat)
  have G2 : ∀ h' : q_H, Lo h' N → q_gI E h' 0 .int b (zi (i + 2)) = some (.int (zi y2)) := fun h' l => by rw [← ey2]; exact gI_s hS hL (l b hbN) (by omega) (by omega)
  obtain ⟨t, z, h2, h3, c1, c2, c3, c4, ⟨c5, c6, fs8, c7⟩, ⟨fs9, c8⟩, t0, t1⟩ := two_i (mL := q_m_L_assign) (P_assign (E := E) hR h0 y10 y11 y20 y21) I hN (fun r h1 t x0 a1 a2 a3 => H_assign a1 a2 hb7 a3)
  have nx := next h3
  have c9 := li_mono (T' := T + 99) c5 (by omega) (by omega) (Nat.le_refl _) (Nat.le_refl _)
  refine xv (x_aload_n 540 d_L_law_539 rfl rfl) ?_
  refine xv (x_aload_n 541 d_L_law_540 rfl rfl) ?_
  refine xv (x_iload 543 d_L_law_541 rfl rfl) ?_
  refine xv (x_iconst 544 d_L_law_543 rfl) ?_
  refine xv (x_iadd 545 d_L_law_544 rfl) ?_
  refine xv (x_iaload 546 d_L_law_545 rfl (G1 h hLo)) ?_
  refine xv (x_aload_n 547 d_L_law_546 rfl rfl) ?_
  refine xv (x_iload 549 d_L_law_547 rfl rfl) ?_
  refine xv (x_iconst 550 d_L_law_549 rfl) ?_
  refine xv (x_iadd 551 d_L_law_550 rfl) ?_
  refine xv (x_iaload 552 d_L_law_551 rfl (G2 h hLo)) ?_
  refine xv (x_aload_n 553 d_L_law_552 rfl rfl) ?_
  refine xv (x_ins1 556 (as := .ref x :: ([.int (zi y1), .int (zi y2)] ++ [.ref (x + 456)])) (rest := []) d_L_law_553 rfl c_9_168 rfl (Nat.le_of_ble_eq_true rfl) (Nat.le_of_ble_eq_true rfl) (Nat.le_of_ble_eq_true rfl) rfl c1) ?_
  refine xv (x_istore 558 d_L_law_556 rfl (Nat.le_of_ble_eq_true rfl)) ?_
  show Xv E q_m_L_law 558 [.ref b, .ref x, .ref (x + 444), .ref (x + 456), .ref (x + 457), .int (zi i), .int (zi t), v7, v8] [] h2 Q
  refine xv (x_aload_n 559 d_L_law_558 rfl rfl) ?_
  refine xv (x_aload_n 560 d_L_law_559 rfl rfl) ?_
  refine xv (x_iload 562 d_L_law_560 rfl rfl) ?_
  refine xv (x_iconst 563 d_L_law_562 rfl) ?_
  refine xv (x_iadd 564 d_L_law_563 rfl) ?_
  refine xv (x_iaload 565 d_L_law_564 rfl (G1 h2 c6)) ?_
  refine xv (x_aload_n 566 d_L_law_565 rfl rfl) ?_
  refine xv (x_iload 568 d_L_law_566 rfl rfl) ?_
  refine xv (x_iconst 569 d_L_law_568 rfl) ?_
  refine xv (x_iadd 570 d_L_law_569 rfl) ?_
  refine xv (x_iaload 571 d_L_law_570 rfl (G2 h2 c6)) ?_
  refine xv (x_inv1 574 (as := [.int (zi y1), .int (zi y2)]) (rest := []) d_L_law_571 rfl c_9_170 rfl (Nat.le_of_ble_eq_true rfl) (Nat.le_of_ble_eq_true rfl) c7 (Nat.le_of_ble_eq_true rfl) (Nat.le_of_ble_eq_true rfl) rfl c2) ?_
  refine xv (x_istore 576 d_L_law_574 rfl (Nat.le_of_ble_eq_true rfl)) ?_
  show Xv E q_m_L_law 576 [.ref b, .ref x, .ref (x + 444), .ref (x + 456), .ref (x + 457), .int (zi i), .int (zi t), .int (zi z), v8] [] h3 Q
  refine xv (x_aload_n 577 d_L_law_576 rfl rfl) ?_
  refine xv (x_inv1 580 (as := []) (rest := []) d_L_law_577 rfl c_9_145 rfl (Nat.le_of_ble_eq_true rfl) (Nat.le_of_ble_eq_true rfl) c8 (Nat.le_of_ble_eq_true rfl) (Nat.le_of_ble_eq_true rfl) rfl c3) ?_
  refine xv (x_iload 582 d_L_law_580 rfl rfl) ?_
  refine v_icmp_eq 587 585 d_L_law_582 rfl rfl (by omega) (by omega) (by omega) (by omega) (fun _ => ?_) (fun k_ => absurd rfl k_)
  refine xv (x_iload 589 d_L_law_587 rfl rfl) ?_
  refine v_if_ne 604 592 d_L_law_589 rfl rfl (by omega) (by omega) (fun _ => xv (x_goto 2399 d_L_law_604 rfl) (nx _ _ _ c9)) (fun kt => ?_)
  refine xv (x_aload_n 593 d_L_law_592 rfl rfl) ?_
  refine xv (x_iconst 594 d_L_law_593 rfl) ?_
  refine xv (x_laload 595 d_L_law_594 rfl (c4 kt)) ?_
  refine xv (x_iload 597 d_L_law_595 rfl rfl) ?_
  refine xv (x_i2l 598 d_L_law_597 rfl) ?_
  refine xv (x_lcmp 599 d_L_law_598 rfl) ?_
  rw [lc_self]
  exact v_if_eq 604 602 d_L_law_599 rfl rfl (by omega) (by omega) (fun _ => xv (x_goto 2399 d_L_law_604 rfl) (nx _ _ _ c9)) (fun k_ => absurd rfl k_)
theorem K_release (I : LI T x N c s h) (hN : N ≤ x) (h0 : 0 ≤ T) (hT1 : T ≤ 90000) (hE : q_EN E N) (hbN : b < N) (hS : E.2 b = some (.int, L, fun j => .int (ys j))) (hL : L ≤ 2560) (hi : 0 ≤ i ∧ i + 5 ≤ L) (next : ∀ h' v6 v7 v8, LI (T + 99) x N (c + 1) (s + 6) h' → Xv E q_m_L_law 2399 [.ref b, .ref x, .ref (x + 444), .ref (x + 456), .ref (x + 457), .int (zi i), v6, v7, v8] [] h' Q) : Xv E q_m_L_law 607 [.ref b, .ref x, .ref (x + 444), .ref (x + 456), .ref (x + 457), .int (zi i), v6, v7, v8] [] h Q := by
  obtain ⟨⟨M, hR⟩, _⟩ := id I
  obtain ⟨fs7, hb7⟩ := rm_o7 hR
  have hLo := I.2.2.1
  obtain ⟨y1, ey1, y10, y11⟩ := zi_of (ys (i + 1).toNat)
  have G1 : ∀ h' : q_H, Lo h' N → q_gI E h' 0 .int b (zi (i + 1)) = some (.int (zi y1)) := fun h' l => by rw [← ey1]; exact gI_s hS hL (l b hbN) (by omega) (by omega)
  obtain ⟨t, z, h2, h3, c1, c2, c3, c4, ⟨c5, c6, fs8, c7⟩, ⟨fs9, c8⟩, t0, t1⟩ := two_i (mL := q_m_L_release) (P_release (E := E) hR h0 y10 y11) I hN (fun r h1 t x0 a1 a2 a3 => H_release a1 a2 hb7 a3)
  have nx := next h3
  have c9 := li_mono (T' := T + 99) c5 (by omega) (by omega) (Nat.le_refl _) (Nat.le_refl _)
  refine xv (x_aload_n 608 d_L_law_607 rfl rfl) ?_
  refine xv (x_aload_n 609 d_L_law_608 rfl rfl) ?_
  refine xv (x_iload 611 d_L_law_609 rfl rfl) ?_
  refine xv (x_iconst 612 d_L_law_611 rfl) ?_
  refine xv (x_iadd 613 d_L_law_612 rfl) ?_
  refine xv (x_iaload 614 d_L_law_613 rfl (G1 h hLo)) ?_
  refine xv (x_aload_n 615 d_L_law_614 rfl rfl) ?_
  refine xv (x_ins1 618 (as := .ref x :: ([.int (zi y1)] ++ [.ref (x + 456)])) (rest := []) d_L_law_615 rfl c_9_171 rfl (Nat.le_of_ble_eq_true rfl) (Nat.le_of_ble_eq_true rfl) (Nat.le_of_ble_eq_true rfl) rfl c1) ?_
  refine xv (x_istore 620 d_L_law_618 rfl (Nat.le_of_ble_eq_true rfl)) ?_
  show Xv E q_m_L_law 620 [.ref b, .ref x, .ref (x + 444), .ref (x + 456), .ref (x + 457), .int (zi i), .int (zi t), v7, v8] [] h2 Q
  refine xv (x_aload_n 621 d_L_law_620 rfl rfl) ?_
  refine xv (x_aload_n 622 d_L_law_621 rfl rfl) ?_
  refine xv (x_iload 624 d_L_law_622 rfl rfl) ?_
  refine xv (x_iconst 625 d_L_law_624 rfl) ?_
  refine xv (x_iadd 626 d_L_law_625 rfl) ?_
  refine xv (x_iaload 627 d_L_law_626 rfl (G1 h2 c6)) ?_
  refine xv (x_inv1 630 (as := [.int (zi y1)]) (rest := []) d_L_law_627 rfl c_9_173 rfl (Nat.le_of_ble_eq_true rfl) (Nat.le_of_ble_eq_true rfl) c7 (Nat.le_of_ble_eq_true rfl) (Nat.le_of_ble_eq_true rfl) rfl c2) ?_
  refine xv (x_istore 632 d_L_law_630 rfl (Nat.le_of_ble_eq_true rfl)) ?_
  show Xv E q_m_L_law 632 [.ref b, .ref x, .ref (x + 444), .ref (x + 456), .ref (x + 457), .int (zi i), .int (zi t), .int (zi z), v8] [] h3 Q
  refine xv (x_aload_n 633 d_L_law_632 rfl rfl) ?_
  refine xv (x_inv1 636 (as := []) (rest := []) d_L_law_633 rfl c_9_145 rfl (Nat.le_of_ble_eq_true rfl) (Nat.le_of_ble_eq_true rfl) c8 (Nat.le_of_ble_eq_true rfl) (Nat.le_of_ble_eq_true rfl) rfl c3) ?_
  refine xv (x_iload 638 d_L_law_636 rfl rfl) ?_
  refine v_icmp_eq 643 641 d_L_law_638 rfl rfl (by omega) (by omega) (by omega) (by omega) (fun _ => ?_) (fun k_ => absurd rfl k_)
  refine xv (x_iload 645 d_L_law_643 rfl rfl) ?_
  refine v_if_ne 660 648 d_L_law_645 rfl rfl (by omega) (by omega) (fun _ => xv (x_goto 2399 d_L_law_660 rfl) (nx _ _ _ c9)) (fun kt => ?_)
  refine xv (x_aload_n 649 d_L_law_648 rfl rfl) ?_
  refine xv (x_iconst 650 d_L_law_649 rfl) ?_
  refine xv (x_laload 651 d_L_law_650 rfl (c4 kt)) ?_
  refine xv (x_iload 653 d_L_law_651 rfl rfl) ?_
  refine xv (x_i2l 654 d_L_law_653 rfl) ?_
  refine xv (x_lcmp 655 d_L_law_654 rfl) ?_
  rw [lc_self]
  exact v_if_eq 660 658 d_L_law_655 rfl rfl (by omega) (by omega) (fun _ => xv (x_goto 2399 d_L_law_660 rfl) (nx _ _ _ c9)) (fun k_ => absurd rfl k_)
theorem K_close (I : LI T x N c s h) (hN : N ≤ x) (h0 : 0 ≤ T) (hT1 : T ≤ 90000) (hE : q_EN E N) (hbN : b < N) (hS : E.2 b = some (.int, L, fun j => .int (ys j))) (hL : L ≤ 2560) (hi : 0 ≤ i ∧ i + 5 ≤ L) (next : ∀ h' v6 v7 v8, LI (T + 99) x N (c + 1) (s + 6) h' → Xv E q_m_L_law 2399 [.ref b, .ref x, .ref (x + 444), .ref (x + 456), .ref (x + 457), .int (zi i), v6, v7, v8] [] h' Q) : Xv E q_m_L_law 663 [.ref b, .ref x, .ref (x + 444), .ref (x + 456), .ref (x + 457), .int (zi i), v6, v7, v8] [] h Q := by
  obtain ⟨⟨M, hR⟩, _⟩ := id I
  obtain ⟨fs7, hb7⟩ := rm_o7 hR
  have hLo := I.2.2.1
  obtain ⟨y1, ey1, y10, y11⟩ := zi_of (ys (i + 1).toNat)
  have G1 : ∀ h' : q_H, Lo h' N → q_gI E h' 0 .int b (zi (i + 1)) = some (.int (zi y1)) := fun h' l => by rw [← ey1]; exact gI_s hS hL (l b hbN) (by omega) (by omega)
  obtain ⟨t, z, h2, h3, c1, c2, c3, c4, ⟨c5, c6, fs8, c7⟩, ⟨fs9, c8⟩, t0, t1⟩ := two_i (mL := q_m_L_close) (P_close (E := E) hR h0 y10 y11) I hN (fun r h1 t x0 a1 a2 a3 => H_close a1 a2 hb7 a3)
  have nx := next h3
  have c9 := li_mono (T' := T + 99) c5 (by omega) (by omega) (Nat.le_refl _) (Nat.le_refl _)
  refine xv (x_aload_n 664 d_L_law_663 rfl rfl) ?_
  refine xv (x_aload_n 665 d_L_law_664 rfl rfl) ?_
  refine xv (x_iload 667 d_L_law_665 rfl rfl) ?_
  refine xv (x_iconst 668 d_L_law_667 rfl) ?_
  refine xv (x_iadd 669 d_L_law_668 rfl) ?_
  refine xv (x_iaload 670 d_L_law_669 rfl (G1 h hLo)) ?_
  refine xv (x_aload_n 671 d_L_law_670 rfl rfl) ?_
  refine xv (x_ins1 674 (as := .ref x :: ([.int (zi y1)] ++ [.ref (x + 456)])) (rest := []) d_L_law_671 rfl c_9_174 rfl (Nat.le_of_ble_eq_true rfl) (Nat.le_of_ble_eq_true rfl) (Nat.le_of_ble_eq_true rfl) rfl c1) ?_
  refine xv (x_istore 676 d_L_law_674 rfl (Nat.le_of_ble_eq_true rfl)) ?_
  show Xv E q_m_L_law 676 [.ref b, .ref x, .ref (x + 444), .ref (x + 456), .ref (x + 457), .int (zi i), .int (zi t), v7, v8] [] h2 Q
  refine xv (x_aload_n 677 d_L_law_676 rfl rfl) ?_
  refine xv (x_aload_n 678 d_L_law_677 rfl rfl) ?_
  refine xv (x_iload 680 d_L_law_678 rfl rfl) ?_
  refine xv (x_iconst 681 d_L_law_680 rfl) ?_
  refine xv (x_iadd 682 d_L_law_681 rfl) ?_
  refine xv (x_iaload 683 d_L_law_682 rfl (G1 h2 c6)) ?_
  refine xv (x_inv1 686 (as := [.int (zi y1)]) (rest := []) d_L_law_683 rfl c_9_176 rfl (Nat.le_of_ble_eq_true rfl) (Nat.le_of_ble_eq_true rfl) c7 (Nat.le_of_ble_eq_true rfl) (Nat.le_of_ble_eq_true rfl) rfl c2) ?_
  refine xv (x_istore 688 d_L_law_686 rfl (Nat.le_of_ble_eq_true rfl)) ?_
  show Xv E q_m_L_law 688 [.ref b, .ref x, .ref (x + 444), .ref (x + 456), .ref (x + 457), .int (zi i), .int (zi t), .int (zi z), v8] [] h3 Q
  refine xv (x_aload_n 689 d_L_law_688 rfl rfl) ?_
  refine xv (x_inv1 692 (as := []) (rest := []) d_L_law_689 rfl c_9_145 rfl (Nat.le_of_ble_eq_true rfl) (Nat.le_of_ble_eq_true rfl) c8 (Nat.le_of_ble_eq_true rfl) (Nat.le_of_ble_eq_true rfl) rfl c3) ?_
  refine xv (x_iload 694 d_L_law_692 rfl rfl) ?_
  refine v_icmp_eq 699 697 d_L_law_694 rfl rfl (by omega) (by omega) (by omega) (by omega) (fun _ => ?_) (fun k_ => absurd rfl k_)
  refine xv (x_iload 701 d_L_law_699 rfl rfl) ?_
  refine v_if_ne 716 704 d_L_law_701 rfl rfl (by omega) (by omega) (fun _ => xv (x_goto 2399 d_L_law_716 rfl) (nx _ _ _ c9)) (fun kt => ?_)
  refine xv (x_aload_n 705 d_L_law_704 rfl rfl) ?_
  refine xv (x_iconst 706 d_L_law_705 rfl) ?_
  refine xv (x_laload 707 d_L_law_706 rfl (c4 kt)) ?_
  refine xv (x_iload 709 d_L_law_707 rfl rfl) ?_
  refine xv (x_i2l 710 d_L_law_709 rfl) ?_
  refine xv (x_lcmp 711 d_L_law_710 rfl) ?_
  rw [lc_self]
  exact v_if_eq 716 714 d_L_law_711 rfl rfl (by omega) (by omega) (fun _ => xv (x_goto 2399 d_L_law_716 rfl) (nx _ _ _ c9)) (fun k_ => absurd rfl k_)
theorem K_open (I : LI T x N c s h) (hN : N ≤ x) (h0 : 0 ≤ T) (hT1 : T ≤ 90000) (hE : q_EN E N) (hbN : b < N) (hS : E.2 b = some (.int, L, fun j => .int (ys j))) (hL : L ≤ 2560) (hi : 0 ≤ i ∧ i + 5 ≤ L) (next : ∀ h' v6 v7 v8, LI (T + 99) x N (c + 1) (s + 6) h' → Xv E q_m_L_law 2399 [.ref b, .ref x, .ref (x + 444), .ref (x + 456), .ref (x + 457), .int (zi i), v6, v7, v8] [] h' Q) : Xv E q_m_L_law 719 [.ref b, .ref x, .ref (x + 444), .ref (x + 456), .ref (x + 457), .int (zi i), v6, v7, v8] [] h Q := by
  obtain ⟨⟨M, hR⟩, _⟩ := id I
  obtain ⟨fs7, hb7⟩ := rm_o7 hR
  have hLo := I.2.2.1
  obtain ⟨y1, ey1, y10, y11⟩ := zi_of (ys (i + 1).toNat)
  have G1 : ∀ h' : q_H, Lo h' N → q_gI E h' 0 .int b (zi (i + 1)) = some (.int (zi y1)) := fun h' l => by rw [← ey1]; exact gI_s hS hL (l b hbN) (by omega) (by omega)
  obtain ⟨t, z, h2, h3, c1, c2, c3, c4, ⟨c5, c6, fs8, c7⟩, ⟨fs9, c8⟩, t0, t1⟩ := two_i (mL := q_m_L_open) (P_open (E := E) hR h0 y10 y11) I hN (fun r h1 t x0 a1 a2 a3 => H_open a1 a2 hb7 a3)
  have nx := next h3
  have c9 := li_mono (T' := T + 99) c5 (by omega) (by omega) (Nat.le_refl _) (Nat.le_refl _)
  refine xv (x_aload_n 720 d_L_law_719 rfl rfl) ?_
  refine xv (x_aload_n 721 d_L_law_720 rfl rfl) ?_
  refine xv (x_iload 723 d_L_law_721 rfl rfl) ?_
  refine xv (x_iconst 724 d_L_law_723 rfl) ?_
  refine xv (x_iadd 725 d_L_law_724 rfl) ?_
  refine xv (x_iaload 726 d_L_law_725 rfl (G1 h hLo)) ?_
  refine xv (x_aload_n 727 d_L_law_726 rfl rfl) ?_
  refine xv (x_ins1 730 (as := .ref x :: ([.int (zi y1)] ++ [.ref (x + 456)])) (rest := []) d_L_law_727 rfl c_9_177 rfl (Nat.le_of_ble_eq_true rfl) (Nat.le_of_ble_eq_true rfl) (Nat.le_of_ble_eq_true rfl) rfl c1) ?_
  refine xv (x_istore 732 d_L_law_730 rfl (Nat.le_of_ble_eq_true rfl)) ?_
  show Xv E q_m_L_law 732 [.ref b, .ref x, .ref (x + 444), .ref (x + 456), .ref (x + 457), .int (zi i), .int (zi t), v7, v8] [] h2 Q
  refine xv (x_aload_n 733 d_L_law_732 rfl rfl) ?_
  refine xv (x_aload_n 734 d_L_law_733 rfl rfl) ?_
  refine xv (x_iload 736 d_L_law_734 rfl rfl) ?_
  refine xv (x_iconst 737 d_L_law_736 rfl) ?_
  refine xv (x_iadd 738 d_L_law_737 rfl) ?_
  refine xv (x_iaload 739 d_L_law_738 rfl (G1 h2 c6)) ?_
  refine xv (x_inv1 742 (as := [.int (zi y1)]) (rest := []) d_L_law_739 rfl c_9_179 rfl (Nat.le_of_ble_eq_true rfl) (Nat.le_of_ble_eq_true rfl) c7 (Nat.le_of_ble_eq_true rfl) (Nat.le_of_ble_eq_true rfl) rfl c2) ?_
  refine xv (x_istore 744 d_L_law_742 rfl (Nat.le_of_ble_eq_true rfl)) ?_
  show Xv E q_m_L_law 744 [.ref b, .ref x, .ref (x + 444), .ref (x + 456), .ref (x + 457), .int (zi i), .int (zi t), .int (zi z), v8] [] h3 Q
  refine xv (x_aload_n 745 d_L_law_744 rfl rfl) ?_
  refine xv (x_inv1 748 (as := []) (rest := []) d_L_law_745 rfl c_9_145 rfl (Nat.le_of_ble_eq_true rfl) (Nat.le_of_ble_eq_true rfl) c8 (Nat.le_of_ble_eq_true rfl) (Nat.le_of_ble_eq_true rfl) rfl c3) ?_
  refine xv (x_iload 750 d_L_law_748 rfl rfl) ?_
  refine v_icmp_eq 755 753 d_L_law_750 rfl rfl (by omega) (by omega) (by omega) (by omega) (fun _ => ?_) (fun k_ => absurd rfl k_)
  refine xv (x_iload 757 d_L_law_755 rfl rfl) ?_
  refine v_if_ne 772 760 d_L_law_757 rfl rfl (by omega) (by omega) (fun _ => xv (x_goto 2399 d_L_law_772 rfl) (nx _ _ _ c9)) (fun kt => ?_)
  refine xv (x_aload_n 761 d_L_law_760 rfl rfl) ?_
  refine xv (x_iconst 762 d_L_law_761 rfl) ?_
  refine xv (x_laload 763 d_L_law_762 rfl (c4 kt)) ?_
  refine xv (x_iload 765 d_L_law_763 rfl rfl) ?_
  refine xv (x_i2l 766 d_L_law_765 rfl) ?_
  refine xv (x_lcmp 767 d_L_law_766 rfl) ?_
  rw [lc_self]
  exact v_if_eq 772 770 d_L_law_767 rfl rfl (by omega) (by omega) (fun _ => xv (x_goto 2399 d_L_law_772 rfl) (nx _ _ _ c9)) (fun k_ => absurd rfl k_)
theorem K_set (I : LI T x N c s h) (hN : N ≤ x) (h0 : 0 ≤ T) (hT1 : T ≤ 90000) (hE : q_EN E N) (hbN : b < N) (hS : E.2 b = some (.int, L, fun j => .int (ys j))) (hL : L ≤ 2560) (hi : 0 ≤ i ∧ i + 5 ≤ L) (next : ∀ h' v6 v7 v8, LI (T + 99) x N (c + 1) (s + 6) h' → Xv E q_m_L_law 2399 [.ref b, .ref x, .ref (x + 444), .ref (x + 456), .ref (x + 457), .int (zi i), v6, v7, v8] [] h' Q) : Xv E q_m_L_law 775 [.ref b, .ref x, .ref (x + 444), .ref (x + 456), .ref (x + 457), .int (zi i), v6, v7, v8] [] h Q := by
  obtain ⟨⟨M, hR⟩, _⟩ := id I
  obtain ⟨fs7, hb7⟩ := rm_o7 hR
  have hLo := I.2.2.1
  obtain ⟨y1, ey1, y10, y11⟩ := zi_of (ys (i + 1).toNat)
  have G1 : ∀ h' : q_H, Lo h' N → q_gI E h' 0 .int b (zi (i + 1)) = some (.int (zi y1)) := fun h' l => by rw [← ey1]; exact gI_s hS hL (l b hbN) (by omega) (by omega)
  obtain ⟨y2, ey2, y20, y21⟩ := zi_of (ys (i + 2).toNat)
  have G2 : ∀ h' : q_H, Lo h' N → q_gI E h' 0 .int b (zi (i + 2)) = some (.int (zi y2)) := fun h' l => by rw [← ey2]; exact gI_s hS hL (l b hbN) (by omega) (by omega)
  obtain ⟨t, z, h2, h3, c1, c2, c3, c4, ⟨c5, c6, fs8, c7⟩, ⟨fs9, c8⟩, t0, t1⟩ := two_i (mL := q_m_L_set) (P_set (E := E) hR h0 hE hLo hN y10 y11 y20 y21) I hN (fun r h1 t x0 a1 a2 a3 => H_set a1 a2 hb7 a3)
  have nx := next h3
  have c9 := li_mono (T' := T + 99) c5 (by omega) (by omega) (Nat.le_refl _) (Nat.le_refl _)
  refine xv (x_aload_n 776 d_L_law_775 rfl rfl) ?_
  refine xv (x_aload_n 777 d_L_law_776 rfl rfl) ?_
  refine xv (x_iload 779 d_L_law_777 rfl rfl) ?_
  refine xv (x_iconst 780 d_L_law_779 rfl) ?_
  refine xv (x_iadd 781 d_L_law_780 rfl) ?_
  refine xv (x_iaload 782 d_L_law_781 rfl (G1 h hLo)) ?_
  refine xv (x_aload_n 783 d_L_law_782 rfl rfl) ?_
  refine xv (x_iload 785 d_L_law_783 rfl rfl) ?_
  refine xv (x_iconst 786 d_L_law_785 rfl) ?_
  refine xv (x_iadd 787 d_L_law_786 rfl) ?_
  refine xv (x_iaload 788 d_L_law_787 rfl (G2 h hLo)) ?_
  refine xv (x_aload_n 789 d_L_law_788 rfl rfl) ?_
  refine xv (x_ins1 792 (as := .ref x :: ([.int (zi y1), .int (zi y2)] ++ [.ref (x + 456)])) (rest := []) d_L_law_789 rfl c_9_180 rfl (Nat.le_of_ble_eq_true rfl) (Nat.le_of_ble_eq_true rfl) (Nat.le_of_ble_eq_true rfl) rfl c1) ?_
  refine xv (x_istore 794 d_L_law_792 rfl (Nat.le_of_ble_eq_true rfl)) ?_
  show Xv E q_m_L_law 794 [.ref b, .ref x, .ref (x + 444), .ref (x + 456), .ref (x + 457), .int (zi i), .int (zi t), v7, v8] [] h2 Q
  refine xv (x_aload_n 795 d_L_law_794 rfl rfl) ?_
  refine xv (x_aload_n 796 d_L_law_795 rfl rfl) ?_
  refine xv (x_iload 798 d_L_law_796 rfl rfl) ?_
  refine xv (x_iconst 799 d_L_law_798 rfl) ?_
  refine xv (x_iadd 800 d_L_law_799 rfl) ?_
  refine xv (x_iaload 801 d_L_law_800 rfl (G1 h2 c6)) ?_
  refine xv (x_aload_n 802 d_L_law_801 rfl rfl) ?_
  refine xv (x_iload 804 d_L_law_802 rfl rfl) ?_
  refine xv (x_iconst 805 d_L_law_804 rfl) ?_
  refine xv (x_iadd 806 d_L_law_805 rfl) ?_
  refine xv (x_iaload 807 d_L_law_806 rfl (G2 h2 c6)) ?_
  refine xv (x_inv1 810 (as := [.int (zi y1), .int (zi y2)]) (rest := []) d_L_law_807 rfl c_9_182 rfl (Nat.le_of_ble_eq_true rfl) (Nat.le_of_ble_eq_true rfl) c7 (Nat.le_of_ble_eq_true rfl) (Nat.le_of_ble_eq_true rfl) rfl c2) ?_
  refine xv (x_istore 812 d_L_law_810 rfl (Nat.le_of_ble_eq_true rfl)) ?_
  show Xv E q_m_L_law 812 [.ref b, .ref x, .ref (x + 444), .ref (x + 456), .ref (x + 457), .int (zi i), .int (zi t), .int (zi z), v8] [] h3 Q
  refine xv (x_aload_n 813 d_L_law_812 rfl rfl) ?_
  refine xv (x_inv1 816 (as := []) (rest := []) d_L_law_813 rfl c_9_145 rfl (Nat.le_of_ble_eq_true rfl) (Nat.le_of_ble_eq_true rfl) c8 (Nat.le_of_ble_eq_true rfl) (Nat.le_of_ble_eq_true rfl) rfl c3) ?_
  refine xv (x_iload 818 d_L_law_816 rfl rfl) ?_
  refine v_icmp_eq 823 821 d_L_law_818 rfl rfl (by omega) (by omega) (by omega) (by omega) (fun _ => ?_) (fun k_ => absurd rfl k_)
  refine xv (x_iload 825 d_L_law_823 rfl rfl) ?_
  refine v_if_ne 840 828 d_L_law_825 rfl rfl (by omega) (by omega) (fun _ => xv (x_goto 2399 d_L_law_840 rfl) (nx _ _ _ c9)) (fun kt => ?_)
  refine xv (x_aload_n 829 d_L_law_828 rfl rfl) ?_
  refine xv (x_iconst 830 d_L_law_829 rfl) ?_
  refine xv (x_laload 831 d_L_law_830 rfl (c4 kt)) ?_
  refine xv (x_iload 833 d_L_law_831 rfl rfl) ?_
  refine xv (x_i2l 834 d_L_law_833 rfl) ?_
  refine xv (x_lcmp 835 d_L_law_834 rfl) ?_
  rw [lc_self]
  exact v_if_eq 840 838 d_L_law_835 rfl rfl (by omega) (by omega) (fun _ => xv (x_goto 2399 d_L_law_840 rfl) (nx _ _ _ c9)) (fun k_ => absurd rfl k_)
theorem K_plan (I : LI T x N c s h) (hN : N ≤ x) (h0 : 0 ≤ T) (hT1 : T ≤ 90000) (hE : q_EN E N) (hbN : b < N) (hS : E.2 b = some (.int, L, fun j => .int (ys j))) (hL : L ≤ 2560) (hi : 0 ≤ i ∧ i + 5 ≤ L) (next : ∀ h' v6 v7 v8, LI (T + 99) x N (c + 1) (s + 6) h' → Xv E q_m_L_law 2399 [.ref b, .ref x, .ref (x + 444), .ref (x + 456), .ref (x + 457), .int (zi i), v6, v7, v8] [] h' Q) : Xv E q_m_L_law 843 [.ref b, .ref x, .ref (x + 444), .ref (x + 456), .ref (x + 457), .int (zi i), v6, v7, v8] [] h Q := by
  obtain ⟨⟨M, hR⟩, _⟩ := id I
  obtain ⟨fs7, hb7⟩ := rm_o7 hR
  have hLo := I.2.2.1
  obtain ⟨y1, ey1, y10, y11⟩ := zi_of (ys (i + 1).toNat)
  have G1 : ∀ h' : q_H, Lo h' N → q_gI E h' 0 .int b (zi (i + 1)) = some (.int (zi y1)) := fun h' l => by rw [← ey1]; exact gI_s hS hL (l b hbN) (by omega) (by omega)
  obtain ⟨y2, ey2, y20, y21⟩ := zi_of (ys (i + 2).toNat)
  have G2 : ∀ h' : q_H, Lo h' N → q_gI E h' 0 .int b (zi (i + 2)) = some (.int (zi y2)) := fun h' l => by rw [← ey2]; exact gI_s hS hL (l b hbN) (by omega) (by omega)
  obtain ⟨t, z, h2, h3, c1, c2, c3, c4, ⟨c5, c6, fs8, c7⟩, ⟨fs9, c8⟩, t0, t1⟩ := two_i (mL := q_m_L_plan) (P_plan (E := E) hR h0 y10 y11 y20 y21) I hN (fun r h1 t x0 a1 a2 a3 => H_plan a1 a2 hb7 a3)
  have nx := next h3
  have c9 := li_mono (T' := T + 99) c5 (by omega) (by omega) (Nat.le_refl _) (Nat.le_refl _)
  refine xv (x_aload_n 844 d_L_law_843 rfl rfl) ?_
  refine xv (x_aload_n 845 d_L_law_844 rfl rfl) ?_
  refine xv (x_iload 847 d_L_law_845 rfl rfl) ?_
  refine xv (x_iconst 848 d_L_law_847 rfl) ?_
  refine xv (x_iadd 849 d_L_law_848 rfl) ?_
  refine xv (x_iaload 850 d_L_law_849 rfl (G1 h hLo)) ?_
  refine xv (x_aload_n 851 d_L_law_850 rfl rfl) ?_
  refine xv (x_iload 853 d_L_law_851 rfl rfl) ?_
  refine xv (x_iconst 854 d_L_law_853 rfl) ?_
  refine xv (x_iadd 855 d_L_law_854 rfl) ?_
  refine xv (x_iaload 856 d_L_law_855 rfl (G2 h hLo)) ?_
  refine xv (x_aload_n 857 d_L_law_856 rfl rfl) ?_
  refine xv (x_ins1 860 (as := .ref x :: ([.int (zi y1), .int (zi y2)] ++ [.ref (x + 456)])) (rest := []) d_L_law_857 rfl c_9_183 rfl (Nat.le_of_ble_eq_true rfl) (Nat.le_of_ble_eq_true rfl) (Nat.le_of_ble_eq_true rfl) rfl c1) ?_
  refine xv (x_istore 862 d_L_law_860 rfl (Nat.le_of_ble_eq_true rfl)) ?_
  show Xv E q_m_L_law 862 [.ref b, .ref x, .ref (x + 444), .ref (x + 456), .ref (x + 457), .int (zi i), .int (zi t), v7, v8] [] h2 Q
  refine xv (x_aload_n 863 d_L_law_862 rfl rfl) ?_
  refine xv (x_aload_n 864 d_L_law_863 rfl rfl) ?_
  refine xv (x_iload 866 d_L_law_864 rfl rfl) ?_
  refine xv (x_iconst 867 d_L_law_866 rfl) ?_
  refine xv (x_iadd 868 d_L_law_867 rfl) ?_
  refine xv (x_iaload 869 d_L_law_868 rfl (G1 h2 c6)) ?_
  refine xv (x_aload_n 870 d_L_law_869 rfl rfl) ?_
  refine xv (x_iload 872 d_L_law_870 rfl rfl) ?_
  refine xv (x_iconst 873 d_L_law_872 rfl) ?_
  refine xv (x_iadd 874 d_L_law_873 rfl) ?_
  refine xv (x_iaload 875 d_L_law_874 rfl (G2 h2 c6)) ?_
  refine xv (x_inv1 878 (as := [.int (zi y1), .int (zi y2)]) (rest := []) d_L_law_875 rfl c_9_185 rfl (Nat.le_of_ble_eq_true rfl) (Nat.le_of_ble_eq_true rfl) c7 (Nat.le_of_ble_eq_true rfl) (Nat.le_of_ble_eq_true rfl) rfl c2) ?_
  refine xv (x_istore 880 d_L_law_878 rfl (Nat.le_of_ble_eq_true rfl)) ?_
  show Xv E q_m_L_law 880 [.ref b, .ref x, .ref (x + 444), .ref (x + 456), .ref (x + 457), .int (zi i), .int (zi t), .int (zi z), v8] [] h3 Q
  refine xv (x_aload_n 881 d_L_law_880 rfl rfl) ?_
  refine xv (x_inv1 884 (as := []) (rest := []) d_L_law_881 rfl c_9_145 rfl (Nat.le_of_ble_eq_true rfl) (Nat.le_of_ble_eq_true rfl) c8 (Nat.le_of_ble_eq_true rfl) (Nat.le_of_ble_eq_true rfl) rfl c3) ?_
  refine xv (x_iload 886 d_L_law_884 rfl rfl) ?_
  refine v_icmp_eq 891 889 d_L_law_886 rfl rfl (by omega) (by omega) (by omega) (by omega) (fun _ => ?_) (fun k_ => absurd rfl k_)
  refine xv (x_iload 893 d_L_law_891 rfl rfl) ?_
  refine v_if_ne 908 896 d_L_law_893 rfl rfl (by omega) (by omega) (fun _ => xv (x_goto 2399 d_L_law_908 rfl) (nx _ _ _ c9)) (fun kt => ?_)
  refine xv (x_aload_n 897 d_L_law_896 rfl rfl) ?_
  refine xv (x_iconst 898 d_L_law_897 rfl) ?_
  refine xv (x_laload 899 d_L_law_898 rfl (c4 kt)) ?_
  refine xv (x_iload 901 d_L_law_899 rfl rfl) ?_
  refine xv (x_i2l 902 d_L_law_901 rfl) ?_
  refine xv (x_lcmp 903 d_L_law_902 rfl) ?_
  rw [lc_self]
  exact v_if_eq 908 906 d_L_law_903 rfl rfl (by omega) (by omega) (fun _ => xv (x_goto 2399 d_L_law_908 rfl) (nx _ _ _ c9)) (fun k_ => absurd rfl k_)
theorem K_cancel (I : LI T x N c s h) (hN : N ≤ x) (h0 : 0 ≤ T) (hT1 : T ≤ 90000) (hE : q_EN E N) (hbN : b < N) (hS : E.2 b = some (.int, L, fun j => .int (ys j))) (hL : L ≤ 2560) (hi : 0 ≤ i ∧ i + 5 ≤ L) (next : ∀ h' v6 v7 v8, LI (T + 99) x N (c + 1) (s + 6) h' → Xv E q_m_L_law 2399 [.ref b, .ref x, .ref (x + 444), .ref (x + 456), .ref (x + 457), .int (zi i), v6, v7, v8] [] h' Q) : Xv E q_m_L_law 911 [.ref b, .ref x, .ref (x + 444), .ref (x + 456), .ref (x + 457), .int (zi i), v6, v7, v8] [] h Q := by
  obtain ⟨⟨M, hR⟩, _⟩ := id I
  obtain ⟨fs7, hb7⟩ := rm_o7 hR
  have hLo := I.2.2.1
  obtain ⟨y1, ey1, y10, y11⟩ := zi_of (ys (i + 1).toNat)
  have G1 : ∀ h' : q_H, Lo h' N → q_gI E h' 0 .int b (zi (i + 1)) = some (.int (zi y1)) := fun h' l => by rw [← ey1]; exact gI_s hS hL (l b hbN) (by omega) (by omega)
  obtain ⟨t, z, h2, h3, c1, c2, c3, c4, ⟨c5, c6, fs8, c7⟩, ⟨fs9, c8⟩, t0, t1⟩ := two_i (mL := q_m_L_cancel) (P_cancel (E := E) hR h0 y10 y11) I hN (fun r h1 t x0 a1 a2 a3 => H_cancel a1 a2 hb7 a3)
  have nx := next h3
  have c9 := li_mono (T' := T + 99) c5 (by omega) (by omega) (Nat.le_refl _) (Nat.le_refl _)
  refine xv (x_aload_n 912 d_L_law_911 rfl rfl) ?_
  refine xv (x_aload_n 913 d_L_law_912 rfl rfl) ?_
  refine xv (x_iload 915 d_L_law_913 rfl rfl) ?_
  refine xv (x_iconst 916 d_L_law_915 rfl) ?_
  refine xv (x_iadd 917 d_L_law_916 rfl) ?_
  refine xv (x_iaload 918 d_L_law_917 rfl (G1 h hLo)) ?_
  refine xv (x_aload_n 919 d_L_law_918 rfl rfl) ?_
  refine xv (x_ins1 922 (as := .ref x :: ([.int (zi y1)] ++ [.ref (x + 456)])) (rest := []) d_L_law_919 rfl c_9_186 rfl (Nat.le_of_ble_eq_true rfl) (Nat.le_of_ble_eq_true rfl) (Nat.le_of_ble_eq_true rfl) rfl c1) ?_
  refine xv (x_istore 924 d_L_law_922 rfl (Nat.le_of_ble_eq_true rfl)) ?_
  show Xv E q_m_L_law 924 [.ref b, .ref x, .ref (x + 444), .ref (x + 456), .ref (x + 457), .int (zi i), .int (zi t), v7, v8] [] h2 Q
  refine xv (x_aload_n 925 d_L_law_924 rfl rfl) ?_
  refine xv (x_aload_n 926 d_L_law_925 rfl rfl) ?_
  refine xv (x_iload 928 d_L_law_926 rfl rfl) ?_
  refine xv (x_iconst 929 d_L_law_928 rfl) ?_
  refine xv (x_iadd 930 d_L_law_929 rfl) ?_
  refine xv (x_iaload 931 d_L_law_930 rfl (G1 h2 c6)) ?_
  refine xv (x_inv1 934 (as := [.int (zi y1)]) (rest := []) d_L_law_931 rfl c_9_188 rfl (Nat.le_of_ble_eq_true rfl) (Nat.le_of_ble_eq_true rfl) c7 (Nat.le_of_ble_eq_true rfl) (Nat.le_of_ble_eq_true rfl) rfl c2) ?_
  refine xv (x_istore 936 d_L_law_934 rfl (Nat.le_of_ble_eq_true rfl)) ?_
  show Xv E q_m_L_law 936 [.ref b, .ref x, .ref (x + 444), .ref (x + 456), .ref (x + 457), .int (zi i), .int (zi t), .int (zi z), v8] [] h3 Q
  refine xv (x_aload_n 937 d_L_law_936 rfl rfl) ?_
  refine xv (x_inv1 940 (as := []) (rest := []) d_L_law_937 rfl c_9_145 rfl (Nat.le_of_ble_eq_true rfl) (Nat.le_of_ble_eq_true rfl) c8 (Nat.le_of_ble_eq_true rfl) (Nat.le_of_ble_eq_true rfl) rfl c3) ?_
  refine xv (x_iload 942 d_L_law_940 rfl rfl) ?_
  refine v_icmp_eq 947 945 d_L_law_942 rfl rfl (by omega) (by omega) (by omega) (by omega) (fun _ => ?_) (fun k_ => absurd rfl k_)
  refine xv (x_iload 949 d_L_law_947 rfl rfl) ?_
  refine v_if_ne 964 952 d_L_law_949 rfl rfl (by omega) (by omega) (fun _ => xv (x_goto 2399 d_L_law_964 rfl) (nx _ _ _ c9)) (fun kt => ?_)
  refine xv (x_aload_n 953 d_L_law_952 rfl rfl) ?_
  refine xv (x_iconst 954 d_L_law_953 rfl) ?_
  refine xv (x_laload 955 d_L_law_954 rfl (c4 kt)) ?_
  refine xv (x_iload 957 d_L_law_955 rfl rfl) ?_
  refine xv (x_i2l 958 d_L_law_957 rfl) ?_
  refine xv (x_lcmp 959 d_L_law_958 rfl) ?_
  rw [lc_self]
  exact v_if_eq 964 962 d_L_law_959 rfl rfl (by omega) (by omega) (fun _ => xv (x_goto 2399 d_L_law_964 rfl) (nx _ _ _ c9)) (fun k_ => absurd rfl k_)
theorem K_pass (I : LI T x N c s h) (hN : N ≤ x) (h0 : 0 ≤ T) (hT1 : T ≤ 90000) (hE : q_EN E N) (hbN : b < N) (hS : E.2 b = some (.int, L, fun j => .int (ys j))) (hL : L ≤ 2560) (hi : 0 ≤ i ∧ i + 5 ≤ L) (next : ∀ h' v6 v7 v8, LI (T + 99) x N (c + 1) (s + 6) h' → Xv E q_m_L_law 2399 [.ref b, .ref x, .ref (x + 444), .ref (x + 456), .ref (x + 457), .int (zi i), v6, v7, v8] [] h' Q) : Xv E q_m_L_law 967 [.ref b, .ref x, .ref (x + 444), .ref (x + 456), .ref (x + 457), .int (zi i), v6, v7, v8] [] h Q := by
  obtain ⟨⟨M, hR⟩, _⟩ := id I
  obtain ⟨fs7, hb7⟩ := rm_o7 hR
  have hLo := I.2.2.1
  obtain ⟨y1, ey1, y10, y11⟩ := zi_of (ys (i + 1).toNat)
  have G1 : ∀ h' : q_H, Lo h' N → q_gI E h' 0 .int b (zi (i + 1)) = some (.int (zi y1)) := fun h' l => by rw [← ey1]; exact gI_s hS hL (l b hbN) (by omega) (by omega)
  obtain ⟨t, z, h2, h3, c1, c2, c3, c4, ⟨c5, c6, fs8, c7⟩, ⟨fs9, c8⟩, t0, t1⟩ := two_i (mL := q_m_L_pass) (P_pass (E := E) hR h0 hT1 y10 y11) I hN (fun r h1 t x0 a1 a2 a3 => H_pass a1 a2 hb7 a3)
  have nx := next h3
  have c9 := li_mono (T' := T + 99) c5 (by omega) (by omega) (Nat.le_refl _) (Nat.le_refl _)
  refine xv (x_aload_n 968 d_L_law_967 rfl rfl) ?_
  refine xv (x_aload_n 969 d_L_law_968 rfl rfl) ?_
  refine xv (x_iload 971 d_L_law_969 rfl rfl) ?_
  refine xv (x_iconst 972 d_L_law_971 rfl) ?_
  refine xv (x_iadd 973 d_L_law_972 rfl) ?_
  refine xv (x_iaload 974 d_L_law_973 rfl (G1 h hLo)) ?_
  refine xv (x_aload_n 975 d_L_law_974 rfl rfl) ?_
  refine xv (x_ins1 978 (as := .ref x :: ([.int (zi y1)] ++ [.ref (x + 456)])) (rest := []) d_L_law_975 rfl c_9_189 rfl (Nat.le_of_ble_eq_true rfl) (Nat.le_of_ble_eq_true rfl) (Nat.le_of_ble_eq_true rfl) rfl c1) ?_
  refine xv (x_istore 980 d_L_law_978 rfl (Nat.le_of_ble_eq_true rfl)) ?_
  show Xv E q_m_L_law 980 [.ref b, .ref x, .ref (x + 444), .ref (x + 456), .ref (x + 457), .int (zi i), .int (zi t), v7, v8] [] h2 Q
  refine xv (x_aload_n 981 d_L_law_980 rfl rfl) ?_
  refine xv (x_aload_n 982 d_L_law_981 rfl rfl) ?_
  refine xv (x_iload 984 d_L_law_982 rfl rfl) ?_
  refine xv (x_iconst 985 d_L_law_984 rfl) ?_
  refine xv (x_iadd 986 d_L_law_985 rfl) ?_
  refine xv (x_iaload 987 d_L_law_986 rfl (G1 h2 c6)) ?_
  refine xv (x_inv1 990 (as := [.int (zi y1)]) (rest := []) d_L_law_987 rfl c_9_191 rfl (Nat.le_of_ble_eq_true rfl) (Nat.le_of_ble_eq_true rfl) c7 (Nat.le_of_ble_eq_true rfl) (Nat.le_of_ble_eq_true rfl) rfl c2) ?_
  refine xv (x_istore 992 d_L_law_990 rfl (Nat.le_of_ble_eq_true rfl)) ?_
  show Xv E q_m_L_law 992 [.ref b, .ref x, .ref (x + 444), .ref (x + 456), .ref (x + 457), .int (zi i), .int (zi t), .int (zi z), v8] [] h3 Q
  refine xv (x_aload_n 993 d_L_law_992 rfl rfl) ?_
  refine xv (x_inv1 996 (as := []) (rest := []) d_L_law_993 rfl c_9_145 rfl (Nat.le_of_ble_eq_true rfl) (Nat.le_of_ble_eq_true rfl) c8 (Nat.le_of_ble_eq_true rfl) (Nat.le_of_ble_eq_true rfl) rfl c3) ?_
  refine xv (x_iload 998 d_L_law_996 rfl rfl) ?_
  refine v_icmp_eq 1003 1001 d_L_law_998 rfl rfl (by omega) (by omega) (by omega) (by omega) (fun _ => ?_) (fun k_ => absurd rfl k_)
  refine xv (x_iload 1005 d_L_law_1003 rfl rfl) ?_
  refine v_if_ne 1020 1008 d_L_law_1005 rfl rfl (by omega) (by omega) (fun _ => xv (x_goto 2399 d_L_law_1020 rfl) (nx _ _ _ c9)) (fun kt => ?_)
  refine xv (x_aload_n 1009 d_L_law_1008 rfl rfl) ?_
  refine xv (x_iconst 1010 d_L_law_1009 rfl) ?_
  refine xv (x_laload 1011 d_L_law_1010 rfl (c4 kt)) ?_
  refine xv (x_iload 1013 d_L_law_1011 rfl rfl) ?_
  refine xv (x_i2l 1014 d_L_law_1013 rfl) ?_
  refine xv (x_lcmp 1015 d_L_law_1014 rfl) ?_
  rw [lc_self]
  exact v_if_eq 1020 1018 d_L_law_1015 rfl rfl (by omega) (by omega) (fun _ => xv (x_goto 2399 d_L_law_1020 rfl) (nx _ _ _ c9)) (fun k_ => absurd rfl k_)
theorem K_cell (I : LI T x N c s h) (hN : N ≤ x) (h0 : 0 ≤ T) (hT1 : T ≤ 90000) (hE : q_EN E N) (hbN : b < N) (hS : E.2 b = some (.int, L, fun j => .int (ys j))) (hL : L ≤ 2560) (hi : 0 ≤ i ∧ i + 5 ≤ L) (next : ∀ h' v6 v7 v8, LI (T + 99) x N (c + 1) (s + 6) h' → Xv E q_m_L_law 2399 [.ref b, .ref x, .ref (x + 444), .ref (x + 456), .ref (x + 457), .int (zi i), v6, v7, v8] [] h' Q) : Xv E q_m_L_law 1023 [.ref b, .ref x, .ref (x + 444), .ref (x + 456), .ref (x + 457), .int (zi i), v6, v7, v8] [] h Q := by
  obtain ⟨⟨M, hR⟩, _⟩ := id I
  obtain ⟨fs7, hb7⟩ := rm_o7 hR
  have hLo := I.2.2.1
  obtain ⟨y1, ey1, y10, y11⟩ := zi_of (ys (i + 1).toNat)
  have G1 : ∀ h' : q_H, Lo h' N → q_gI E h' 0 .int b (zi (i + 1)) = some (.int (zi y1)) := fun h' l => by rw [← ey1]; exact gI_s hS hL (l b hbN) (by omega) (by omega)
  obtain ⟨y2, ey2, y20, y21⟩ := zi_of (ys (i + 2).toNat)
  have G2 : ∀ h' : q_H, Lo h' N → q_gI E h' 0 .int b (zi (i + 2)) = some (.int (zi y2)) := fun h' l => by rw [← ey2]; exact gI_s hS hL (l b hbN) (by omega) (by omega)
  obtain ⟨t, z, h2, h3, c1, c2, c3, c4, ⟨c5, c6, fs8, c7⟩, ⟨fs9, c8⟩, t0, t1⟩ := two_i (mL := q_m_L_cell) (P_cell (E := E) hR y10 y11 y20 y21) I hN (fun r h1 t x0 a1 a2 a3 => H_cell a1 a2 hb7 a3)
  have nx := next h3
  have c9 := li_mono (T' := T + 99) c5 (by omega) (by omega) (Nat.le_refl _) (Nat.le_refl _)
  refine xv (x_aload_n 1024 d_L_law_1023 rfl rfl) ?_
  refine xv (x_aload_n 1025 d_L_law_1024 rfl rfl) ?_
  refine xv (x_iload 1027 d_L_law_1025 rfl rfl) ?_
  refine xv (x_iconst 1028 d_L_law_1027 rfl) ?_
  refine xv (x_iadd 1029 d_L_law_1028 rfl) ?_
  refine xv (x_iaload 1030 d_L_law_1029 rfl (G1 h hLo)) ?_
  refine xv (x_aload_n 1031 d_L_law_1030 rfl rfl) ?_
  refine xv (x_iload 1033 d_L_law_1031 rfl rfl) ?_
  refine xv (x_iconst 1034 d_L_law_1033 rfl) ?_
  refine xv (x_iadd 1035 d_L_law_1034 rfl) ?_
  refine xv (x_iaload 1036 d_L_law_1035 rfl (G2 h hLo)) ?_
  refine xv (x_aload_n 1037 d_L_law_1036 rfl rfl) ?_
  refine xv (x_ins1 1040 (as := .ref x :: ([.int (zi y1), .int (zi y2)] ++ [.ref (x + 456)])) (rest := []) d_L_law_1037 rfl c_9_192 rfl (Nat.le_of_ble_eq_true rfl) (Nat.le_of_ble_eq_true rfl) (Nat.le_of_ble_eq_true rfl) rfl c1) ?_
  refine xv (x_istore 1042 d_L_law_1040 rfl (Nat.le_of_ble_eq_true rfl)) ?_
  show Xv E q_m_L_law 1042 [.ref b, .ref x, .ref (x + 444), .ref (x + 456), .ref (x + 457), .int (zi i), .int (zi t), v7, v8] [] h2 Q
  refine xv (x_aload_n 1043 d_L_law_1042 rfl rfl) ?_
  refine xv (x_aload_n 1044 d_L_law_1043 rfl rfl) ?_
  refine xv (x_iload 1046 d_L_law_1044 rfl rfl) ?_
  refine xv (x_iconst 1047 d_L_law_1046 rfl) ?_
  refine xv (x_iadd 1048 d_L_law_1047 rfl) ?_
  refine xv (x_iaload 1049 d_L_law_1048 rfl (G1 h2 c6)) ?_
  refine xv (x_aload_n 1050 d_L_law_1049 rfl rfl) ?_
  refine xv (x_iload 1052 d_L_law_1050 rfl rfl) ?_
  refine xv (x_iconst 1053 d_L_law_1052 rfl) ?_
  refine xv (x_iadd 1054 d_L_law_1053 rfl) ?_
  refine xv (x_iaload 1055 d_L_law_1054 rfl (G2 h2 c6)) ?_
  refine xv (x_inv1 1058 (as := [.int (zi y1), .int (zi y2)]) (rest := []) d_L_law_1055 rfl c_9_194 rfl (Nat.le_of_ble_eq_true rfl) (Nat.le_of_ble_eq_true rfl) c7 (Nat.le_of_ble_eq_true rfl) (Nat.le_of_ble_eq_true rfl) rfl c2) ?_
  refine xv (x_istore 1060 d_L_law_1058 rfl (Nat.le_of_ble_eq_true rfl)) ?_
  show Xv E q_m_L_law 1060 [.ref b, .ref x, .ref (x + 444), .ref (x + 456), .ref (x + 457), .int (zi i), .int (zi t), .int (zi z), v8] [] h3 Q
  refine xv (x_aload_n 1061 d_L_law_1060 rfl rfl) ?_
  refine xv (x_inv1 1064 (as := []) (rest := []) d_L_law_1061 rfl c_9_145 rfl (Nat.le_of_ble_eq_true rfl) (Nat.le_of_ble_eq_true rfl) c8 (Nat.le_of_ble_eq_true rfl) (Nat.le_of_ble_eq_true rfl) rfl c3) ?_
  refine xv (x_iload 1066 d_L_law_1064 rfl rfl) ?_
  refine v_icmp_eq 1071 1069 d_L_law_1066 rfl rfl (by omega) (by omega) (by omega) (by omega) (fun _ => ?_) (fun k_ => absurd rfl k_)
  refine xv (x_iload 1073 d_L_law_1071 rfl rfl) ?_
  refine v_if_ne 1088 1076 d_L_law_1073 rfl rfl (by omega) (by omega) (fun _ => xv (x_goto 2399 d_L_law_1088 rfl) (nx _ _ _ c9)) (fun kt => ?_)
  refine xv (x_aload_n 1077 d_L_law_1076 rfl rfl) ?_
  refine xv (x_iconst 1078 d_L_law_1077 rfl) ?_
  refine xv (x_laload 1079 d_L_law_1078 rfl (c4 kt)) ?_
  refine xv (x_iload 1081 d_L_law_1079 rfl rfl) ?_
  refine xv (x_i2l 1082 d_L_law_1081 rfl) ?_
  refine xv (x_lcmp 1083 d_L_law_1082 rfl) ?_
  rw [lc_self]
  exact v_if_eq 1088 1086 d_L_law_1083 rfl rfl (by omega) (by omega) (fun _ => xv (x_goto 2399 d_L_law_1088 rfl) (nx _ _ _ c9)) (fun k_ => absurd rfl k_)
theorem K_letter (I : LI T x N c s h) (hN : N ≤ x) (h0 : 0 ≤ T) (hT1 : T ≤ 90000) (hE : q_EN E N) (hbN : b < N) (hS : E.2 b = some (.int, L, fun j => .int (ys j))) (hL : L ≤ 2560) (hi : 0 ≤ i ∧ i + 5 ≤ L) (next : ∀ h' v6 v7 v8, LI (T + 99) x N (c + 1) (s + 6) h' → Xv E q_m_L_law 2399 [.ref b, .ref x, .ref (x + 444), .ref (x + 456), .ref (x + 457), .int (zi i), v6, v7, v8] [] h' Q) : Xv E q_m_L_law 1091 [.ref b, .ref x, .ref (x + 444), .ref (x + 456), .ref (x + 457), .int (zi i), v6, v7, v8] [] h Q := by
  obtain ⟨⟨M, hR⟩, _⟩ := id I
  obtain ⟨fs7, hb7⟩ := rm_o7 hR
  have hLo := I.2.2.1
  obtain ⟨y1, ey1, y10, y11⟩ := zi_of (ys (i + 1).toNat)
  have G1 : ∀ h' : q_H, Lo h' N → q_gI E h' 0 .int b (zi (i + 1)) = some (.int (zi y1)) := fun h' l => by rw [← ey1]; exact gI_s hS hL (l b hbN) (by omega) (by omega)
  obtain ⟨t, z, h2, h3, c1, c2, c3, c4, ⟨c5, c6, fs8, c7⟩, ⟨fs9, c8⟩, t0, t1⟩ := two_i (mL := q_m_L_letter) (P_letter (E := E) hR hE hLo hN y10 y11) I hN (fun r h1 t x0 a1 a2 a3 => H_letter a1 a2 hb7 a3)
  have nx := next h3
  have c9 := li_mono (T' := T + 99) c5 (by omega) (by omega) (Nat.le_refl _) (Nat.le_refl _)
  refine xv (x_aload_n 1092 d_L_law_1091 rfl rfl) ?_
  refine xv (x_aload_n 1093 d_L_law_1092 rfl rfl) ?_
  refine xv (x_iload 1095 d_L_law_1093 rfl rfl) ?_
  refine xv (x_iconst 1096 d_L_law_1095 rfl) ?_
  refine xv (x_iadd 1097 d_L_law_1096 rfl) ?_
  refine xv (x_iaload 1098 d_L_law_1097 rfl (G1 h hLo)) ?_
  refine xv (x_aload_n 1099 d_L_law_1098 rfl rfl) ?_
  refine xv (x_ins1 1102 (as := .ref x :: ([.int (zi y1)] ++ [.ref (x + 456)])) (rest := []) d_L_law_1099 rfl c_9_195 rfl (Nat.le_of_ble_eq_true rfl) (Nat.le_of_ble_eq_true rfl) (Nat.le_of_ble_eq_true rfl) rfl c1) ?_
  refine xv (x_istore 1104 d_L_law_1102 rfl (Nat.le_of_ble_eq_true rfl)) ?_
  show Xv E q_m_L_law 1104 [.ref b, .ref x, .ref (x + 444), .ref (x + 456), .ref (x + 457), .int (zi i), .int (zi t), v7, v8] [] h2 Q
  refine xv (x_aload_n 1105 d_L_law_1104 rfl rfl) ?_
  refine xv (x_aload_n 1106 d_L_law_1105 rfl rfl) ?_
  refine xv (x_iload 1108 d_L_law_1106 rfl rfl) ?_
  refine xv (x_iconst 1109 d_L_law_1108 rfl) ?_
  refine xv (x_iadd 1110 d_L_law_1109 rfl) ?_
  refine xv (x_iaload 1111 d_L_law_1110 rfl (G1 h2 c6)) ?_
  refine xv (x_inv1 1114 (as := [.int (zi y1)]) (rest := []) d_L_law_1111 rfl c_9_197 rfl (Nat.le_of_ble_eq_true rfl) (Nat.le_of_ble_eq_true rfl) c7 (Nat.le_of_ble_eq_true rfl) (Nat.le_of_ble_eq_true rfl) rfl c2) ?_
  refine xv (x_istore 1116 d_L_law_1114 rfl (Nat.le_of_ble_eq_true rfl)) ?_
  show Xv E q_m_L_law 1116 [.ref b, .ref x, .ref (x + 444), .ref (x + 456), .ref (x + 457), .int (zi i), .int (zi t), .int (zi z), v8] [] h3 Q
  refine xv (x_aload_n 1117 d_L_law_1116 rfl rfl) ?_
  refine xv (x_inv1 1120 (as := []) (rest := []) d_L_law_1117 rfl c_9_145 rfl (Nat.le_of_ble_eq_true rfl) (Nat.le_of_ble_eq_true rfl) c8 (Nat.le_of_ble_eq_true rfl) (Nat.le_of_ble_eq_true rfl) rfl c3) ?_
  refine xv (x_iload 1122 d_L_law_1120 rfl rfl) ?_
  refine v_icmp_eq 1127 1125 d_L_law_1122 rfl rfl (by omega) (by omega) (by omega) (by omega) (fun _ => ?_) (fun k_ => absurd rfl k_)
  refine xv (x_iload 1129 d_L_law_1127 rfl rfl) ?_
  refine v_if_ne 1144 1132 d_L_law_1129 rfl rfl (by omega) (by omega) (fun _ => xv (x_goto 2399 d_L_law_1144 rfl) (nx _ _ _ c9)) (fun kt => ?_)
  refine xv (x_aload_n 1133 d_L_law_1132 rfl rfl) ?_
  refine xv (x_iconst 1134 d_L_law_1133 rfl) ?_
  refine xv (x_laload 1135 d_L_law_1134 rfl (c4 kt)) ?_
  refine xv (x_iload 1137 d_L_law_1135 rfl rfl) ?_
  refine xv (x_i2l 1138 d_L_law_1137 rfl) ?_
  refine xv (x_lcmp 1139 d_L_law_1138 rfl) ?_
  rw [lc_self]
  exact v_if_eq 1144 1142 d_L_law_1139 rfl rfl (by omega) (by omega) (fun _ => xv (x_goto 2399 d_L_law_1144 rfl) (nx _ _ _ c9)) (fun k_ => absurd rfl k_)
theorem K_distance (I : LI T x N c s h) (hN : N ≤ x) (h0 : 0 ≤ T) (hT1 : T ≤ 90000) (hE : q_EN E N) (hbN : b < N) (hS : E.2 b = some (.int, L, fun j => .int (ys j))) (hL : L ≤ 2560) (hi : 0 ≤ i ∧ i + 5 ≤ L) (next : ∀ h' v6 v7 v8, LI (T + 99) x N (c + 1) (s + 6) h' → Xv E q_m_L_law 2399 [.ref b, .ref x, .ref (x + 444), .ref (x + 456), .ref (x + 457), .int (zi i), v6, v7, v8] [] h' Q) : Xv E q_m_L_law 1147 [.ref b, .ref x, .ref (x + 444), .ref (x + 456), .ref (x + 457), .int (zi i), v6, v7, v8] [] h Q := by
  obtain ⟨⟨M, hR⟩, _⟩ := id I
  obtain ⟨fs7, hb7⟩ := rm_o7 hR
  have hLo := I.2.2.1
  obtain ⟨y1, ey1, y10, y11⟩ := zi_of (ys (i + 1).toNat)
  have G1 : ∀ h' : q_H, Lo h' N → q_gI E h' 0 .int b (zi (i + 1)) = some (.int (zi y1)) := fun h' l => by rw [← ey1]; exact gI_s hS hL (l b hbN) (by omega) (by omega)
  obtain ⟨y2, ey2, y20, y21⟩ := zi_of (ys (i + 2).toNat)
  have G2 : ∀ h' : q_H, Lo h' N → q_gI E h' 0 .int b (zi (i + 2)) = some (.int (zi y2)) := fun h' l => by rw [← ey2]; exact gI_s hS hL (l b hbN) (by omega) (by omega)
  obtain ⟨t, z, h2, h3, c1, c2, c3, c4, ⟨c5, c6, fs8, c7⟩, ⟨fs9, c8⟩, t0, t1⟩ := two_i (mL := q_m_L_distance) (P_distance (E := E) hR y10 y11 y20 y21) I hN (fun r h1 t x0 a1 a2 a3 => H_distance a1 a2 hb7 a3)
  have nx := next h3
  have c9 := li_mono (T' := T + 99) c5 (by omega) (by omega) (Nat.le_refl _) (Nat.le_refl _)
  refine xv (x_aload_n 1148 d_L_law_1147 rfl rfl) ?_
  refine xv (x_aload_n 1149 d_L_law_1148 rfl rfl) ?_
  refine xv (x_iload 1151 d_L_law_1149 rfl rfl) ?_
  refine xv (x_iconst 1152 d_L_law_1151 rfl) ?_
  refine xv (x_iadd 1153 d_L_law_1152 rfl) ?_
  refine xv (x_iaload 1154 d_L_law_1153 rfl (G1 h hLo)) ?_
  refine xv (x_aload_n 1155 d_L_law_1154 rfl rfl) ?_
  refine xv (x_iload 1157 d_L_law_1155 rfl rfl) ?_
  refine xv (x_iconst 1158 d_L_law_1157 rfl) ?_
  refine xv (x_iadd 1159 d_L_law_1158 rfl) ?_
  refine xv (x_iaload 1160 d_L_law_1159 rfl (G2 h hLo)) ?_
  refine xv (x_aload_n 1161 d_L_law_1160 rfl rfl) ?_
  refine xv (x_ins1 1164 (as := .ref x :: ([.int (zi y1), .int (zi y2)] ++ [.ref (x + 456)])) (rest := []) d_L_law_1161 rfl c_9_198 rfl (Nat.le_of_ble_eq_true rfl) (Nat.le_of_ble_eq_true rfl) (Nat.le_of_ble_eq_true rfl) rfl c1) ?_
  refine xv (x_istore 1166 d_L_law_1164 rfl (Nat.le_of_ble_eq_true rfl)) ?_
  show Xv E q_m_L_law 1166 [.ref b, .ref x, .ref (x + 444), .ref (x + 456), .ref (x + 457), .int (zi i), .int (zi t), v7, v8] [] h2 Q
  refine xv (x_aload_n 1167 d_L_law_1166 rfl rfl) ?_
  refine xv (x_aload_n 1168 d_L_law_1167 rfl rfl) ?_
  refine xv (x_iload 1170 d_L_law_1168 rfl rfl) ?_
  refine xv (x_iconst 1171 d_L_law_1170 rfl) ?_
  refine xv (x_iadd 1172 d_L_law_1171 rfl) ?_
  refine xv (x_iaload 1173 d_L_law_1172 rfl (G1 h2 c6)) ?_
  refine xv (x_aload_n 1174 d_L_law_1173 rfl rfl) ?_
  refine xv (x_iload 1176 d_L_law_1174 rfl rfl) ?_
  refine xv (x_iconst 1177 d_L_law_1176 rfl) ?_
  refine xv (x_iadd 1178 d_L_law_1177 rfl) ?_
  refine xv (x_iaload 1179 d_L_law_1178 rfl (G2 h2 c6)) ?_
  refine xv (x_inv1 1182 (as := [.int (zi y1), .int (zi y2)]) (rest := []) d_L_law_1179 rfl c_9_200 rfl (Nat.le_of_ble_eq_true rfl) (Nat.le_of_ble_eq_true rfl) c7 (Nat.le_of_ble_eq_true rfl) (Nat.le_of_ble_eq_true rfl) rfl c2) ?_
  refine xv (x_istore 1184 d_L_law_1182 rfl (Nat.le_of_ble_eq_true rfl)) ?_
  show Xv E q_m_L_law 1184 [.ref b, .ref x, .ref (x + 444), .ref (x + 456), .ref (x + 457), .int (zi i), .int (zi t), .int (zi z), v8] [] h3 Q
  refine xv (x_aload_n 1185 d_L_law_1184 rfl rfl) ?_
  refine xv (x_inv1 1188 (as := []) (rest := []) d_L_law_1185 rfl c_9_145 rfl (Nat.le_of_ble_eq_true rfl) (Nat.le_of_ble_eq_true rfl) c8 (Nat.le_of_ble_eq_true rfl) (Nat.le_of_ble_eq_true rfl) rfl c3) ?_
  refine xv (x_iload 1190 d_L_law_1188 rfl rfl) ?_
  refine v_icmp_eq 1195 1193 d_L_law_1190 rfl rfl (by omega) (by omega) (by omega) (by omega) (fun _ => ?_) (fun k_ => absurd rfl k_)
  refine xv (x_iload 1197 d_L_law_1195 rfl rfl) ?_
  refine v_if_ne 1212 1200 d_L_law_1197 rfl rfl (by omega) (by omega) (fun _ => xv (x_goto 2399 d_L_law_1212 rfl) (nx _ _ _ c9)) (fun kt => ?_)
  refine xv (x_aload_n 1201 d_L_law_1200 rfl rfl) ?_
  refine xv (x_iconst 1202 d_L_law_1201 rfl) ?_
  refine xv (x_laload 1203 d_L_law_1202 rfl (c4 kt)) ?_
  refine xv (x_iload 1205 d_L_law_1203 rfl rfl) ?_
  refine xv (x_i2l 1206 d_L_law_1205 rfl) ?_
  refine xv (x_lcmp 1207 d_L_law_1206 rfl) ?_
  rw [lc_self]
  exact v_if_eq 1212 1210 d_L_law_1207 rfl rfl (by omega) (by omega) (fun _ => xv (x_goto 2399 d_L_law_1212 rfl) (nx _ _ _ c9)) (fun k_ => absurd rfl k_)
theorem K_distanceAgain (I : LI T x N c s h) (hN : N ≤ x) (h0 : 0 ≤ T) (hT1 : T ≤ 90000) (hE : q_EN E N) (hbN : b < N) (hS : E.2 b = some (.int, L, fun j => .int (ys j))) (hL : L ≤ 2560) (hi : 0 ≤ i ∧ i + 5 ≤ L) (next : ∀ h' v6 v7 v8, LI (T + 99) x N (c + 1) (s + 6) h' → Xv E q_m_L_law 2399 [.ref b, .ref x, .ref (x + 444), .ref (x + 456), .ref (x + 457), .int (zi i), v6, v7, v8] [] h' Q) : Xv E q_m_L_law 1215 [.ref b, .ref x, .ref (x + 444), .ref (x + 456), .ref (x + 457), .int (zi i), v6, v7, v8] [] h Q := by
  obtain ⟨⟨M, hR⟩, _⟩ := id I
  obtain ⟨fs7, hb7⟩ := rm_o7 hR
  have hLo := I.2.2.1
  obtain ⟨y1, ey1, y10, y11⟩ := zi_of (ys (i + 1).toNat)
  have G1 : ∀ h' : q_H, Lo h' N → q_gI E h' 0 .int b (zi (i + 1)) = some (.int (zi y1)) := fun h' l => by rw [← ey1]; exact gI_s hS hL (l b hbN) (by omega) (by omega)
  obtain ⟨y2, ey2, y20, y21⟩ := zi_of (ys (i + 2).toNat)
  have G2 : ∀ h' : q_H, Lo h' N → q_gI E h' 0 .int b (zi (i + 2)) = some (.int (zi y2)) := fun h' l => by rw [← ey2]; exact gI_s hS hL (l b hbN) (by omega) (by omega)
  obtain ⟨t, z, h2, h3, c1, c2, c3, c4, ⟨c5, c6, fs8, c7⟩, ⟨fs9, c8⟩, t0, t1⟩ := two_i (mL := q_m_L_distanceAgain) (P_distanceAgain (E := E) hR y10 y11 y20 y21) I hN (fun r h1 t x0 a1 a2 a3 => H_distanceAgain a1 a2 hb7 a3)
  have nx := next h3
  have c9 := li_mono (T' := T + 99) c5 (by omega) (by omega) (Nat.le_refl _) (Nat.le_refl _)
  refine xv (x_aload_n 1216 d_L_law_1215 rfl rfl) ?_
  refine xv (x_aload_n 1217 d_L_law_1216 rfl rfl) ?_
  refine xv (x_iload 1219 d_L_law_1217 rfl rfl) ?_
  refine xv (x_iconst 1220 d_L_law_1219 rfl) ?_
  refine xv (x_iadd 1221 d_L_law_1220 rfl) ?_
  refine xv (x_iaload 1222 d_L_law_1221 rfl (G1 h hLo)) ?_
  refine xv (x_aload_n 1223 d_L_law_1222 rfl rfl) ?_
  refine xv (x_iload 1225 d_L_law_1223 rfl rfl) ?_
  refine xv (x_iconst 1226 d_L_law_1225 rfl) ?_
  refine xv (x_iadd 1227 d_L_law_1226 rfl) ?_
  refine xv (x_iaload 1228 d_L_law_1227 rfl (G2 h hLo)) ?_
  refine xv (x_aload_n 1229 d_L_law_1228 rfl rfl) ?_
  refine xv (x_ins1 1232 (as := .ref x :: ([.int (zi y1), .int (zi y2)] ++ [.ref (x + 456)])) (rest := []) d_L_law_1229 rfl c_9_201 rfl (Nat.le_of_ble_eq_true rfl) (Nat.le_of_ble_eq_true rfl) (Nat.le_of_ble_eq_true rfl) rfl c1) ?_
  refine xv (x_istore 1234 d_L_law_1232 rfl (Nat.le_of_ble_eq_true rfl)) ?_
  show Xv E q_m_L_law 1234 [.ref b, .ref x, .ref (x + 444), .ref (x + 456), .ref (x + 457), .int (zi i), .int (zi t), v7, v8] [] h2 Q
  refine xv (x_aload_n 1235 d_L_law_1234 rfl rfl) ?_
  refine xv (x_aload_n 1236 d_L_law_1235 rfl rfl) ?_
  refine xv (x_iload 1238 d_L_law_1236 rfl rfl) ?_
  refine xv (x_iconst 1239 d_L_law_1238 rfl) ?_
  refine xv (x_iadd 1240 d_L_law_1239 rfl) ?_
  refine xv (x_iaload 1241 d_L_law_1240 rfl (G1 h2 c6)) ?_
  refine xv (x_aload_n 1242 d_L_law_1241 rfl rfl) ?_
  refine xv (x_iload 1244 d_L_law_1242 rfl rfl) ?_
  refine xv (x_iconst 1245 d_L_law_1244 rfl) ?_
  refine xv (x_iadd 1246 d_L_law_1245 rfl) ?_
  refine xv (x_iaload 1247 d_L_law_1246 rfl (G2 h2 c6)) ?_
  refine xv (x_inv1 1250 (as := [.int (zi y1), .int (zi y2)]) (rest := []) d_L_law_1247 rfl c_9_203 rfl (Nat.le_of_ble_eq_true rfl) (Nat.le_of_ble_eq_true rfl) c7 (Nat.le_of_ble_eq_true rfl) (Nat.le_of_ble_eq_true rfl) rfl c2) ?_
  refine xv (x_istore 1252 d_L_law_1250 rfl (Nat.le_of_ble_eq_true rfl)) ?_
  show Xv E q_m_L_law 1252 [.ref b, .ref x, .ref (x + 444), .ref (x + 456), .ref (x + 457), .int (zi i), .int (zi t), .int (zi z), v8] [] h3 Q
  refine xv (x_aload_n 1253 d_L_law_1252 rfl rfl) ?_
  refine xv (x_inv1 1256 (as := []) (rest := []) d_L_law_1253 rfl c_9_145 rfl (Nat.le_of_ble_eq_true rfl) (Nat.le_of_ble_eq_true rfl) c8 (Nat.le_of_ble_eq_true rfl) (Nat.le_of_ble_eq_true rfl) rfl c3) ?_
  refine xv (x_iload 1258 d_L_law_1256 rfl rfl) ?_
  refine v_icmp_eq 1263 1261 d_L_law_1258 rfl rfl (by omega) (by omega) (by omega) (by omega) (fun _ => ?_) (fun k_ => absurd rfl k_)
  refine xv (x_iload 1265 d_L_law_1263 rfl rfl) ?_
  refine v_if_ne 1280 1268 d_L_law_1265 rfl rfl (by omega) (by omega) (fun _ => xv (x_goto 2399 d_L_law_1280 rfl) (nx _ _ _ c9)) (fun kt => ?_)
  refine xv (x_aload_n 1269 d_L_law_1268 rfl rfl) ?_
  refine xv (x_iconst 1270 d_L_law_1269 rfl) ?_
  refine xv (x_laload 1271 d_L_law_1270 rfl (c4 kt)) ?_
  refine xv (x_iload 1273 d_L_law_1271 rfl rfl) ?_
  refine xv (x_i2l 1274 d_L_law_1273 rfl) ?_
  refine xv (x_lcmp 1275 d_L_law_1274 rfl) ?_
  rw [lc_self]
  exact v_if_eq 1280 1278 d_L_law_1275 rfl rfl (by omega) (by omega) (fun _ => xv (x_goto 2399 d_L_law_1280 rfl) (nx _ _ _ c9)) (fun k_ => absurd rfl k_)
theorem K_reach (I : LI T x N c s h) (hN : N ≤ x) (h0 : 0 ≤ T) (hT1 : T ≤ 90000) (hE : q_EN E N) (hbN : b < N) (hS : E.2 b = some (.int, L, fun j => .int (ys j))) (hL : L ≤ 2560) (hi : 0 ≤ i ∧ i + 5 ≤ L) (next : ∀ h' v6 v7 v8, LI (T + 99) x N (c + 1) (s + 6) h' → Xv E q_m_L_law 2399 [.ref b, .ref x, .ref (x + 444), .ref (x + 456), .ref (x + 457), .int (zi i), v6, v7, v8] [] h' Q) : Xv E q_m_L_law 1283 [.ref b, .ref x, .ref (x + 444), .ref (x + 456), .ref (x + 457), .int (zi i), v6, v7, v8] [] h Q := by
  obtain ⟨⟨M, hR⟩, _⟩ := id I
  obtain ⟨fs7, hb7⟩ := rm_o7 hR
  have hLo := I.2.2.1
  obtain ⟨y1, ey1, y10, y11⟩ := zi_of (ys (i + 1).toNat)
  have G1 : ∀ h' : q_H, Lo h' N → q_gI E h' 0 .int b (zi (i + 1)) = some (.int (zi y1)) := fun h' l => by rw [← ey1]; exact gI_s hS hL (l b hbN) (by omega) (by omega)
  obtain ⟨t, z, h2, h3, c1, c2, c3, c4, ⟨c5, c6, fs8, c7⟩, ⟨fs9, c8⟩, t0, t1⟩ := two_i (mL := q_m_L_reach) (P_reach (E := E) hR y10 y11) I hN (fun r h1 t x0 a1 a2 a3 => H_reach a1 a2 hb7 a3)
  have nx := next h3
  have c9 := li_mono (T' := T + 99) c5 (by omega) (by omega) (Nat.le_refl _) (Nat.le_refl _)
  refine xv (x_aload_n 1284 d_L_law_1283 rfl rfl) ?_
  refine xv (x_aload_n 1285 d_L_law_1284 rfl rfl) ?_
  refine xv (x_iload 1287 d_L_law_1285 rfl rfl) ?_
  refine xv (x_iconst 1288 d_L_law_1287 rfl) ?_
  refine xv (x_iadd 1289 d_L_law_1288 rfl) ?_
  refine xv (x_iaload 1290 d_L_law_1289 rfl (G1 h hLo)) ?_
  refine xv (x_aload_n 1291 d_L_law_1290 rfl rfl) ?_
  refine xv (x_ins1 1294 (as := .ref x :: ([.int (zi y1)] ++ [.ref (x + 456)])) (rest := []) d_L_law_1291 rfl c_9_204 rfl (Nat.le_of_ble_eq_true rfl) (Nat.le_of_ble_eq_true rfl) (Nat.le_of_ble_eq_true rfl) rfl c1) ?_
  refine xv (x_istore 1296 d_L_law_1294 rfl (Nat.le_of_ble_eq_true rfl)) ?_
  show Xv E q_m_L_law 1296 [.ref b, .ref x, .ref (x + 444), .ref (x + 456), .ref (x + 457), .int (zi i), .int (zi t), v7, v8] [] h2 Q
  refine xv (x_aload_n 1297 d_L_law_1296 rfl rfl) ?_
  refine xv (x_aload_n 1298 d_L_law_1297 rfl rfl) ?_
  refine xv (x_iload 1300 d_L_law_1298 rfl rfl) ?_
  refine xv (x_iconst 1301 d_L_law_1300 rfl) ?_
  refine xv (x_iadd 1302 d_L_law_1301 rfl) ?_
  refine xv (x_iaload 1303 d_L_law_1302 rfl (G1 h2 c6)) ?_
  refine xv (x_inv1 1306 (as := [.int (zi y1)]) (rest := []) d_L_law_1303 rfl c_9_206 rfl (Nat.le_of_ble_eq_true rfl) (Nat.le_of_ble_eq_true rfl) c7 (Nat.le_of_ble_eq_true rfl) (Nat.le_of_ble_eq_true rfl) rfl c2) ?_
  refine xv (x_istore 1308 d_L_law_1306 rfl (Nat.le_of_ble_eq_true rfl)) ?_
  show Xv E q_m_L_law 1308 [.ref b, .ref x, .ref (x + 444), .ref (x + 456), .ref (x + 457), .int (zi i), .int (zi t), .int (zi z), v8] [] h3 Q
  refine xv (x_aload_n 1309 d_L_law_1308 rfl rfl) ?_
  refine xv (x_inv1 1312 (as := []) (rest := []) d_L_law_1309 rfl c_9_145 rfl (Nat.le_of_ble_eq_true rfl) (Nat.le_of_ble_eq_true rfl) c8 (Nat.le_of_ble_eq_true rfl) (Nat.le_of_ble_eq_true rfl) rfl c3) ?_
  refine xv (x_iload 1314 d_L_law_1312 rfl rfl) ?_
  refine v_icmp_eq 1319 1317 d_L_law_1314 rfl rfl (by omega) (by omega) (by omega) (by omega) (fun _ => ?_) (fun k_ => absurd rfl k_)
  refine xv (x_iload 1321 d_L_law_1319 rfl rfl) ?_
  refine v_if_ne 1336 1324 d_L_law_1321 rfl rfl (by omega) (by omega) (fun _ => xv (x_goto 2399 d_L_law_1336 rfl) (nx _ _ _ c9)) (fun kt => ?_)
  refine xv (x_aload_n 1325 d_L_law_1324 rfl rfl) ?_
  refine xv (x_iconst 1326 d_L_law_1325 rfl) ?_
  refine xv (x_laload 1327 d_L_law_1326 rfl (c4 kt)) ?_
  refine xv (x_iload 1329 d_L_law_1327 rfl rfl) ?_
  refine xv (x_i2l 1330 d_L_law_1329 rfl) ?_
  refine xv (x_lcmp 1331 d_L_law_1330 rfl) ?_
  rw [lc_self]
  exact v_if_eq 1336 1334 d_L_law_1331 rfl rfl (by omega) (by omega) (fun _ => xv (x_goto 2399 d_L_law_1336 rfl) (nx _ _ _ c9)) (fun k_ => absurd rfl k_)
theorem K_farthest (I : LI T x N c s h) (hN : N ≤ x) (h0 : 0 ≤ T) (hT1 : T ≤ 90000) (hE : q_EN E N) (hbN : b < N) (hS : E.2 b = some (.int, L, fun j => .int (ys j))) (hL : L ≤ 2560) (hi : 0 ≤ i ∧ i + 5 ≤ L) (next : ∀ h' v6 v7 v8, LI (T + 99) x N (c + 1) (s + 6) h' → Xv E q_m_L_law 2399 [.ref b, .ref x, .ref (x + 444), .ref (x + 456), .ref (x + 457), .int (zi i), v6, v7, v8] [] h' Q) : Xv E q_m_L_law 1339 [.ref b, .ref x, .ref (x + 444), .ref (x + 456), .ref (x + 457), .int (zi i), v6, v7, v8] [] h Q := by
  obtain ⟨⟨M, hR⟩, _⟩ := id I
  obtain ⟨fs7, hb7⟩ := rm_o7 hR
  have hLo := I.2.2.1
  obtain ⟨y1, ey1, y10, y11⟩ := zi_of (ys (i + 1).toNat)
  have G1 : ∀ h' : q_H, Lo h' N → q_gI E h' 0 .int b (zi (i + 1)) = some (.int (zi y1)) := fun h' l => by rw [← ey1]; exact gI_s hS hL (l b hbN) (by omega) (by omega)
  obtain ⟨t, z, h2, h3, c1, c2, c3, c4, ⟨c5, c6, fs8, c7⟩, ⟨fs9, c8⟩, t0, t1⟩ := two_i (mL := q_m_L_farthest) (P_farthest (E := E) hR y10 y11) I hN (fun r h1 t x0 a1 a2 a3 => H_farthest a1 a2 hb7 a3)
  have nx := next h3
  have c9 := li_mono (T' := T + 99) c5 (by omega) (by omega) (Nat.le_refl _) (Nat.le_refl _)
  refine xv (x_aload_n 1340 d_L_law_1339 rfl rfl) ?_
  refine xv (x_aload_n 1341 d_L_law_1340 rfl rfl) ?_
  refine xv (x_iload 1343 d_L_law_1341 rfl rfl) ?_
  refine xv (x_iconst 1344 d_L_law_1343 rfl) ?_
  refine xv (x_iadd 1345 d_L_law_1344 rfl) ?_
  refine xv (x_iaload 1346 d_L_law_1345 rfl (G1 h hLo)) ?_
  refine xv (x_aload_n 1347 d_L_law_1346 rfl rfl) ?_
  refine xv (x_ins1 1350 (as := .ref x :: ([.int (zi y1)] ++ [.ref (x + 456)])) (rest := []) d_L_law_1347 rfl c_9_207 rfl (Nat.le_of_ble_eq_true rfl) (Nat.le_of_ble_eq_true rfl) (Nat.le_of_ble_eq_true rfl) rfl c1) ?_
  refine xv (x_istore 1352 d_L_law_1350 rfl (Nat.le_of_ble_eq_true rfl)) ?_
  show Xv E q_m_L_law 1352 [.ref b, .ref x, .ref (x + 444), .ref (x + 456), .ref (x + 457), .int (zi i), .int (zi t), v7, v8] [] h2 Q
  refine xv (x_aload_n 1353 d_L_law_1352 rfl rfl) ?_
  refine xv (x_aload_n 1354 d_L_law_1353 rfl rfl) ?_
  refine xv (x_iload 1356 d_L_law_1354 rfl rfl) ?_
  refine xv (x_iconst 1357 d_L_law_1356 rfl) ?_
  refine xv (x_iadd 1358 d_L_law_1357 rfl) ?_
  refine xv (x_iaload 1359 d_L_law_1358 rfl (G1 h2 c6)) ?_
  refine xv (x_inv1 1362 (as := [.int (zi y1)]) (rest := []) d_L_law_1359 rfl c_9_209 rfl (Nat.le_of_ble_eq_true rfl) (Nat.le_of_ble_eq_true rfl) c7 (Nat.le_of_ble_eq_true rfl) (Nat.le_of_ble_eq_true rfl) rfl c2) ?_
  refine xv (x_istore 1364 d_L_law_1362 rfl (Nat.le_of_ble_eq_true rfl)) ?_
  show Xv E q_m_L_law 1364 [.ref b, .ref x, .ref (x + 444), .ref (x + 456), .ref (x + 457), .int (zi i), .int (zi t), .int (zi z), v8] [] h3 Q
  refine xv (x_aload_n 1365 d_L_law_1364 rfl rfl) ?_
  refine xv (x_inv1 1368 (as := []) (rest := []) d_L_law_1365 rfl c_9_145 rfl (Nat.le_of_ble_eq_true rfl) (Nat.le_of_ble_eq_true rfl) c8 (Nat.le_of_ble_eq_true rfl) (Nat.le_of_ble_eq_true rfl) rfl c3) ?_
  refine xv (x_iload 1370 d_L_law_1368 rfl rfl) ?_
  refine v_icmp_eq 1375 1373 d_L_law_1370 rfl rfl (by omega) (by omega) (by omega) (by omega) (fun _ => ?_) (fun k_ => absurd rfl k_)
  refine xv (x_iload 1377 d_L_law_1375 rfl rfl) ?_
  refine v_if_ne 1392 1380 d_L_law_1377 rfl rfl (by omega) (by omega) (fun _ => xv (x_goto 2399 d_L_law_1392 rfl) (nx _ _ _ c9)) (fun kt => ?_)
  refine xv (x_aload_n 1381 d_L_law_1380 rfl rfl) ?_
  refine xv (x_iconst 1382 d_L_law_1381 rfl) ?_
  refine xv (x_laload 1383 d_L_law_1382 rfl (c4 kt)) ?_
  refine xv (x_iload 1385 d_L_law_1383 rfl rfl) ?_
  refine xv (x_i2l 1386 d_L_law_1385 rfl) ?_
  refine xv (x_lcmp 1387 d_L_law_1386 rfl) ?_
  rw [lc_self]
  exact v_if_eq 1392 1390 d_L_law_1387 rfl rfl (by omega) (by omega) (fun _ => xv (x_goto 2399 d_L_law_1392 rfl) (nx _ _ _ c9)) (fun k_ => absurd rfl k_)
theorem K_robotOf (I : LI T x N c s h) (hN : N ≤ x) (h0 : 0 ≤ T) (hT1 : T ≤ 90000) (hE : q_EN E N) (hbN : b < N) (hS : E.2 b = some (.int, L, fun j => .int (ys j))) (hL : L ≤ 2560) (hi : 0 ≤ i ∧ i + 5 ≤ L) (next : ∀ h' v6 v7 v8, LI (T + 99) x N (c + 1) (s + 6) h' → Xv E q_m_L_law 2399 [.ref b, .ref x, .ref (x + 444), .ref (x + 456), .ref (x + 457), .int (zi i), v6, v7, v8] [] h' Q) : Xv E q_m_L_law 1395 [.ref b, .ref x, .ref (x + 444), .ref (x + 456), .ref (x + 457), .int (zi i), v6, v7, v8] [] h Q := by
  obtain ⟨⟨M, hR⟩, _⟩ := id I
  obtain ⟨fs7, hb7⟩ := rm_o7 hR
  have hLo := I.2.2.1
  obtain ⟨y1, ey1, y10, y11⟩ := zi_of (ys (i + 1).toNat)
  have G1 : ∀ h' : q_H, Lo h' N → q_gI E h' 0 .int b (zi (i + 1)) = some (.int (zi y1)) := fun h' l => by rw [← ey1]; exact gI_s hS hL (l b hbN) (by omega) (by omega)
  obtain ⟨y2, ey2, y20, y21⟩ := zi_of (ys (i + 2).toNat)
  have G2 : ∀ h' : q_H, Lo h' N → q_gI E h' 0 .int b (zi (i + 2)) = some (.int (zi y2)) := fun h' l => by rw [← ey2]; exact gI_s hS hL (l b hbN) (by omega) (by omega)
  obtain ⟨t, z, h2, h3, c1, c2, c3, c4, ⟨c5, c6, fs8, c7⟩, ⟨fs9, c8⟩, t0, t1⟩ := two_i (mL := q_m_L_robotOf) (P_robotOf (E := E) hR y10 y11 y20 y21) I hN (fun r h1 t x0 a1 a2 a3 => H_robotOf a1 a2 hb7 a3)
  have nx := next h3
  have c9 := li_mono (T' := T + 99) c5 (by omega) (by omega) (Nat.le_refl _) (Nat.le_refl _)
  refine xv (x_aload_n 1396 d_L_law_1395 rfl rfl) ?_
  refine xv (x_aload_n 1397 d_L_law_1396 rfl rfl) ?_
  refine xv (x_iload 1399 d_L_law_1397 rfl rfl) ?_
  refine xv (x_iconst 1400 d_L_law_1399 rfl) ?_
  refine xv (x_iadd 1401 d_L_law_1400 rfl) ?_
  refine xv (x_iaload 1402 d_L_law_1401 rfl (G1 h hLo)) ?_
  refine xv (x_aload_n 1403 d_L_law_1402 rfl rfl) ?_
  refine xv (x_iload 1405 d_L_law_1403 rfl rfl) ?_
  refine xv (x_iconst 1406 d_L_law_1405 rfl) ?_
  refine xv (x_iadd 1407 d_L_law_1406 rfl) ?_
  refine xv (x_iaload 1408 d_L_law_1407 rfl (G2 h hLo)) ?_
  refine xv (x_aload_n 1409 d_L_law_1408 rfl rfl) ?_
  refine xv (x_ins1 1412 (as := .ref x :: ([.int (zi y1), .int (zi y2)] ++ [.ref (x + 456)])) (rest := []) d_L_law_1409 rfl c_9_210 rfl (Nat.le_of_ble_eq_true rfl) (Nat.le_of_ble_eq_true rfl) (Nat.le_of_ble_eq_true rfl) rfl c1) ?_
  refine xv (x_istore 1414 d_L_law_1412 rfl (Nat.le_of_ble_eq_true rfl)) ?_
  show Xv E q_m_L_law 1414 [.ref b, .ref x, .ref (x + 444), .ref (x + 456), .ref (x + 457), .int (zi i), .int (zi t), v7, v8] [] h2 Q
  refine xv (x_aload_n 1415 d_L_law_1414 rfl rfl) ?_
  refine xv (x_aload_n 1416 d_L_law_1415 rfl rfl) ?_
  refine xv (x_iload 1418 d_L_law_1416 rfl rfl) ?_
  refine xv (x_iconst 1419 d_L_law_1418 rfl) ?_
  refine xv (x_iadd 1420 d_L_law_1419 rfl) ?_
  refine xv (x_iaload 1421 d_L_law_1420 rfl (G1 h2 c6)) ?_
  refine xv (x_aload_n 1422 d_L_law_1421 rfl rfl) ?_
  refine xv (x_iload 1424 d_L_law_1422 rfl rfl) ?_
  refine xv (x_iconst 1425 d_L_law_1424 rfl) ?_
  refine xv (x_iadd 1426 d_L_law_1425 rfl) ?_
  refine xv (x_iaload 1427 d_L_law_1426 rfl (G2 h2 c6)) ?_
  refine xv (x_inv1 1430 (as := [.int (zi y1), .int (zi y2)]) (rest := []) d_L_law_1427 rfl c_9_212 rfl (Nat.le_of_ble_eq_true rfl) (Nat.le_of_ble_eq_true rfl) c7 (Nat.le_of_ble_eq_true rfl) (Nat.le_of_ble_eq_true rfl) rfl c2) ?_
  refine xv (x_istore 1432 d_L_law_1430 rfl (Nat.le_of_ble_eq_true rfl)) ?_
  show Xv E q_m_L_law 1432 [.ref b, .ref x, .ref (x + 444), .ref (x + 456), .ref (x + 457), .int (zi i), .int (zi t), .int (zi z), v8] [] h3 Q
  refine xv (x_aload_n 1433 d_L_law_1432 rfl rfl) ?_
  refine xv (x_inv1 1436 (as := []) (rest := []) d_L_law_1433 rfl c_9_145 rfl (Nat.le_of_ble_eq_true rfl) (Nat.le_of_ble_eq_true rfl) c8 (Nat.le_of_ble_eq_true rfl) (Nat.le_of_ble_eq_true rfl) rfl c3) ?_
  refine xv (x_iload 1438 d_L_law_1436 rfl rfl) ?_
  refine v_icmp_eq 1443 1441 d_L_law_1438 rfl rfl (by omega) (by omega) (by omega) (by omega) (fun _ => ?_) (fun k_ => absurd rfl k_)
  refine xv (x_iload 1445 d_L_law_1443 rfl rfl) ?_
  refine v_if_ne 1460 1448 d_L_law_1445 rfl rfl (by omega) (by omega) (fun _ => xv (x_goto 2399 d_L_law_1460 rfl) (nx _ _ _ c9)) (fun kt => ?_)
  refine xv (x_aload_n 1449 d_L_law_1448 rfl rfl) ?_
  refine xv (x_iconst 1450 d_L_law_1449 rfl) ?_
  refine xv (x_laload 1451 d_L_law_1450 rfl (c4 kt)) ?_
  refine xv (x_iload 1453 d_L_law_1451 rfl rfl) ?_
  refine xv (x_i2l 1454 d_L_law_1453 rfl) ?_
  refine xv (x_lcmp 1455 d_L_law_1454 rfl) ?_
  rw [lc_self]
  exact v_if_eq 1460 1458 d_L_law_1455 rfl rfl (by omega) (by omega) (fun _ => xv (x_goto 2399 d_L_law_1460 rfl) (nx _ _ _ c9)) (fun k_ => absurd rfl k_)
theorem K_planned (I : LI T x N c s h) (hN : N ≤ x) (h0 : 0 ≤ T) (hT1 : T ≤ 90000) (hE : q_EN E N) (hbN : b < N) (hS : E.2 b = some (.int, L, fun j => .int (ys j))) (hL : L ≤ 2560) (hi : 0 ≤ i ∧ i + 5 ≤ L) (next : ∀ h' v6 v7 v8, LI (T + 99) x N (c + 1) (s + 6) h' → Xv E q_m_L_law 2399 [.ref b, .ref x, .ref (x + 444), .ref (x + 456), .ref (x + 457), .int (zi i), v6, v7, v8] [] h' Q) : Xv E q_m_L_law 1463 [.ref b, .ref x, .ref (x + 444), .ref (x + 456), .ref (x + 457), .int (zi i), v6, v7, v8] [] h Q := by
  obtain ⟨⟨M, hR⟩, _⟩ := id I
  obtain ⟨fs7, hb7⟩ := rm_o7 hR
  have hLo := I.2.2.1
  obtain ⟨y1, ey1, y10, y11⟩ := zi_of (ys (i + 1).toNat)
  have G1 : ∀ h' : q_H, Lo h' N → q_gI E h' 0 .int b (zi (i + 1)) = some (.int (zi y1)) := fun h' l => by rw [← ey1]; exact gI_s hS hL (l b hbN) (by omega) (by omega)
  obtain ⟨y2, ey2, y20, y21⟩ := zi_of (ys (i + 2).toNat)
  have G2 : ∀ h' : q_H, Lo h' N → q_gI E h' 0 .int b (zi (i + 2)) = some (.int (zi y2)) := fun h' l => by rw [← ey2]; exact gI_s hS hL (l b hbN) (by omega) (by omega)
  obtain ⟨t, z, h2, h3, c1, c2, c3, c4, ⟨c5, c6, fs8, c7⟩, ⟨fs9, c8⟩, t0, t1⟩ := two_i (mL := q_m_L_planned) (P_planned (E := E) hR y10 y11 y20 y21) I hN (fun r h1 t x0 a1 a2 a3 => H_planned a1 a2 hb7 a3)
  have nx := next h3
  have c9 := li_mono (T' := T + 99) c5 (by omega) (by omega) (Nat.le_refl _) (Nat.le_refl _)
  refine xv (x_aload_n 1464 d_L_law_1463 rfl rfl) ?_
  refine xv (x_aload_n 1465 d_L_law_1464 rfl rfl) ?_
  refine xv (x_iload 1467 d_L_law_1465 rfl rfl) ?_
  refine xv (x_iconst 1468 d_L_law_1467 rfl) ?_
  refine xv (x_iadd 1469 d_L_law_1468 rfl) ?_
  refine xv (x_iaload 1470 d_L_law_1469 rfl (G1 h hLo)) ?_
  refine xv (x_aload_n 1471 d_L_law_1470 rfl rfl) ?_
  refine xv (x_iload 1473 d_L_law_1471 rfl rfl) ?_
  refine xv (x_iconst 1474 d_L_law_1473 rfl) ?_
  refine xv (x_iadd 1475 d_L_law_1474 rfl) ?_
  refine xv (x_iaload 1476 d_L_law_1475 rfl (G2 h hLo)) ?_
  refine xv (x_aload_n 1477 d_L_law_1476 rfl rfl) ?_
  refine xv (x_ins1 1480 (as := .ref x :: ([.int (zi y1), .int (zi y2)] ++ [.ref (x + 456)])) (rest := []) d_L_law_1477 rfl c_9_213 rfl (Nat.le_of_ble_eq_true rfl) (Nat.le_of_ble_eq_true rfl) (Nat.le_of_ble_eq_true rfl) rfl c1) ?_
  refine xv (x_istore 1482 d_L_law_1480 rfl (Nat.le_of_ble_eq_true rfl)) ?_
  show Xv E q_m_L_law 1482 [.ref b, .ref x, .ref (x + 444), .ref (x + 456), .ref (x + 457), .int (zi i), .int (zi t), v7, v8] [] h2 Q
  refine xv (x_aload_n 1483 d_L_law_1482 rfl rfl) ?_
  refine xv (x_aload_n 1484 d_L_law_1483 rfl rfl) ?_
  refine xv (x_iload 1486 d_L_law_1484 rfl rfl) ?_
  refine xv (x_iconst 1487 d_L_law_1486 rfl) ?_
  refine xv (x_iadd 1488 d_L_law_1487 rfl) ?_
  refine xv (x_iaload 1489 d_L_law_1488 rfl (G1 h2 c6)) ?_
  refine xv (x_aload_n 1490 d_L_law_1489 rfl rfl) ?_
  refine xv (x_iload 1492 d_L_law_1490 rfl rfl) ?_
  refine xv (x_iconst 1493 d_L_law_1492 rfl) ?_
  refine xv (x_iadd 1494 d_L_law_1493 rfl) ?_
  refine xv (x_iaload 1495 d_L_law_1494 rfl (G2 h2 c6)) ?_
  refine xv (x_inv1 1498 (as := [.int (zi y1), .int (zi y2)]) (rest := []) d_L_law_1495 rfl c_9_215 rfl (Nat.le_of_ble_eq_true rfl) (Nat.le_of_ble_eq_true rfl) c7 (Nat.le_of_ble_eq_true rfl) (Nat.le_of_ble_eq_true rfl) rfl c2) ?_
  refine xv (x_istore 1500 d_L_law_1498 rfl (Nat.le_of_ble_eq_true rfl)) ?_
  show Xv E q_m_L_law 1500 [.ref b, .ref x, .ref (x + 444), .ref (x + 456), .ref (x + 457), .int (zi i), .int (zi t), .int (zi z), v8] [] h3 Q
  refine xv (x_aload_n 1501 d_L_law_1500 rfl rfl) ?_
  refine xv (x_inv1 1504 (as := []) (rest := []) d_L_law_1501 rfl c_9_145 rfl (Nat.le_of_ble_eq_true rfl) (Nat.le_of_ble_eq_true rfl) c8 (Nat.le_of_ble_eq_true rfl) (Nat.le_of_ble_eq_true rfl) rfl c3) ?_
  refine xv (x_iload 1506 d_L_law_1504 rfl rfl) ?_
  refine v_icmp_eq 1511 1509 d_L_law_1506 rfl rfl (by omega) (by omega) (by omega) (by omega) (fun _ => ?_) (fun k_ => absurd rfl k_)
  refine xv (x_iload 1513 d_L_law_1511 rfl rfl) ?_
  refine v_if_ne 1528 1516 d_L_law_1513 rfl rfl (by omega) (by omega) (fun _ => xv (x_goto 2399 d_L_law_1528 rfl) (nx _ _ _ c9)) (fun kt => ?_)
  refine xv (x_aload_n 1517 d_L_law_1516 rfl rfl) ?_
  refine xv (x_iconst 1518 d_L_law_1517 rfl) ?_
  refine xv (x_laload 1519 d_L_law_1518 rfl (c4 kt)) ?_
  refine xv (x_iload 1521 d_L_law_1519 rfl rfl) ?_
  refine xv (x_i2l 1522 d_L_law_1521 rfl) ?_
  refine xv (x_lcmp 1523 d_L_law_1522 rfl) ?_
  rw [lc_self]
  exact v_if_eq 1528 1526 d_L_law_1523 rfl rfl (by omega) (by omega) (fun _ => xv (x_goto 2399 d_L_law_1528 rfl) (nx _ _ _ c9)) (fun k_ => absurd rfl k_)
theorem K_reserved (I : LI T x N c s h) (hN : N ≤ x) (h0 : 0 ≤ T) (hT1 : T ≤ 90000) (hE : q_EN E N) (hbN : b < N) (hS : E.2 b = some (.int, L, fun j => .int (ys j))) (hL : L ≤ 2560) (hi : 0 ≤ i ∧ i + 5 ≤ L) (next : ∀ h' v6 v7 v8, LI (T + 99) x N (c + 1) (s + 6) h' → Xv E q_m_L_law 2399 [.ref b, .ref x, .ref (x + 444), .ref (x + 456), .ref (x + 457), .int (zi i), v6, v7, v8] [] h' Q) : Xv E q_m_L_law 1531 [.ref b, .ref x, .ref (x + 444), .ref (x + 456), .ref (x + 457), .int (zi i), v6, v7, v8] [] h Q := by
  obtain ⟨⟨M, hR⟩, _⟩ := id I
  obtain ⟨fs7, hb7⟩ := rm_o7 hR
  have hLo := I.2.2.1
  obtain ⟨y1, ey1, y10, y11⟩ := zi_of (ys (i + 1).toNat)
  have G1 : ∀ h' : q_H, Lo h' N → q_gI E h' 0 .int b (zi (i + 1)) = some (.int (zi y1)) := fun h' l => by rw [← ey1]; exact gI_s hS hL (l b hbN) (by omega) (by omega)
  obtain ⟨y2, ey2, y20, y21⟩ := zi_of (ys (i + 2).toNat)
  have G2 : ∀ h' : q_H, Lo h' N → q_gI E h' 0 .int b (zi (i + 2)) = some (.int (zi y2)) := fun h' l => by rw [← ey2]; exact gI_s hS hL (l b hbN) (by omega) (by omega)
  obtain ⟨t, z, h2, h3, c1, c2, c3, c4, ⟨c5, c6, fs8, c7⟩, ⟨fs9, c8⟩, t0, t1⟩ := two_i (mL := q_m_L_reserved) (P_reserved (E := E) hR y10 y11 y20 y21) I hN (fun r h1 t x0 a1 a2 a3 => H_reserved a1 a2 hb7 a3)
  have nx := next h3
  have c9 := li_mono (T' := T + 99) c5 (by omega) (by omega) (Nat.le_refl _) (Nat.le_refl _)
  refine xv (x_aload_n 1532 d_L_law_1531 rfl rfl) ?_
  refine xv (x_aload_n 1533 d_L_law_1532 rfl rfl) ?_
  refine xv (x_iload 1535 d_L_law_1533 rfl rfl) ?_
  refine xv (x_iconst 1536 d_L_law_1535 rfl) ?_
  refine xv (x_iadd 1537 d_L_law_1536 rfl) ?_
  refine xv (x_iaload 1538 d_L_law_1537 rfl (G1 h hLo)) ?_
  refine xv (x_aload_n 1539 d_L_law_1538 rfl rfl) ?_
  refine xv (x_iload 1541 d_L_law_1539 rfl rfl) ?_
  refine xv (x_iconst 1542 d_L_law_1541 rfl) ?_
  refine xv (x_iadd 1543 d_L_law_1542 rfl) ?_
  refine xv (x_iaload 1544 d_L_law_1543 rfl (G2 h hLo)) ?_
  refine xv (x_aload_n 1545 d_L_law_1544 rfl rfl) ?_
  refine xv (x_ins1 1548 (as := .ref x :: ([.int (zi y1), .int (zi y2)] ++ [.ref (x + 456)])) (rest := []) d_L_law_1545 rfl c_9_216 rfl (Nat.le_of_ble_eq_true rfl) (Nat.le_of_ble_eq_true rfl) (Nat.le_of_ble_eq_true rfl) rfl c1) ?_
  refine xv (x_istore 1550 d_L_law_1548 rfl (Nat.le_of_ble_eq_true rfl)) ?_
  show Xv E q_m_L_law 1550 [.ref b, .ref x, .ref (x + 444), .ref (x + 456), .ref (x + 457), .int (zi i), .int (zi t), v7, v8] [] h2 Q
  refine xv (x_aload_n 1551 d_L_law_1550 rfl rfl) ?_
  refine xv (x_aload_n 1552 d_L_law_1551 rfl rfl) ?_
  refine xv (x_iload 1554 d_L_law_1552 rfl rfl) ?_
  refine xv (x_iconst 1555 d_L_law_1554 rfl) ?_
  refine xv (x_iadd 1556 d_L_law_1555 rfl) ?_
  refine xv (x_iaload 1557 d_L_law_1556 rfl (G1 h2 c6)) ?_
  refine xv (x_aload_n 1558 d_L_law_1557 rfl rfl) ?_
  refine xv (x_iload 1560 d_L_law_1558 rfl rfl) ?_
  refine xv (x_iconst 1561 d_L_law_1560 rfl) ?_
  refine xv (x_iadd 1562 d_L_law_1561 rfl) ?_
  refine xv (x_iaload 1563 d_L_law_1562 rfl (G2 h2 c6)) ?_
  refine xv (x_inv1 1566 (as := [.int (zi y1), .int (zi y2)]) (rest := []) d_L_law_1563 rfl c_9_218 rfl (Nat.le_of_ble_eq_true rfl) (Nat.le_of_ble_eq_true rfl) c7 (Nat.le_of_ble_eq_true rfl) (Nat.le_of_ble_eq_true rfl) rfl c2) ?_
  refine xv (x_istore 1568 d_L_law_1566 rfl (Nat.le_of_ble_eq_true rfl)) ?_
  show Xv E q_m_L_law 1568 [.ref b, .ref x, .ref (x + 444), .ref (x + 456), .ref (x + 457), .int (zi i), .int (zi t), .int (zi z), v8] [] h3 Q
  refine xv (x_aload_n 1569 d_L_law_1568 rfl rfl) ?_
  refine xv (x_inv1 1572 (as := []) (rest := []) d_L_law_1569 rfl c_9_145 rfl (Nat.le_of_ble_eq_true rfl) (Nat.le_of_ble_eq_true rfl) c8 (Nat.le_of_ble_eq_true rfl) (Nat.le_of_ble_eq_true rfl) rfl c3) ?_
  refine xv (x_iload 1574 d_L_law_1572 rfl rfl) ?_
  refine v_icmp_eq 1579 1577 d_L_law_1574 rfl rfl (by omega) (by omega) (by omega) (by omega) (fun _ => ?_) (fun k_ => absurd rfl k_)
  refine xv (x_iload 1581 d_L_law_1579 rfl rfl) ?_
  refine v_if_ne 1596 1584 d_L_law_1581 rfl rfl (by omega) (by omega) (fun _ => xv (x_goto 2399 d_L_law_1596 rfl) (nx _ _ _ c9)) (fun kt => ?_)
  refine xv (x_aload_n 1585 d_L_law_1584 rfl rfl) ?_
  refine xv (x_iconst 1586 d_L_law_1585 rfl) ?_
  refine xv (x_laload 1587 d_L_law_1586 rfl (c4 kt)) ?_
  refine xv (x_iload 1589 d_L_law_1587 rfl rfl) ?_
  refine xv (x_i2l 1590 d_L_law_1589 rfl) ?_
  refine xv (x_lcmp 1591 d_L_law_1590 rfl) ?_
  rw [lc_self]
  exact v_if_eq 1596 1594 d_L_law_1591 rfl rfl (by omega) (by omega) (fun _ => xv (x_goto 2399 d_L_law_1596 rfl) (nx _ _ _ c9)) (fun k_ => absurd rfl k_)
theorem K_arrival (I : LI T x N c s h) (hN : N ≤ x) (h0 : 0 ≤ T) (hT1 : T ≤ 90000) (hE : q_EN E N) (hbN : b < N) (hS : E.2 b = some (.int, L, fun j => .int (ys j))) (hL : L ≤ 2560) (hi : 0 ≤ i ∧ i + 5 ≤ L) (next : ∀ h' v6 v7 v8, LI (T + 99) x N (c + 1) (s + 6) h' → Xv E q_m_L_law 2399 [.ref b, .ref x, .ref (x + 444), .ref (x + 456), .ref (x + 457), .int (zi i), v6, v7, v8] [] h' Q) : Xv E q_m_L_law 1599 [.ref b, .ref x, .ref (x + 444), .ref (x + 456), .ref (x + 457), .int (zi i), v6, v7, v8] [] h Q := by
  obtain ⟨⟨M, hR⟩, _⟩ := id I
  obtain ⟨fs7, hb7⟩ := rm_o7 hR
  have hLo := I.2.2.1
  obtain ⟨y1, ey1, y10, y11⟩ := zi_of (ys (i + 1).toNat)
  have G1 : ∀ h' : q_H, Lo h' N → q_gI E h' 0 .int b (zi (i + 1)) = some (.int (zi y1)) := fun h' l => by rw [← ey1]; exact gI_s hS hL (l b hbN) (by omega) (by omega)
  obtain ⟨y2, ey2, y20, y21⟩ := zi_of (ys (i + 2).toNat)
  have G2 : ∀ h' : q_H, Lo h' N → q_gI E h' 0 .int b (zi (i + 2)) = some (.int (zi y2)) := fun h' l => by rw [← ey2]; exact gI_s hS hL (l b hbN) (by omega) (by omega)
  obtain ⟨t, z, h2, h3, c1, c2, c3, c4, ⟨c5, c6, fs8, c7⟩, ⟨fs9, c8⟩, t0, t1⟩ := two_i (mL := q_m_L_arrival) (P_arrival (E := E) hR y10 y11 y20 y21) I hN (fun r h1 t x0 a1 a2 a3 => H_arrival a1 a2 hb7 a3)
  have nx := next h3
  have c9 := li_mono (T' := T + 99) c5 (by omega) (by omega) (Nat.le_refl _) (Nat.le_refl _)
  refine xv (x_aload_n 1600 d_L_law_1599 rfl rfl) ?_
  refine xv (x_aload_n 1601 d_L_law_1600 rfl rfl) ?_
  refine xv (x_iload 1603 d_L_law_1601 rfl rfl) ?_
  refine xv (x_iconst 1604 d_L_law_1603 rfl) ?_
  refine xv (x_iadd 1605 d_L_law_1604 rfl) ?_
  refine xv (x_iaload 1606 d_L_law_1605 rfl (G1 h hLo)) ?_
  refine xv (x_aload_n 1607 d_L_law_1606 rfl rfl) ?_
  refine xv (x_iload 1609 d_L_law_1607 rfl rfl) ?_
  refine xv (x_iconst 1610 d_L_law_1609 rfl) ?_
  refine xv (x_iadd 1611 d_L_law_1610 rfl) ?_
  refine xv (x_iaload 1612 d_L_law_1611 rfl (G2 h hLo)) ?_
  refine xv (x_aload_n 1613 d_L_law_1612 rfl rfl) ?_
  refine xv (x_ins1 1616 (as := .ref x :: ([.int (zi y1), .int (zi y2)] ++ [.ref (x + 456)])) (rest := []) d_L_law_1613 rfl c_9_219 rfl (Nat.le_of_ble_eq_true rfl) (Nat.le_of_ble_eq_true rfl) (Nat.le_of_ble_eq_true rfl) rfl c1) ?_
  refine xv (x_istore 1618 d_L_law_1616 rfl (Nat.le_of_ble_eq_true rfl)) ?_
  show Xv E q_m_L_law 1618 [.ref b, .ref x, .ref (x + 444), .ref (x + 456), .ref (x + 457), .int (zi i), .int (zi t), v7, v8] [] h2 Q
  refine xv (x_aload_n 1619 d_L_law_1618 rfl rfl) ?_
  refine xv (x_aload_n 1620 d_L_law_1619 rfl rfl) ?_
  refine xv (x_iload 1622 d_L_law_1620 rfl rfl) ?_
  refine xv (x_iconst 1623 d_L_law_1622 rfl) ?_
  refine xv (x_iadd 1624 d_L_law_1623 rfl) ?_
  refine xv (x_iaload 1625 d_L_law_1624 rfl (G1 h2 c6)) ?_
  refine xv (x_aload_n 1626 d_L_law_1625 rfl rfl) ?_
  refine xv (x_iload 1628 d_L_law_1626 rfl rfl) ?_
  refine xv (x_iconst 1629 d_L_law_1628 rfl) ?_
  refine xv (x_iadd 1630 d_L_law_1629 rfl) ?_
  refine xv (x_iaload 1631 d_L_law_1630 rfl (G2 h2 c6)) ?_
  refine xv (x_inv1 1634 (as := [.int (zi y1), .int (zi y2)]) (rest := []) d_L_law_1631 rfl c_9_221 rfl (Nat.le_of_ble_eq_true rfl) (Nat.le_of_ble_eq_true rfl) c7 (Nat.le_of_ble_eq_true rfl) (Nat.le_of_ble_eq_true rfl) rfl c2) ?_
  refine xv (x_istore 1636 d_L_law_1634 rfl (Nat.le_of_ble_eq_true rfl)) ?_
  show Xv E q_m_L_law 1636 [.ref b, .ref x, .ref (x + 444), .ref (x + 456), .ref (x + 457), .int (zi i), .int (zi t), .int (zi z), v8] [] h3 Q
  refine xv (x_aload_n 1637 d_L_law_1636 rfl rfl) ?_
  refine xv (x_inv1 1640 (as := []) (rest := []) d_L_law_1637 rfl c_9_145 rfl (Nat.le_of_ble_eq_true rfl) (Nat.le_of_ble_eq_true rfl) c8 (Nat.le_of_ble_eq_true rfl) (Nat.le_of_ble_eq_true rfl) rfl c3) ?_
  refine xv (x_iload 1642 d_L_law_1640 rfl rfl) ?_
  refine v_icmp_eq 1647 1645 d_L_law_1642 rfl rfl (by omega) (by omega) (by omega) (by omega) (fun _ => ?_) (fun k_ => absurd rfl k_)
  refine xv (x_iload 1649 d_L_law_1647 rfl rfl) ?_
  refine v_if_ne 1664 1652 d_L_law_1649 rfl rfl (by omega) (by omega) (fun _ => xv (x_goto 2399 d_L_law_1664 rfl) (nx _ _ _ c9)) (fun kt => ?_)
  refine xv (x_aload_n 1653 d_L_law_1652 rfl rfl) ?_
  refine xv (x_iconst 1654 d_L_law_1653 rfl) ?_
  refine xv (x_laload 1655 d_L_law_1654 rfl (c4 kt)) ?_
  refine xv (x_iload 1657 d_L_law_1655 rfl rfl) ?_
  refine xv (x_i2l 1658 d_L_law_1657 rfl) ?_
  refine xv (x_lcmp 1659 d_L_law_1658 rfl) ?_
  rw [lc_self]
  exact v_if_eq 1664 1662 d_L_law_1659 rfl rfl (by omega) (by omega) (fun _ => xv (x_goto 2399 d_L_law_1664 rfl) (nx _ _ _ c9)) (fun k_ => absurd rfl k_)
theorem K_arrivalAgain (I : LI T x N c s h) (hN : N ≤ x) (h0 : 0 ≤ T) (hT1 : T ≤ 90000) (hE : q_EN E N) (hbN : b < N) (hS : E.2 b = some (.int, L, fun j => .int (ys j))) (hL : L ≤ 2560) (hi : 0 ≤ i ∧ i + 5 ≤ L) (next : ∀ h' v6 v7 v8, LI (T + 99) x N (c + 1) (s + 6) h' → Xv E q_m_L_law 2399 [.ref b, .ref x, .ref (x + 444), .ref (x + 456), .ref (x + 457), .int (zi i), v6, v7, v8] [] h' Q) : Xv E q_m_L_law 1667 [.ref b, .ref x, .ref (x + 444), .ref (x + 456), .ref (x + 457), .int (zi i), v6, v7, v8] [] h Q := by
  obtain ⟨⟨M, hR⟩, _⟩ := id I
  obtain ⟨fs7, hb7⟩ := rm_o7 hR
  have hLo := I.2.2.1
  obtain ⟨y1, ey1, y10, y11⟩ := zi_of (ys (i + 1).toNat)
  have G1 : ∀ h' : q_H, Lo h' N → q_gI E h' 0 .int b (zi (i + 1)) = some (.int (zi y1)) := fun h' l => by rw [← ey1]; exact gI_s hS hL (l b hbN) (by omega) (by omega)
  obtain ⟨y2, ey2, y20, y21⟩ := zi_of (ys (i + 2).toNat)
  have G2 : ∀ h' : q_H, Lo h' N → q_gI E h' 0 .int b (zi (i + 2)) = some (.int (zi y2)) := fun h' l => by rw [← ey2]; exact gI_s hS hL (l b hbN) (by omega) (by omega)
  obtain ⟨t, z, h2, h3, c1, c2, c3, c4, ⟨c5, c6, fs8, c7⟩, ⟨fs9, c8⟩, t0, t1⟩ := two_i (mL := q_m_L_arrivalAgain) (P_arrivalAgain (E := E) hR y10 y11 y20 y21) I hN (fun r h1 t x0 a1 a2 a3 => H_arrivalAgain a1 a2 hb7 a3)
  have nx := next h3
  have c9 := li_mono (T' := T + 99) c5 (by omega) (by omega) (Nat.le_refl _) (Nat.le_refl _)
  refine xv (x_aload_n 1668 d_L_law_1667 rfl rfl) ?_
  refine xv (x_aload_n 1669 d_L_law_1668 rfl rfl) ?_
  refine xv (x_iload 1671 d_L_law_1669 rfl rfl) ?_
  refine xv (x_iconst 1672 d_L_law_1671 rfl) ?_
  refine xv (x_iadd 1673 d_L_law_1672 rfl) ?_
  refine xv (x_iaload 1674 d_L_law_1673 rfl (G1 h hLo)) ?_
  refine xv (x_aload_n 1675 d_L_law_1674 rfl rfl) ?_
  refine xv (x_iload 1677 d_L_law_1675 rfl rfl) ?_
  refine xv (x_iconst 1678 d_L_law_1677 rfl) ?_
  refine xv (x_iadd 1679 d_L_law_1678 rfl) ?_
  refine xv (x_iaload 1680 d_L_law_1679 rfl (G2 h hLo)) ?_
  refine xv (x_aload_n 1681 d_L_law_1680 rfl rfl) ?_
  refine xv (x_ins1 1684 (as := .ref x :: ([.int (zi y1), .int (zi y2)] ++ [.ref (x + 456)])) (rest := []) d_L_law_1681 rfl c_9_222 rfl (Nat.le_of_ble_eq_true rfl) (Nat.le_of_ble_eq_true rfl) (Nat.le_of_ble_eq_true rfl) rfl c1) ?_
  refine xv (x_istore 1686 d_L_law_1684 rfl (Nat.le_of_ble_eq_true rfl)) ?_
  show Xv E q_m_L_law 1686 [.ref b, .ref x, .ref (x + 444), .ref (x + 456), .ref (x + 457), .int (zi i), .int (zi t), v7, v8] [] h2 Q
  refine xv (x_aload_n 1687 d_L_law_1686 rfl rfl) ?_
  refine xv (x_aload_n 1688 d_L_law_1687 rfl rfl) ?_
  refine xv (x_iload 1690 d_L_law_1688 rfl rfl) ?_
  refine xv (x_iconst 1691 d_L_law_1690 rfl) ?_
  refine xv (x_iadd 1692 d_L_law_1691 rfl) ?_
  refine xv (x_iaload 1693 d_L_law_1692 rfl (G1 h2 c6)) ?_
  refine xv (x_aload_n 1694 d_L_law_1693 rfl rfl) ?_
  refine xv (x_iload 1696 d_L_law_1694 rfl rfl) ?_
  refine xv (x_iconst 1697 d_L_law_1696 rfl) ?_
  refine xv (x_iadd 1698 d_L_law_1697 rfl) ?_
  refine xv (x_iaload 1699 d_L_law_1698 rfl (G2 h2 c6)) ?_
  refine xv (x_inv1 1702 (as := [.int (zi y1), .int (zi y2)]) (rest := []) d_L_law_1699 rfl c_9_224 rfl (Nat.le_of_ble_eq_true rfl) (Nat.le_of_ble_eq_true rfl) c7 (Nat.le_of_ble_eq_true rfl) (Nat.le_of_ble_eq_true rfl) rfl c2) ?_
  refine xv (x_istore 1704 d_L_law_1702 rfl (Nat.le_of_ble_eq_true rfl)) ?_
  show Xv E q_m_L_law 1704 [.ref b, .ref x, .ref (x + 444), .ref (x + 456), .ref (x + 457), .int (zi i), .int (zi t), .int (zi z), v8] [] h3 Q
  refine xv (x_aload_n 1705 d_L_law_1704 rfl rfl) ?_
  refine xv (x_inv1 1708 (as := []) (rest := []) d_L_law_1705 rfl c_9_145 rfl (Nat.le_of_ble_eq_true rfl) (Nat.le_of_ble_eq_true rfl) c8 (Nat.le_of_ble_eq_true rfl) (Nat.le_of_ble_eq_true rfl) rfl c3) ?_
  refine xv (x_iload 1710 d_L_law_1708 rfl rfl) ?_
  refine v_icmp_eq 1715 1713 d_L_law_1710 rfl rfl (by omega) (by omega) (by omega) (by omega) (fun _ => ?_) (fun k_ => absurd rfl k_)
  refine xv (x_iload 1717 d_L_law_1715 rfl rfl) ?_
  refine v_if_ne 1732 1720 d_L_law_1717 rfl rfl (by omega) (by omega) (fun _ => xv (x_goto 2399 d_L_law_1732 rfl) (nx _ _ _ c9)) (fun kt => ?_)
  refine xv (x_aload_n 1721 d_L_law_1720 rfl rfl) ?_
  refine xv (x_iconst 1722 d_L_law_1721 rfl) ?_
  refine xv (x_laload 1723 d_L_law_1722 rfl (c4 kt)) ?_
  refine xv (x_iload 1725 d_L_law_1723 rfl rfl) ?_
  refine xv (x_i2l 1726 d_L_law_1725 rfl) ?_
  refine xv (x_lcmp 1727 d_L_law_1726 rfl) ?_
  rw [lc_self]
  exact v_if_eq 1732 1730 d_L_law_1727 rfl rfl (by omega) (by omega) (fun _ => xv (x_goto 2399 d_L_law_1732 rfl) (nx _ _ _ c9)) (fun k_ => absurd rfl k_)
theorem K_orderOf (I : LI T x N c s h) (hN : N ≤ x) (h0 : 0 ≤ T) (hT1 : T ≤ 90000) (hE : q_EN E N) (hbN : b < N) (hS : E.2 b = some (.int, L, fun j => .int (ys j))) (hL : L ≤ 2560) (hi : 0 ≤ i ∧ i + 5 ≤ L) (next : ∀ h' v6 v7 v8, LI (T + 99) x N (c + 1) (s + 6) h' → Xv E q_m_L_law 2399 [.ref b, .ref x, .ref (x + 444), .ref (x + 456), .ref (x + 457), .int (zi i), v6, v7, v8] [] h' Q) : Xv E q_m_L_law 1735 [.ref b, .ref x, .ref (x + 444), .ref (x + 456), .ref (x + 457), .int (zi i), v6, v7, v8] [] h Q := by
  obtain ⟨⟨M, hR⟩, _⟩ := id I
  obtain ⟨fs7, hb7⟩ := rm_o7 hR
  have hLo := I.2.2.1
  obtain ⟨y1, ey1, y10, y11⟩ := zi_of (ys (i + 1).toNat)
  have G1 : ∀ h' : q_H, Lo h' N → q_gI E h' 0 .int b (zi (i + 1)) = some (.int (zi y1)) := fun h' l => by rw [← ey1]; exact gI_s hS hL (l b hbN) (by omega) (by omega)
  obtain ⟨y2, ey2, y20, y21⟩ := zi_of (ys (i + 2).toNat)
  have G2 : ∀ h' : q_H, Lo h' N → q_gI E h' 0 .int b (zi (i + 2)) = some (.int (zi y2)) := fun h' l => by rw [← ey2]; exact gI_s hS hL (l b hbN) (by omega) (by omega)
  obtain ⟨t, z, h2, h3, c1, c2, c3, c4, ⟨c5, c6, fs8, c7⟩, ⟨fs9, c8⟩, t0, t1⟩ := two_i (mL := q_m_L_orderOf) (P_orderOf (E := E) hR y10 y11 y20 y21) I hN (fun r h1 t x0 a1 a2 a3 => H_orderOf a1 a2 hb7 a3)
  have nx := next h3
  have c9 := li_mono (T' := T + 99) c5 (by omega) (by omega) (Nat.le_refl _) (Nat.le_refl _)
  refine xv (x_aload_n 1736 d_L_law_1735 rfl rfl) ?_
  refine xv (x_aload_n 1737 d_L_law_1736 rfl rfl) ?_
  refine xv (x_iload 1739 d_L_law_1737 rfl rfl) ?_
  refine xv (x_iconst 1740 d_L_law_1739 rfl) ?_
  refine xv (x_iadd 1741 d_L_law_1740 rfl) ?_
  refine xv (x_iaload 1742 d_L_law_1741 rfl (G1 h hLo)) ?_
  refine xv (x_aload_n 1743 d_L_law_1742 rfl rfl) ?_
  refine xv (x_iload 1745 d_L_law_1743 rfl rfl) ?_
  refine xv (x_iconst 1746 d_L_law_1745 rfl) ?_
  refine xv (x_iadd 1747 d_L_law_1746 rfl) ?_
  refine xv (x_iaload 1748 d_L_law_1747 rfl (G2 h hLo)) ?_
  refine xv (x_aload_n 1749 d_L_law_1748 rfl rfl) ?_
  refine xv (x_ins1 1752 (as := .ref x :: ([.int (zi y1), .int (zi y2)] ++ [.ref (x + 456)])) (rest := []) d_L_law_1749 rfl c_9_225 rfl (Nat.le_of_ble_eq_true rfl) (Nat.le_of_ble_eq_true rfl) (Nat.le_of_ble_eq_true rfl) rfl c1) ?_
  refine xv (x_istore 1754 d_L_law_1752 rfl (Nat.le_of_ble_eq_true rfl)) ?_
  show Xv E q_m_L_law 1754 [.ref b, .ref x, .ref (x + 444), .ref (x + 456), .ref (x + 457), .int (zi i), .int (zi t), v7, v8] [] h2 Q
  refine xv (x_aload_n 1755 d_L_law_1754 rfl rfl) ?_
  refine xv (x_aload_n 1756 d_L_law_1755 rfl rfl) ?_
  refine xv (x_iload 1758 d_L_law_1756 rfl rfl) ?_
  refine xv (x_iconst 1759 d_L_law_1758 rfl) ?_
  refine xv (x_iadd 1760 d_L_law_1759 rfl) ?_
  refine xv (x_iaload 1761 d_L_law_1760 rfl (G1 h2 c6)) ?_
  refine xv (x_aload_n 1762 d_L_law_1761 rfl rfl) ?_
  refine xv (x_iload 1764 d_L_law_1762 rfl rfl) ?_
  refine xv (x_iconst 1765 d_L_law_1764 rfl) ?_
  refine xv (x_iadd 1766 d_L_law_1765 rfl) ?_
  refine xv (x_iaload 1767 d_L_law_1766 rfl (G2 h2 c6)) ?_
  refine xv (x_inv1 1770 (as := [.int (zi y1), .int (zi y2)]) (rest := []) d_L_law_1767 rfl c_9_227 rfl (Nat.le_of_ble_eq_true rfl) (Nat.le_of_ble_eq_true rfl) c7 (Nat.le_of_ble_eq_true rfl) (Nat.le_of_ble_eq_true rfl) rfl c2) ?_
  refine xv (x_istore 1772 d_L_law_1770 rfl (Nat.le_of_ble_eq_true rfl)) ?_
  show Xv E q_m_L_law 1772 [.ref b, .ref x, .ref (x + 444), .ref (x + 456), .ref (x + 457), .int (zi i), .int (zi t), .int (zi z), v8] [] h3 Q
  refine xv (x_aload_n 1773 d_L_law_1772 rfl rfl) ?_
  refine xv (x_inv1 1776 (as := []) (rest := []) d_L_law_1773 rfl c_9_145 rfl (Nat.le_of_ble_eq_true rfl) (Nat.le_of_ble_eq_true rfl) c8 (Nat.le_of_ble_eq_true rfl) (Nat.le_of_ble_eq_true rfl) rfl c3) ?_
  refine xv (x_iload 1778 d_L_law_1776 rfl rfl) ?_
  refine v_icmp_eq 1783 1781 d_L_law_1778 rfl rfl (by omega) (by omega) (by omega) (by omega) (fun _ => ?_) (fun k_ => absurd rfl k_)
  refine xv (x_iload 1785 d_L_law_1783 rfl rfl) ?_
  refine v_if_ne 1800 1788 d_L_law_1785 rfl rfl (by omega) (by omega) (fun _ => xv (x_goto 2399 d_L_law_1800 rfl) (nx _ _ _ c9)) (fun kt => ?_)
  refine xv (x_aload_n 1789 d_L_law_1788 rfl rfl) ?_
  refine xv (x_iconst 1790 d_L_law_1789 rfl) ?_
  refine xv (x_laload 1791 d_L_law_1790 rfl (c4 kt)) ?_
  refine xv (x_iload 1793 d_L_law_1791 rfl rfl) ?_
  refine xv (x_i2l 1794 d_L_law_1793 rfl) ?_
  refine xv (x_lcmp 1795 d_L_law_1794 rfl) ?_
  rw [lc_self]
  exact v_if_eq 1800 1798 d_L_law_1795 rfl rfl (by omega) (by omega) (fun _ => xv (x_goto 2399 d_L_law_1800 rfl) (nx _ _ _ c9)) (fun k_ => absurd rfl k_)
theorem K_line (I : LI T x N c s h) (hN : N ≤ x) (h0 : 0 ≤ T) (hT1 : T ≤ 90000) (hE : q_EN E N) (hbN : b < N) (hS : E.2 b = some (.int, L, fun j => .int (ys j))) (hL : L ≤ 2560) (hi : 0 ≤ i ∧ i + 5 ≤ L) (next : ∀ h' v6 v7 v8, LI (T + 99) x N (c + 1) (s + 6) h' → Xv E q_m_L_law 2399 [.ref b, .ref x, .ref (x + 444), .ref (x + 456), .ref (x + 457), .int (zi i), v6, v7, v8] [] h' Q) : Xv E q_m_L_law 1803 [.ref b, .ref x, .ref (x + 444), .ref (x + 456), .ref (x + 457), .int (zi i), v6, v7, v8] [] h Q := by
  obtain ⟨⟨M, hR⟩, _⟩ := id I
  obtain ⟨fs7, hb7⟩ := rm_o7 hR
  have hLo := I.2.2.1
  obtain ⟨y1, ey1, y10, y11⟩ := zi_of (ys (i + 1).toNat)
  have G1 : ∀ h' : q_H, Lo h' N → q_gI E h' 0 .int b (zi (i + 1)) = some (.int (zi y1)) := fun h' l => by rw [← ey1]; exact gI_s hS hL (l b hbN) (by omega) (by omega)
  obtain ⟨y2, ey2, y20, y21⟩ := zi_of (ys (i + 2).toNat)
  have G2 : ∀ h' : q_H, Lo h' N → q_gI E h' 0 .int b (zi (i + 2)) = some (.int (zi y2)) := fun h' l => by rw [← ey2]; exact gI_s hS hL (l b hbN) (by omega) (by omega)
  obtain ⟨t, z, h2, h3, c1, c2, c3, c4, ⟨c5, c6, fs8, c7⟩, ⟨fs9, c8⟩, t0, t1⟩ := two_i (mL := q_m_L_line) (P_line (E := E) hR y10 y11 y20 y21) I hN (fun r h1 t x0 a1 a2 a3 => H_line a1 a2 hb7 a3)
  have nx := next h3
  have c9 := li_mono (T' := T + 99) c5 (by omega) (by omega) (Nat.le_refl _) (Nat.le_refl _)
  refine xv (x_aload_n 1804 d_L_law_1803 rfl rfl) ?_
  refine xv (x_aload_n 1805 d_L_law_1804 rfl rfl) ?_
  refine xv (x_iload 1807 d_L_law_1805 rfl rfl) ?_
  refine xv (x_iconst 1808 d_L_law_1807 rfl) ?_
  refine xv (x_iadd 1809 d_L_law_1808 rfl) ?_
  refine xv (x_iaload 1810 d_L_law_1809 rfl (G1 h hLo)) ?_
  refine xv (x_aload_n 1811 d_L_law_1810 rfl rfl) ?_
  refine xv (x_iload 1813 d_L_law_1811 rfl rfl) ?_
  refine xv (x_iconst 1814 d_L_law_1813 rfl) ?_
  refine xv (x_iadd 1815 d_L_law_1814 rfl) ?_
  refine xv (x_iaload 1816 d_L_law_1815 rfl (G2 h hLo)) ?_
  refine xv (x_aload_n 1817 d_L_law_1816 rfl rfl) ?_
  refine xv (x_ins1 1820 (as := .ref x :: ([.int (zi y1), .int (zi y2)] ++ [.ref (x + 456)])) (rest := []) d_L_law_1817 rfl c_9_228 rfl (Nat.le_of_ble_eq_true rfl) (Nat.le_of_ble_eq_true rfl) (Nat.le_of_ble_eq_true rfl) rfl c1) ?_
  refine xv (x_istore 1822 d_L_law_1820 rfl (Nat.le_of_ble_eq_true rfl)) ?_
  show Xv E q_m_L_law 1822 [.ref b, .ref x, .ref (x + 444), .ref (x + 456), .ref (x + 457), .int (zi i), .int (zi t), v7, v8] [] h2 Q
  refine xv (x_aload_n 1823 d_L_law_1822 rfl rfl) ?_
  refine xv (x_aload_n 1824 d_L_law_1823 rfl rfl) ?_
  refine xv (x_iload 1826 d_L_law_1824 rfl rfl) ?_
  refine xv (x_iconst 1827 d_L_law_1826 rfl) ?_
  refine xv (x_iadd 1828 d_L_law_1827 rfl) ?_
  refine xv (x_iaload 1829 d_L_law_1828 rfl (G1 h2 c6)) ?_
  refine xv (x_aload_n 1830 d_L_law_1829 rfl rfl) ?_
  refine xv (x_iload 1832 d_L_law_1830 rfl rfl) ?_
  refine xv (x_iconst 1833 d_L_law_1832 rfl) ?_
  refine xv (x_iadd 1834 d_L_law_1833 rfl) ?_
  refine xv (x_iaload 1835 d_L_law_1834 rfl (G2 h2 c6)) ?_
  refine xv (x_inv1 1838 (as := [.int (zi y1), .int (zi y2)]) (rest := []) d_L_law_1835 rfl c_9_230 rfl (Nat.le_of_ble_eq_true rfl) (Nat.le_of_ble_eq_true rfl) c7 (Nat.le_of_ble_eq_true rfl) (Nat.le_of_ble_eq_true rfl) rfl c2) ?_
  refine xv (x_istore 1840 d_L_law_1838 rfl (Nat.le_of_ble_eq_true rfl)) ?_
  show Xv E q_m_L_law 1840 [.ref b, .ref x, .ref (x + 444), .ref (x + 456), .ref (x + 457), .int (zi i), .int (zi t), .int (zi z), v8] [] h3 Q
  refine xv (x_aload_n 1841 d_L_law_1840 rfl rfl) ?_
  refine xv (x_inv1 1844 (as := []) (rest := []) d_L_law_1841 rfl c_9_145 rfl (Nat.le_of_ble_eq_true rfl) (Nat.le_of_ble_eq_true rfl) c8 (Nat.le_of_ble_eq_true rfl) (Nat.le_of_ble_eq_true rfl) rfl c3) ?_
  refine xv (x_iload 1846 d_L_law_1844 rfl rfl) ?_
  refine v_icmp_eq 1851 1849 d_L_law_1846 rfl rfl (by omega) (by omega) (by omega) (by omega) (fun _ => ?_) (fun k_ => absurd rfl k_)
  refine xv (x_iload 1853 d_L_law_1851 rfl rfl) ?_
  refine v_if_ne 1868 1856 d_L_law_1853 rfl rfl (by omega) (by omega) (fun _ => xv (x_goto 2399 d_L_law_1868 rfl) (nx _ _ _ c9)) (fun kt => ?_)
  refine xv (x_aload_n 1857 d_L_law_1856 rfl rfl) ?_
  refine xv (x_iconst 1858 d_L_law_1857 rfl) ?_
  refine xv (x_laload 1859 d_L_law_1858 rfl (c4 kt)) ?_
  refine xv (x_iload 1861 d_L_law_1859 rfl rfl) ?_
  refine xv (x_i2l 1862 d_L_law_1861 rfl) ?_
  refine xv (x_lcmp 1863 d_L_law_1862 rfl) ?_
  rw [lc_self]
  exact v_if_eq 1868 1866 d_L_law_1863 rfl rfl (by omega) (by omega) (fun _ => xv (x_goto 2399 d_L_law_1868 rfl) (nx _ _ _ c9)) (fun k_ => absurd rfl k_)
theorem K_waiting (I : LI T x N c s h) (hN : N ≤ x) (h0 : 0 ≤ T) (hT1 : T ≤ 90000) (hE : q_EN E N) (hbN : b < N) (hS : E.2 b = some (.int, L, fun j => .int (ys j))) (hL : L ≤ 2560) (hi : 0 ≤ i ∧ i + 5 ≤ L) (next : ∀ h' v6 v7 v8, LI (T + 99) x N (c + 1) (s + 6) h' → Xv E q_m_L_law 2399 [.ref b, .ref x, .ref (x + 444), .ref (x + 456), .ref (x + 457), .int (zi i), v6, v7, v8] [] h' Q) : Xv E q_m_L_law 1871 [.ref b, .ref x, .ref (x + 444), .ref (x + 456), .ref (x + 457), .int (zi i), v6, v7, v8] [] h Q := by
  obtain ⟨⟨M, hR⟩, _⟩ := id I
  obtain ⟨fs7, hb7⟩ := rm_o7 hR
  have hLo := I.2.2.1
  obtain ⟨y1, ey1, y10, y11⟩ := zi_of (ys (i + 1).toNat)
  have G1 : ∀ h' : q_H, Lo h' N → q_gI E h' 0 .int b (zi (i + 1)) = some (.int (zi y1)) := fun h' l => by rw [← ey1]; exact gI_s hS hL (l b hbN) (by omega) (by omega)
  obtain ⟨t, z, h2, h3, c1, c2, c3, c4, ⟨c5, c6, fs8, c7⟩, ⟨fs9, c8⟩, t0, t1⟩ := two_i (mL := q_m_L_waiting) (P_waiting (E := E) hR y10 y11) I hN (fun r h1 t x0 a1 a2 a3 => H_waiting a1 a2 hb7 a3)
  have nx := next h3
  have c9 := li_mono (T' := T + 99) c5 (by omega) (by omega) (Nat.le_refl _) (Nat.le_refl _)
  refine xv (x_aload_n 1872 d_L_law_1871 rfl rfl) ?_
  refine xv (x_aload_n 1873 d_L_law_1872 rfl rfl) ?_
  refine xv (x_iload 1875 d_L_law_1873 rfl rfl) ?_
  refine xv (x_iconst 1876 d_L_law_1875 rfl) ?_
  refine xv (x_iadd 1877 d_L_law_1876 rfl) ?_
  refine xv (x_iaload 1878 d_L_law_1877 rfl (G1 h hLo)) ?_
  refine xv (x_aload_n 1879 d_L_law_1878 rfl rfl) ?_
  refine xv (x_ins1 1882 (as := .ref x :: ([.int (zi y1)] ++ [.ref (x + 456)])) (rest := []) d_L_law_1879 rfl c_9_231 rfl (Nat.le_of_ble_eq_true rfl) (Nat.le_of_ble_eq_true rfl) (Nat.le_of_ble_eq_true rfl) rfl c1) ?_
  refine xv (x_istore 1884 d_L_law_1882 rfl (Nat.le_of_ble_eq_true rfl)) ?_
  show Xv E q_m_L_law 1884 [.ref b, .ref x, .ref (x + 444), .ref (x + 456), .ref (x + 457), .int (zi i), .int (zi t), v7, v8] [] h2 Q
  refine xv (x_aload_n 1885 d_L_law_1884 rfl rfl) ?_
  refine xv (x_aload_n 1886 d_L_law_1885 rfl rfl) ?_
  refine xv (x_iload 1888 d_L_law_1886 rfl rfl) ?_
  refine xv (x_iconst 1889 d_L_law_1888 rfl) ?_
  refine xv (x_iadd 1890 d_L_law_1889 rfl) ?_
  refine xv (x_iaload 1891 d_L_law_1890 rfl (G1 h2 c6)) ?_
  refine xv (x_inv1 1894 (as := [.int (zi y1)]) (rest := []) d_L_law_1891 rfl c_9_233 rfl (Nat.le_of_ble_eq_true rfl) (Nat.le_of_ble_eq_true rfl) c7 (Nat.le_of_ble_eq_true rfl) (Nat.le_of_ble_eq_true rfl) rfl c2) ?_
  refine xv (x_istore 1896 d_L_law_1894 rfl (Nat.le_of_ble_eq_true rfl)) ?_
  show Xv E q_m_L_law 1896 [.ref b, .ref x, .ref (x + 444), .ref (x + 456), .ref (x + 457), .int (zi i), .int (zi t), .int (zi z), v8] [] h3 Q
  refine xv (x_aload_n 1897 d_L_law_1896 rfl rfl) ?_
  refine xv (x_inv1 1900 (as := []) (rest := []) d_L_law_1897 rfl c_9_145 rfl (Nat.le_of_ble_eq_true rfl) (Nat.le_of_ble_eq_true rfl) c8 (Nat.le_of_ble_eq_true rfl) (Nat.le_of_ble_eq_true rfl) rfl c3) ?_
  refine xv (x_iload 1902 d_L_law_1900 rfl rfl) ?_
  refine v_icmp_eq 1907 1905 d_L_law_1902 rfl rfl (by omega) (by omega) (by omega) (by omega) (fun _ => ?_) (fun k_ => absurd rfl k_)
  refine xv (x_iload 1909 d_L_law_1907 rfl rfl) ?_
  refine v_if_ne 1924 1912 d_L_law_1909 rfl rfl (by omega) (by omega) (fun _ => xv (x_goto 2399 d_L_law_1924 rfl) (nx _ _ _ c9)) (fun kt => ?_)
  refine xv (x_aload_n 1913 d_L_law_1912 rfl rfl) ?_
  refine xv (x_iconst 1914 d_L_law_1913 rfl) ?_
  refine xv (x_laload 1915 d_L_law_1914 rfl (c4 kt)) ?_
  refine xv (x_iload 1917 d_L_law_1915 rfl rfl) ?_
  refine xv (x_i2l 1918 d_L_law_1917 rfl) ?_
  refine xv (x_lcmp 1919 d_L_law_1918 rfl) ?_
  rw [lc_self]
  exact v_if_eq 1924 1922 d_L_law_1919 rfl rfl (by omega) (by omega) (fun _ => xv (x_goto 2399 d_L_law_1924 rfl) (nx _ _ _ c9)) (fun k_ => absurd rfl k_)
theorem K_suited (I : LI T x N c s h) (hN : N ≤ x) (h0 : 0 ≤ T) (hT1 : T ≤ 90000) (hE : q_EN E N) (hbN : b < N) (hS : E.2 b = some (.int, L, fun j => .int (ys j))) (hL : L ≤ 2560) (hi : 0 ≤ i ∧ i + 5 ≤ L) (next : ∀ h' v6 v7 v8, LI (T + 99) x N (c + 1) (s + 6) h' → Xv E q_m_L_law 2399 [.ref b, .ref x, .ref (x + 444), .ref (x + 456), .ref (x + 457), .int (zi i), v6, v7, v8] [] h' Q) : Xv E q_m_L_law 1927 [.ref b, .ref x, .ref (x + 444), .ref (x + 456), .ref (x + 457), .int (zi i), v6, v7, v8] [] h Q := by
  obtain ⟨⟨M, hR⟩, _⟩ := id I
  obtain ⟨fs7, hb7⟩ := rm_o7 hR
  have hLo := I.2.2.1
  obtain ⟨y1, ey1, y10, y11⟩ := zi_of (ys (i + 1).toNat)
  have G1 : ∀ h' : q_H, Lo h' N → q_gI E h' 0 .int b (zi (i + 1)) = some (.int (zi y1)) := fun h' l => by rw [← ey1]; exact gI_s hS hL (l b hbN) (by omega) (by omega)
  obtain ⟨t, z, h2, h3, c1, c2, c3, c4, ⟨c5, c6, fs8, c7⟩, ⟨fs9, c8⟩, t0, t1⟩ := two_i (mL := q_m_L_suited) (P_suited (E := E) hR y10 y11) I hN (fun r h1 t x0 a1 a2 a3 => H_suited a1 a2 hb7 a3)
  have nx := next h3
  have c9 := li_mono (T' := T + 99) c5 (by omega) (by omega) (Nat.le_refl _) (Nat.le_refl _)
  refine xv (x_aload_n 1928 d_L_law_1927 rfl rfl) ?_
  refine xv (x_aload_n 1929 d_L_law_1928 rfl rfl) ?_
  refine xv (x_iload 1931 d_L_law_1929 rfl rfl) ?_
  refine xv (x_iconst 1932 d_L_law_1931 rfl) ?_
  refine xv (x_iadd 1933 d_L_law_1932 rfl) ?_
  refine xv (x_iaload 1934 d_L_law_1933 rfl (G1 h hLo)) ?_
  refine xv (x_aload_n 1935 d_L_law_1934 rfl rfl) ?_
  refine xv (x_ins1 1938 (as := .ref x :: ([.int (zi y1)] ++ [.ref (x + 456)])) (rest := []) d_L_law_1935 rfl c_9_234 rfl (Nat.le_of_ble_eq_true rfl) (Nat.le_of_ble_eq_true rfl) (Nat.le_of_ble_eq_true rfl) rfl c1) ?_
  refine xv (x_istore 1940 d_L_law_1938 rfl (Nat.le_of_ble_eq_true rfl)) ?_
  show Xv E q_m_L_law 1940 [.ref b, .ref x, .ref (x + 444), .ref (x + 456), .ref (x + 457), .int (zi i), .int (zi t), v7, v8] [] h2 Q
  refine xv (x_aload_n 1941 d_L_law_1940 rfl rfl) ?_
  refine xv (x_aload_n 1942 d_L_law_1941 rfl rfl) ?_
  refine xv (x_iload 1944 d_L_law_1942 rfl rfl) ?_
  refine xv (x_iconst 1945 d_L_law_1944 rfl) ?_
  refine xv (x_iadd 1946 d_L_law_1945 rfl) ?_
  refine xv (x_iaload 1947 d_L_law_1946 rfl (G1 h2 c6)) ?_
  refine xv (x_inv1 1950 (as := [.int (zi y1)]) (rest := []) d_L_law_1947 rfl c_9_236 rfl (Nat.le_of_ble_eq_true rfl) (Nat.le_of_ble_eq_true rfl) c7 (Nat.le_of_ble_eq_true rfl) (Nat.le_of_ble_eq_true rfl) rfl c2) ?_
  refine xv (x_istore 1952 d_L_law_1950 rfl (Nat.le_of_ble_eq_true rfl)) ?_
  show Xv E q_m_L_law 1952 [.ref b, .ref x, .ref (x + 444), .ref (x + 456), .ref (x + 457), .int (zi i), .int (zi t), .int (zi z), v8] [] h3 Q
  refine xv (x_aload_n 1953 d_L_law_1952 rfl rfl) ?_
  refine xv (x_inv1 1956 (as := []) (rest := []) d_L_law_1953 rfl c_9_145 rfl (Nat.le_of_ble_eq_true rfl) (Nat.le_of_ble_eq_true rfl) c8 (Nat.le_of_ble_eq_true rfl) (Nat.le_of_ble_eq_true rfl) rfl c3) ?_
  refine xv (x_iload 1958 d_L_law_1956 rfl rfl) ?_
  refine v_icmp_eq 1963 1961 d_L_law_1958 rfl rfl (by omega) (by omega) (by omega) (by omega) (fun _ => ?_) (fun k_ => absurd rfl k_)
  refine xv (x_iload 1965 d_L_law_1963 rfl rfl) ?_
  refine v_if_ne 1980 1968 d_L_law_1965 rfl rfl (by omega) (by omega) (fun _ => xv (x_goto 2399 d_L_law_1980 rfl) (nx _ _ _ c9)) (fun kt => ?_)
  refine xv (x_aload_n 1969 d_L_law_1968 rfl rfl) ?_
  refine xv (x_iconst 1970 d_L_law_1969 rfl) ?_
  refine xv (x_laload 1971 d_L_law_1970 rfl (c4 kt)) ?_
  refine xv (x_iload 1973 d_L_law_1971 rfl rfl) ?_
  refine xv (x_i2l 1974 d_L_law_1973 rfl) ?_
  refine xv (x_lcmp 1975 d_L_law_1974 rfl) ?_
  rw [lc_self]
  exact v_if_eq 1980 1978 d_L_law_1975 rfl rfl (by omega) (by omega) (fun _ => xv (x_goto 2399 d_L_law_1980 rfl) (nx _ _ _ c9)) (fun k_ => absurd rfl k_)
theorem K_tour (I : LI T x N c s h) (hN : N ≤ x) (h0 : 0 ≤ T) (hT1 : T ≤ 90000) (hE : q_EN E N) (hbN : b < N) (hS : E.2 b = some (.int, L, fun j => .int (ys j))) (hL : L ≤ 2560) (hi : 0 ≤ i ∧ i + 5 ≤ L) (next : ∀ h' v6 v7 v8, LI (T + 99) x N (c + 1) (s + 6) h' → Xv E q_m_L_law 2399 [.ref b, .ref x, .ref (x + 444), .ref (x + 456), .ref (x + 457), .int (zi i), v6, v7, v8] [] h' Q) : Xv E q_m_L_law 1983 [.ref b, .ref x, .ref (x + 444), .ref (x + 456), .ref (x + 457), .int (zi i), v6, v7, v8] [] h Q := by
  obtain ⟨⟨M, hR⟩, _⟩ := id I
  obtain ⟨fs7, hb7⟩ := rm_o7 hR
  have hLo := I.2.2.1
  obtain ⟨y1, ey1, y10, y11⟩ := zi_of (ys (i + 1).toNat)
  have G1 : ∀ h' : q_H, Lo h' N → q_gI E h' 0 .int b (zi (i + 1)) = some (.int (zi y1)) := fun h' l => by rw [← ey1]; exact gI_s hS hL (l b hbN) (by omega) (by omega)
  obtain ⟨t, z, h2, h3, c1, c2, c3, c4, ⟨c5, c6, fs8, c7⟩, ⟨fs9, c8⟩, t0, t1⟩ := two_i (mL := q_m_L_tour) (P_tour (E := E) hR y10 y11) I hN (fun r h1 t x0 a1 a2 a3 => H_tour a1 a2 hb7 a3)
  have nx := next h3
  have c9 := li_mono (T' := T + 99) c5 (by omega) (by omega) (Nat.le_refl _) (Nat.le_refl _)
  refine xv (x_aload_n 1984 d_L_law_1983 rfl rfl) ?_
  refine xv (x_aload_n 1985 d_L_law_1984 rfl rfl) ?_
  refine xv (x_iload 1987 d_L_law_1985 rfl rfl) ?_
  refine xv (x_iconst 1988 d_L_law_1987 rfl) ?_
  refine xv (x_iadd 1989 d_L_law_1988 rfl) ?_
  refine xv (x_iaload 1990 d_L_law_1989 rfl (G1 h hLo)) ?_
  refine xv (x_aload_n 1991 d_L_law_1990 rfl rfl) ?_
  refine xv (x_ins1 1994 (as := .ref x :: ([.int (zi y1)] ++ [.ref (x + 456)])) (rest := []) d_L_law_1991 rfl c_9_237 rfl (Nat.le_of_ble_eq_true rfl) (Nat.le_of_ble_eq_true rfl) (Nat.le_of_ble_eq_true rfl) rfl c1) ?_
  refine xv (x_istore 1996 d_L_law_1994 rfl (Nat.le_of_ble_eq_true rfl)) ?_
  show Xv E q_m_L_law 1996 [.ref b, .ref x, .ref (x + 444), .ref (x + 456), .ref (x + 457), .int (zi i), .int (zi t), v7, v8] [] h2 Q
  refine xv (x_aload_n 1997 d_L_law_1996 rfl rfl) ?_
  refine xv (x_aload_n 1998 d_L_law_1997 rfl rfl) ?_
  refine xv (x_iload 2000 d_L_law_1998 rfl rfl) ?_
  refine xv (x_iconst 2001 d_L_law_2000 rfl) ?_
  refine xv (x_iadd 2002 d_L_law_2001 rfl) ?_
  refine xv (x_iaload 2003 d_L_law_2002 rfl (G1 h2 c6)) ?_
  refine xv (x_inv1 2006 (as := [.int (zi y1)]) (rest := []) d_L_law_2003 rfl c_9_239 rfl (Nat.le_of_ble_eq_true rfl) (Nat.le_of_ble_eq_true rfl) c7 (Nat.le_of_ble_eq_true rfl) (Nat.le_of_ble_eq_true rfl) rfl c2) ?_
  refine xv (x_istore 2008 d_L_law_2006 rfl (Nat.le_of_ble_eq_true rfl)) ?_
  show Xv E q_m_L_law 2008 [.ref b, .ref x, .ref (x + 444), .ref (x + 456), .ref (x + 457), .int (zi i), .int (zi t), .int (zi z), v8] [] h3 Q
  refine xv (x_aload_n 2009 d_L_law_2008 rfl rfl) ?_
  refine xv (x_inv1 2012 (as := []) (rest := []) d_L_law_2009 rfl c_9_145 rfl (Nat.le_of_ble_eq_true rfl) (Nat.le_of_ble_eq_true rfl) c8 (Nat.le_of_ble_eq_true rfl) (Nat.le_of_ble_eq_true rfl) rfl c3) ?_
  refine xv (x_iload 2014 d_L_law_2012 rfl rfl) ?_
  refine v_icmp_eq 2019 2017 d_L_law_2014 rfl rfl (by omega) (by omega) (by omega) (by omega) (fun _ => ?_) (fun k_ => absurd rfl k_)
  refine xv (x_iload 2021 d_L_law_2019 rfl rfl) ?_
  refine v_if_ne 2036 2024 d_L_law_2021 rfl rfl (by omega) (by omega) (fun _ => xv (x_goto 2399 d_L_law_2036 rfl) (nx _ _ _ c9)) (fun kt => ?_)
  refine xv (x_aload_n 2025 d_L_law_2024 rfl rfl) ?_
  refine xv (x_iconst 2026 d_L_law_2025 rfl) ?_
  refine xv (x_laload 2027 d_L_law_2026 rfl (c4 kt)) ?_
  refine xv (x_iload 2029 d_L_law_2027 rfl rfl) ?_
  refine xv (x_i2l 2030 d_L_law_2029 rfl) ?_
  refine xv (x_lcmp 2031 d_L_law_2030 rfl) ?_
  rw [lc_self]
  exact v_if_eq 2036 2034 d_L_law_2031 rfl rfl (by omega) (by omega) (fun _ => xv (x_goto 2399 d_L_law_2036 rfl) (nx _ _ _ c9)) (fun k_ => absurd rfl k_)
theorem K_loaded (I : LI T x N c s h) (hN : N ≤ x) (h0 : 0 ≤ T) (hT1 : T ≤ 90000) (hE : q_EN E N) (hbN : b < N) (hS : E.2 b = some (.int, L, fun j => .int (ys j))) (hL : L ≤ 2560) (hi : 0 ≤ i ∧ i + 5 ≤ L) (next : ∀ h' v6 v7 v8, LI (T + 99) x N (c + 1) (s + 6) h' → Xv E q_m_L_law 2399 [.ref b, .ref x, .ref (x + 444), .ref (x + 456), .ref (x + 457), .int (zi i), v6, v7, v8] [] h' Q) : Xv E q_m_L_law 2039 [.ref b, .ref x, .ref (x + 444), .ref (x + 456), .ref (x + 457), .int (zi i), v6, v7, v8] [] h Q := by
  obtain ⟨⟨M, hR⟩, _⟩ := id I
  obtain ⟨fs7, hb7⟩ := rm_o7 hR
  have hLo := I.2.2.1
  obtain ⟨t, z, h2, h3, hz, c1, c2, c3, c4, ⟨c5, c6, fs8, c7⟩, ⟨fs9, c8⟩, t0, t1⟩ := two_f (mL := q_m_L_loaded) (P_ := fun p => chkF p = true) (bo_mono (P_loaded2 (E := E) hR) (Int.le_refl _) h0) (fun v hv => hv) I hN (fun r h1 t x0 hz a1 a2 a3 => H_loaded (by have hz := hz; unfold chkF at hz; rw [Bool.and_eq_true] at hz; exact of_decide_eq_true hz.1) a1 a2 hb7 a3)
  have nx := next h3
  have c9 := li_mono (T' := T + 99) c5 (by omega) (by omega) (Nat.le_refl _) (Nat.le_refl _)
  refine xv (x_aload_n 2040 d_L_law_2039 rfl rfl) ?_
  refine xv (x_aload 2042 d_L_law_2040 rfl rfl) ?_
  refine xv (x_ins1 2045 (as := .ref x :: ([] ++ [.ref (x + 457)])) (rest := []) d_L_law_2042 rfl c_9_240 rfl (Nat.le_of_ble_eq_true rfl) (Nat.le_of_ble_eq_true rfl) (Nat.le_of_ble_eq_true rfl) rfl c1) ?_
  refine xv (x_istore 2047 d_L_law_2045 rfl (Nat.le_of_ble_eq_true rfl)) ?_
  show Xv E q_m_L_law 2047 [.ref b, .ref x, .ref (x + 444), .ref (x + 456), .ref (x + 457), .int (zi i), .int (zi t), v7, v8] [] h2 Q
  refine xv (x_aload_n 2048 d_L_law_2047 rfl rfl) ?_
  refine xv (x_inv1 2051 (as := []) (rest := []) d_L_law_2048 rfl c_9_243 rfl (Nat.le_of_ble_eq_true rfl) (Nat.le_of_ble_eq_true rfl) c7 (Nat.le_of_ble_eq_true rfl) (Nat.le_of_ble_eq_true rfl) rfl c2) ?_
  refine xv (x_fstore 2053 d_L_law_2051 rfl (Nat.le_of_ble_eq_true rfl)) ?_
  show Xv E q_m_L_law 2053 [.ref b, .ref x, .ref (x + 444), .ref (x + 456), .ref (x + 457), .int (zi i), .int (zi t), .float z, v8] [] h3 Q
  refine xv (x_aload_n 2054 d_L_law_2053 rfl rfl) ?_
  refine xv (x_inv1 2057 (as := []) (rest := []) d_L_law_2054 rfl c_9_145 rfl (Nat.le_of_ble_eq_true rfl) (Nat.le_of_ble_eq_true rfl) c8 (Nat.le_of_ble_eq_true rfl) (Nat.le_of_ble_eq_true rfl) rfl c3) ?_
  refine xv (x_iload 2059 d_L_law_2057 rfl rfl) ?_
  refine v_icmp_eq 2064 2062 d_L_law_2059 rfl rfl (by omega) (by omega) (by omega) (by omega) (fun _ => ?_) (fun k_ => absurd rfl k_)
  refine xv (x_iload 2066 d_L_law_2064 rfl rfl) ?_
  refine v_if_ne 2102 2069 d_L_law_2066 rfl rfl (by omega) (by omega) (fun _ => xv (x_goto 2399 d_L_law_2102 rfl) (nx _ _ _ c9)) (fun kt => ?_)
  refine xv (x_aload 2071 d_L_law_2069 rfl rfl) ?_
  refine xv (x_iconst 2072 d_L_law_2071 rfl) ?_
  refine xv (x_daload 2073 d_L_law_2072 rfl (c4 kt)) ?_
  refine xv (x_fload 2075 d_L_law_2073 rfl rfl) ?_
  have hz2 := hz
  unfold chkF at hz2
  rw [Bool.and_eq_true] at hz2
  refine xv (x_f2d 2076 d_L_law_2075 rfl (of_decide_eq_true hz2.1)) ?_
  refine xv (x_dcmp 2077 d_L_law_2076 rfl) ?_
  rw [of_decide_eq_true hz2.2]
  exact v_if_eq 2102 2080 d_L_law_2077 rfl rfl (by omega) (by omega) (fun _ => xv (x_goto 2399 d_L_law_2102 rfl) (nx _ _ _ c9)) (fun k_ => absurd rfl k_)
theorem K_lateness (I : LI T x N c s h) (hN : N ≤ x) (h0 : 0 ≤ T) (hT1 : T ≤ 90000) (hE : q_EN E N) (hbN : b < N) (hS : E.2 b = some (.int, L, fun j => .int (ys j))) (hL : L ≤ 2560) (hi : 0 ≤ i ∧ i + 5 ≤ L) (next : ∀ h' v6 v7 v8, LI (T + 99) x N (c + 1) (s + 6) h' → Xv E q_m_L_law 2399 [.ref b, .ref x, .ref (x + 444), .ref (x + 456), .ref (x + 457), .int (zi i), v6, v7, v8] [] h' Q) : Xv E q_m_L_law 2105 [.ref b, .ref x, .ref (x + 444), .ref (x + 456), .ref (x + 457), .int (zi i), v6, v7, v8] [] h Q := by
  obtain ⟨⟨M, hR⟩, _⟩ := id I
  obtain ⟨fs7, hb7⟩ := rm_o7 hR
  have hLo := I.2.2.1
  obtain ⟨t, z, h2, h3, c1, c2, c3, c4, ⟨c5, c6, fs8, c7⟩, ⟨fs9, c8⟩, t0, t1⟩ := two_d (mL := q_m_L_lateness) (P_lateness (E := E) hR ) (fun v hv => ⟨hv.choose, hv.choose_spec.1⟩) I hN (fun r h1 t x0 a1 a2 a3 => H_lateness a1 a2 hb7 a3)
  have nx := next h3
  have c9 := li_mono (T' := T + 99) c5 (by omega) (by omega) (Nat.le_refl _) (Nat.le_refl _)
  refine xv (x_aload_n 2106 d_L_law_2105 rfl rfl) ?_
  refine xv (x_aload 2108 d_L_law_2106 rfl rfl) ?_
  refine xv (x_ins1 2111 (as := .ref x :: ([] ++ [.ref (x + 457)])) (rest := []) d_L_law_2108 rfl c_9_244 rfl (Nat.le_of_ble_eq_true rfl) (Nat.le_of_ble_eq_true rfl) (Nat.le_of_ble_eq_true rfl) rfl c1) ?_
  refine xv (x_istore 2113 d_L_law_2111 rfl (Nat.le_of_ble_eq_true rfl)) ?_
  show Xv E q_m_L_law 2113 [.ref b, .ref x, .ref (x + 444), .ref (x + 456), .ref (x + 457), .int (zi i), .int (zi t), v7, v8] [] h2 Q
  refine xv (x_aload_n 2114 d_L_law_2113 rfl rfl) ?_
  refine xv (x_inv1 2117 (as := []) (rest := []) d_L_law_2114 rfl c_9_246 rfl (Nat.le_of_ble_eq_true rfl) (Nat.le_of_ble_eq_true rfl) c7 (Nat.le_of_ble_eq_true rfl) (Nat.le_of_ble_eq_true rfl) rfl c2) ?_
  refine xv (x_dstore 2119 d_L_law_2117 rfl (Nat.le_of_ble_eq_true rfl)) ?_
  show Xv E q_m_L_law 2119 [.ref b, .ref x, .ref (x + 444), .ref (x + 456), .ref (x + 457), .int (zi i), .int (zi t), .double z, .null] [] h3 Q
  refine xv (x_aload_n 2120 d_L_law_2119 rfl rfl) ?_
  refine xv (x_inv1 2123 (as := []) (rest := []) d_L_law_2120 rfl c_9_145 rfl (Nat.le_of_ble_eq_true rfl) (Nat.le_of_ble_eq_true rfl) c8 (Nat.le_of_ble_eq_true rfl) (Nat.le_of_ble_eq_true rfl) rfl c3) ?_
  refine xv (x_iload 2125 d_L_law_2123 rfl rfl) ?_
  refine v_icmp_eq 2130 2128 d_L_law_2125 rfl rfl (by omega) (by omega) (by omega) (by omega) (fun _ => ?_) (fun k_ => absurd rfl k_)
  refine xv (x_iload 2132 d_L_law_2130 rfl rfl) ?_
  refine v_if_ne 2167 2135 d_L_law_2132 rfl rfl (by omega) (by omega) (fun _ => xv (x_goto 2399 d_L_law_2167 rfl) (nx _ _ _ c9)) (fun kt => ?_)
  refine xv (x_aload 2137 d_L_law_2135 rfl rfl) ?_
  refine xv (x_iconst 2138 d_L_law_2137 rfl) ?_
  refine xv (x_daload 2139 d_L_law_2138 rfl (c4 kt)) ?_
  refine xv (x_dload 2141 d_L_law_2139 rfl rfl) ?_
  refine xv (x_dcmp 2142 d_L_law_2141 rfl) ?_
  obtain ⟨u, eu, u0, u1_⟩ := zi_of (Op.cmpValue (FP.dcmp z z) .l)
  rw [eu]
  refine v_if_eq 2167 2145 d_L_law_2142 rfl rfl u0 u1_ (fun _ => xv (x_goto 2399 d_L_law_2167 rfl) (nx _ _ _ c9)) (fun ku => ?_)
  refine xv (x_aload 2147 d_L_law_2145 rfl rfl) ?_
  refine xv (x_iconst 2148 d_L_law_2147 rfl) ?_
  refine xv (x_daload 2149 d_L_law_2148 rfl (c4 kt)) ?_
  refine xv (x_aload 2151 d_L_law_2149 rfl rfl) ?_
  refine xv (x_iconst 2152 d_L_law_2151 rfl) ?_
  refine xv (x_daload 2153 d_L_law_2152 rfl (c4 kt)) ?_
  refine xv (x_dcmp 2154 d_L_law_2153 rfl) ?_
  rw [eu]
  refine v_if_eq 2165 2157 d_L_law_2154 rfl rfl u0 u1_ (fun k_ => absurd k_ ku) (fun _ => ?_)
  refine xv (x_dload 2159 d_L_law_2157 rfl rfl) ?_
  refine xv (x_dload 2161 d_L_law_2159 rfl rfl) ?_
  refine xv (x_dcmp 2162 d_L_law_2161 rfl) ?_
  rw [eu]
  exact v_if_ne 2167 2165 d_L_law_2162 rfl rfl u0 u1_ (fun _ => xv (x_goto 2399 d_L_law_2167 rfl) (nx _ _ _ c9)) (fun k_ => absurd k_ ku)
theorem K_reason (I : LI T x N c s h) (hN : N ≤ x) (h0 : 0 ≤ T) (hT1 : T ≤ 90000) (hE : q_EN E N) (hbN : b < N) (hS : E.2 b = some (.int, L, fun j => .int (ys j))) (hL : L ≤ 2560) (hi : 0 ≤ i ∧ i + 5 ≤ L) (next : ∀ h' v6 v7 v8, LI (T + 99) x N (c + 1) (s + 6) h' → Xv E q_m_L_law 2399 [.ref b, .ref x, .ref (x + 444), .ref (x + 456), .ref (x + 457), .int (zi i), v6, v7, v8] [] h' Q) : Xv E q_m_L_law 2170 [.ref b, .ref x, .ref (x + 444), .ref (x + 456), .ref (x + 457), .int (zi i), v6, v7, v8] [] h Q := by
  obtain ⟨⟨M, hR⟩, _⟩ := id I
  obtain ⟨fs7, hb7⟩ := rm_o7 hR
  have hLo := I.2.2.1
  obtain ⟨y1, ey1, y10, y11⟩ := zi_of (ys (i + 1).toNat)
  have G1 : ∀ h' : q_H, Lo h' N → q_gI E h' 0 .int b (zi (i + 1)) = some (.int (zi y1)) := fun h' l => by rw [← ey1]; exact gI_s hS hL (l b hbN) (by omega) (by omega)
  obtain ⟨w1, ew1⟩ : ∃ w1 : Int, w1 = if y1 = 0 then 0 else 1 := ⟨_, rfl⟩
  have w10 : -2147483648 ≤ w1 := by rw [ew1]; split <;> omega
  have w11 : w1 < 2147483648 := by rw [ew1]; split <;> omega
  obtain ⟨t, z, h2, h3, c1, c2, c3, c4, ⟨c5, c6, fs8, c7⟩, ⟨fs9, c8⟩, t0, t1⟩ := two_i (mL := q_m_L_reason) (P_reason (E := E) hR w10 w11) I hN (fun r h1 t x0 a1 a2 a3 => H_reason a1 a2 hb7 a3)
  have nx := next h3
  have c9 := li_mono (T' := T + 99) c5 (by omega) (by omega) (Nat.le_refl _) (Nat.le_refl _)
  have F2 : Xv E q_m_L_law 2206 [.ref b, .ref x, .ref (x + 444), .ref (x + 456), .ref (x + 457), .int (zi i), .int (zi t), v7, v8] [.int (zi w1), .ref (x + 444)] h2 Q := by
    refine xv (x_inv1 2209 (as := [.int (zi w1)]) (rest := []) d_L_law_2206 rfl c_9_250 rfl (Nat.le_of_ble_eq_true rfl) (Nat.le_of_ble_eq_true rfl) c7 (Nat.le_of_ble_eq_true rfl) (Nat.le_of_ble_eq_true rfl) rfl c2) ?_
    refine xv (x_istore 2211 d_L_law_2209 rfl (Nat.le_of_ble_eq_true rfl)) ?_
    show Xv E q_m_L_law 2211 [.ref b, .ref x, .ref (x + 444), .ref (x + 456), .ref (x + 457), .int (zi i), .int (zi t), .int (zi z), v8] [] h3 Q
    refine xv (x_aload_n 2212 d_L_law_2211 rfl rfl) ?_
    refine xv (x_inv1 2215 (as := []) (rest := []) d_L_law_2212 rfl c_9_145 rfl (Nat.le_of_ble_eq_true rfl) (Nat.le_of_ble_eq_true rfl) c8 (Nat.le_of_ble_eq_true rfl) (Nat.le_of_ble_eq_true rfl) rfl c3) ?_
    refine xv (x_iload 2217 d_L_law_2215 rfl rfl) ?_
    refine v_icmp_eq 2222 2220 d_L_law_2217 rfl rfl (by omega) (by omega) (by omega) (by omega) (fun _ => ?_) (fun k_ => absurd rfl k_)
    refine xv (x_iload 2224 d_L_law_2222 rfl rfl) ?_
    refine v_if_ne 2239 2227 d_L_law_2224 rfl rfl (by omega) (by omega) (fun _ => xv (x_goto 2399 d_L_law_2239 rfl) (nx _ _ _ c9)) (fun kt => ?_)
    refine xv (x_aload_n 2228 d_L_law_2227 rfl rfl) ?_
    refine xv (x_iconst 2229 d_L_law_2228 rfl) ?_
    refine xv (x_laload 2230 d_L_law_2229 rfl (c4 kt)) ?_
    refine xv (x_iload 2232 d_L_law_2230 rfl rfl) ?_
    refine xv (x_i2l 2233 d_L_law_2232 rfl) ?_
    refine xv (x_lcmp 2234 d_L_law_2233 rfl) ?_
    rw [lc_self]
    exact v_if_eq 2239 2237 d_L_law_2234 rfl rfl (by omega) (by omega) (fun _ => xv (x_goto 2399 d_L_law_2239 rfl) (nx _ _ _ c9)) (fun k_ => absurd rfl k_)
  have F1 : Xv E q_m_L_law 2185 [.ref b, .ref x, .ref (x + 444), .ref (x + 456), .ref (x + 457), .int (zi i), v6, v7, v8] [.int (zi w1), .ref x] h Q := by
    refine xv (x_aload_n 2186 d_L_law_2185 rfl rfl) ?_
    refine xv (x_ins1 2189 (as := .ref x :: ([.int (zi w1)] ++ [.ref (x + 456)])) (rest := []) d_L_law_2186 rfl c_9_247 rfl (Nat.le_of_ble_eq_true rfl) (Nat.le_of_ble_eq_true rfl) (Nat.le_of_ble_eq_true rfl) rfl c1) ?_
    refine xv (x_istore 2191 d_L_law_2189 rfl (Nat.le_of_ble_eq_true rfl)) ?_
    show Xv E q_m_L_law 2191 [.ref b, .ref x, .ref (x + 444), .ref (x + 456), .ref (x + 457), .int (zi i), .int (zi t), v7, v8] [] h2 Q
    refine xv (x_aload_n 2192 d_L_law_2191 rfl rfl) ?_
    refine xv (x_aload_n 2193 d_L_law_2192 rfl rfl) ?_
    refine xv (x_iload 2195 d_L_law_2193 rfl rfl) ?_
    refine xv (x_iconst 2196 d_L_law_2195 rfl) ?_
    refine xv (x_iadd 2197 d_L_law_2196 rfl) ?_
    refine xv (x_iaload 2198 d_L_law_2197 rfl (G1 h2 c6)) ?_
    refine v_if_eq 2205 2201 d_L_law_2198 rfl rfl y10 y11 (fun ky => ?_) (fun ky => ?_)
    · refine xv (x_iconst 2206 d_L_law_2205 rfl) ?_
      have e : w1 = 0 := by rw [ew1]; exact if_pos ky
      rw [e] at F2
      exact F2
    · refine xv (x_iconst 2202 d_L_law_2201 rfl) ?_
      refine xv (x_goto 2206 d_L_law_2202 rfl) ?_
      have e : w1 = 1 := by rw [ew1]; exact if_neg ky
      rw [e] at F2
      exact F2
  refine xv (x_aload_n 2171 d_L_law_2170 rfl rfl) ?_
  refine xv (x_aload_n 2172 d_L_law_2171 rfl rfl) ?_
  refine xv (x_iload 2174 d_L_law_2172 rfl rfl) ?_
  refine xv (x_iconst 2175 d_L_law_2174 rfl) ?_
  refine xv (x_iadd 2176 d_L_law_2175 rfl) ?_
  refine xv (x_iaload 2177 d_L_law_2176 rfl (G1 h hLo)) ?_
  refine v_if_eq 2184 2180 d_L_law_2177 rfl rfl y10 y11 (fun ky => ?_) (fun ky => ?_)
  · refine xv (x_iconst 2185 d_L_law_2184 rfl) ?_
    have e : w1 = 0 := by rw [ew1]; exact if_pos ky
    rw [e] at F1
    exact F1
  · refine xv (x_iconst 2181 d_L_law_2180 rfl) ?_
    refine xv (x_goto 2185 d_L_law_2181 rfl) ?_
    have e : w1 = 1 := by rw [ew1]; exact if_neg ky
    rw [e] at F1
    exact F1
theorem K_account (I : LI T x N c s h) (hN : N ≤ x) (h0 : 0 ≤ T) (hT1 : T ≤ 90000) (hE : q_EN E N) (hbN : b < N) (hS : E.2 b = some (.int, L, fun j => .int (ys j))) (hL : L ≤ 2560) (hi : 0 ≤ i ∧ i + 5 ≤ L) (next : ∀ h' v6 v7 v8, LI (T + 99) x N (c + 1) (s + 6) h' → Xv E q_m_L_law 2399 [.ref b, .ref x, .ref (x + 444), .ref (x + 456), .ref (x + 457), .int (zi i), v6, v7, v8] [] h' Q) : Xv E q_m_L_law 2242 [.ref b, .ref x, .ref (x + 444), .ref (x + 456), .ref (x + 457), .int (zi i), v6, v7, v8] [] h Q := by
  obtain ⟨⟨M, hR⟩, _⟩ := id I
  obtain ⟨fs7, hb7⟩ := rm_o7 hR
  have hLo := I.2.2.1
  obtain ⟨y1, ey1, y10, y11⟩ := zi_of (ys (i + 1).toNat)
  have G1 : ∀ h' : q_H, Lo h' N → q_gI E h' 0 .int b (zi (i + 1)) = some (.int (zi y1)) := fun h' l => by rw [← ey1]; exact gI_s hS hL (l b hbN) (by omega) (by omega)
  obtain ⟨t, z, h2, h3, c1, c2, c3, c4, ⟨c5, c6, fs8, c7⟩, ⟨fs9, c8⟩, t0, t1⟩ := two_i (mL := q_m_L_account) (P_account (E := E) hR y10 y11) I hN (fun r h1 t x0 a1 a2 a3 => H_account a1 a2 hb7 a3)
  have nx := next h3
  have c9 := li_mono (T' := T + 99) c5 (by omega) (by omega) (Nat.le_refl _) (Nat.le_refl _)
  refine xv (x_aload_n 2243 d_L_law_2242 rfl rfl) ?_
  refine xv (x_aload_n 2244 d_L_law_2243 rfl rfl) ?_
  refine xv (x_iload 2246 d_L_law_2244 rfl rfl) ?_
  refine xv (x_iconst 2247 d_L_law_2246 rfl) ?_
  refine xv (x_iadd 2248 d_L_law_2247 rfl) ?_
  refine xv (x_iaload 2249 d_L_law_2248 rfl (G1 h hLo)) ?_
  refine xv (x_aload_n 2250 d_L_law_2249 rfl rfl) ?_
  refine xv (x_ins1 2253 (as := .ref x :: ([.int (zi y1)] ++ [.ref (x + 456)])) (rest := []) d_L_law_2250 rfl c_9_251 rfl (Nat.le_of_ble_eq_true rfl) (Nat.le_of_ble_eq_true rfl) (Nat.le_of_ble_eq_true rfl) rfl c1) ?_
  refine xv (x_istore 2255 d_L_law_2253 rfl (Nat.le_of_ble_eq_true rfl)) ?_
  show Xv E q_m_L_law 2255 [.ref b, .ref x, .ref (x + 444), .ref (x + 456), .ref (x + 457), .int (zi i), .int (zi t), v7, v8] [] h2 Q
  refine xv (x_aload_n 2256 d_L_law_2255 rfl rfl) ?_
  refine xv (x_aload_n 2257 d_L_law_2256 rfl rfl) ?_
  refine xv (x_iload 2259 d_L_law_2257 rfl rfl) ?_
  refine xv (x_iconst 2260 d_L_law_2259 rfl) ?_
  refine xv (x_iadd 2261 d_L_law_2260 rfl) ?_
  refine xv (x_iaload 2262 d_L_law_2261 rfl (G1 h2 c6)) ?_
  refine xv (x_inv1 2265 (as := [.int (zi y1)]) (rest := []) d_L_law_2262 rfl c_9_253 rfl (Nat.le_of_ble_eq_true rfl) (Nat.le_of_ble_eq_true rfl) c7 (Nat.le_of_ble_eq_true rfl) (Nat.le_of_ble_eq_true rfl) rfl c2) ?_
  refine xv (x_istore 2267 d_L_law_2265 rfl (Nat.le_of_ble_eq_true rfl)) ?_
  show Xv E q_m_L_law 2267 [.ref b, .ref x, .ref (x + 444), .ref (x + 456), .ref (x + 457), .int (zi i), .int (zi t), .int (zi z), v8] [] h3 Q
  refine xv (x_aload_n 2268 d_L_law_2267 rfl rfl) ?_
  refine xv (x_inv1 2271 (as := []) (rest := []) d_L_law_2268 rfl c_9_145 rfl (Nat.le_of_ble_eq_true rfl) (Nat.le_of_ble_eq_true rfl) c8 (Nat.le_of_ble_eq_true rfl) (Nat.le_of_ble_eq_true rfl) rfl c3) ?_
  refine xv (x_iload 2273 d_L_law_2271 rfl rfl) ?_
  refine v_icmp_eq 2278 2276 d_L_law_2273 rfl rfl (by omega) (by omega) (by omega) (by omega) (fun _ => ?_) (fun k_ => absurd rfl k_)
  refine xv (x_iload 2280 d_L_law_2278 rfl rfl) ?_
  refine v_if_ne 2295 2283 d_L_law_2280 rfl rfl (by omega) (by omega) (fun _ => xv (x_goto 2399 d_L_law_2295 rfl) (nx _ _ _ c9)) (fun kt => ?_)
  refine xv (x_aload_n 2284 d_L_law_2283 rfl rfl) ?_
  refine xv (x_iconst 2285 d_L_law_2284 rfl) ?_
  refine xv (x_laload 2286 d_L_law_2285 rfl (c4 kt)) ?_
  refine xv (x_iload 2288 d_L_law_2286 rfl rfl) ?_
  refine xv (x_i2l 2289 d_L_law_2288 rfl) ?_
  refine xv (x_lcmp 2290 d_L_law_2289 rfl) ?_
  rw [lc_self]
  exact v_if_eq 2295 2293 d_L_law_2290 rfl rfl (by omega) (by omega) (fun _ => xv (x_goto 2399 d_L_law_2295 rfl) (nx _ _ _ c9)) (fun k_ => absurd rfl k_)
theorem K_undo (I : LI T x N c s h) (hN : N ≤ x) (h0 : 0 ≤ T) (hT1 : T ≤ 90000) (hE : q_EN E N) (hbN : b < N) (hS : E.2 b = some (.int, L, fun j => .int (ys j))) (hL : L ≤ 2560) (hi : 0 ≤ i ∧ i + 5 ≤ L) (next : ∀ h' v6 v7 v8, LI (T + 99) x N (c + 1) (s + 6) h' → Xv E q_m_L_law 2399 [.ref b, .ref x, .ref (x + 444), .ref (x + 456), .ref (x + 457), .int (zi i), v6, v7, v8] [] h' Q) : Xv E q_m_L_law 2298 [.ref b, .ref x, .ref (x + 444), .ref (x + 456), .ref (x + 457), .int (zi i), v6, v7, v8] [] h Q := by
  obtain ⟨⟨M, hR⟩, _⟩ := id I
  obtain ⟨fs7, hb7⟩ := rm_o7 hR
  have hLo := I.2.2.1
  obtain ⟨t, z, h2, h3, c1, c2, c3, c4, ⟨c5, c6, fs8, c7⟩, ⟨fs9, c8⟩, t0, t1⟩ := two_i (mL := q_m_L_undo) (P_undo (E := E) hR ) I hN (fun r h1 t x0 a1 a2 a3 => H_undo a1 a2 hb7 a3)
  have nx := next h3
  have c9 := li_mono (T' := T + 99) c5 (by omega) (by omega) (Nat.le_refl _) (Nat.le_refl _)
  refine xv (x_aload_n 2299 d_L_law_2298 rfl rfl) ?_
  refine xv (x_aload_n 2300 d_L_law_2299 rfl rfl) ?_
  refine xv (x_ins1 2303 (as := .ref x :: ([] ++ [.ref (x + 456)])) (rest := []) d_L_law_2300 rfl c_9_254 rfl (Nat.le_of_ble_eq_true rfl) (Nat.le_of_ble_eq_true rfl) (Nat.le_of_ble_eq_true rfl) rfl c1) ?_
  refine xv (x_istore 2305 d_L_law_2303 rfl (Nat.le_of_ble_eq_true rfl)) ?_
  show Xv E q_m_L_law 2305 [.ref b, .ref x, .ref (x + 444), .ref (x + 456), .ref (x + 457), .int (zi i), .int (zi t), v7, v8] [] h2 Q
  refine xv (x_aload_n 2306 d_L_law_2305 rfl rfl) ?_
  refine xv (x_inv1 2309 (as := []) (rest := []) d_L_law_2306 rfl c_9_256 rfl (Nat.le_of_ble_eq_true rfl) (Nat.le_of_ble_eq_true rfl) c7 (Nat.le_of_ble_eq_true rfl) (Nat.le_of_ble_eq_true rfl) rfl c2) ?_
  refine xv (x_istore 2311 d_L_law_2309 rfl (Nat.le_of_ble_eq_true rfl)) ?_
  show Xv E q_m_L_law 2311 [.ref b, .ref x, .ref (x + 444), .ref (x + 456), .ref (x + 457), .int (zi i), .int (zi t), .int (zi z), v8] [] h3 Q
  refine xv (x_aload_n 2312 d_L_law_2311 rfl rfl) ?_
  refine xv (x_inv1 2315 (as := []) (rest := []) d_L_law_2312 rfl c_9_145 rfl (Nat.le_of_ble_eq_true rfl) (Nat.le_of_ble_eq_true rfl) c8 (Nat.le_of_ble_eq_true rfl) (Nat.le_of_ble_eq_true rfl) rfl c3) ?_
  refine xv (x_iload 2317 d_L_law_2315 rfl rfl) ?_
  refine v_icmp_eq 2322 2320 d_L_law_2317 rfl rfl (by omega) (by omega) (by omega) (by omega) (fun _ => ?_) (fun k_ => absurd rfl k_)
  refine xv (x_iload 2324 d_L_law_2322 rfl rfl) ?_
  refine v_if_ne 2339 2327 d_L_law_2324 rfl rfl (by omega) (by omega) (fun _ => xv (x_goto 2399 d_L_law_2339 rfl) (nx _ _ _ c9)) (fun kt => ?_)
  refine xv (x_aload_n 2328 d_L_law_2327 rfl rfl) ?_
  refine xv (x_iconst 2329 d_L_law_2328 rfl) ?_
  refine xv (x_laload 2330 d_L_law_2329 rfl (c4 kt)) ?_
  refine xv (x_iload 2332 d_L_law_2330 rfl rfl) ?_
  refine xv (x_i2l 2333 d_L_law_2332 rfl) ?_
  refine xv (x_lcmp 2334 d_L_law_2333 rfl) ?_
  rw [lc_self]
  exact v_if_eq 2339 2337 d_L_law_2334 rfl rfl (by omega) (by omega) (fun _ => xv (x_goto 2399 d_L_law_2339 rfl) (nx _ _ _ c9)) (fun k_ => absurd rfl k_)
theorem K_save (I : LI T x N c s h) (hN : N ≤ x) (h0 : 0 ≤ T) (hT1 : T ≤ 90000) (hE : q_EN E N) (hbN : b < N) (hS : E.2 b = some (.int, L, fun j => .int (ys j))) (hL : L ≤ 2560) (hi : 0 ≤ i ∧ i + 5 ≤ L) (next : ∀ h' v6 v7 v8, LI (T + 99) x N (c + 1) (s + 6) h' → Xv E q_m_L_law 2399 [.ref b, .ref x, .ref (x + 444), .ref (x + 456), .ref (x + 457), .int (zi i), v6, v7, v8] [] h' Q) : Xv E q_m_L_law 2342 [.ref b, .ref x, .ref (x + 444), .ref (x + 456), .ref (x + 457), .int (zi i), v6, v7, v8] [] h Q := by
  obtain ⟨⟨M, hR⟩, _⟩ := id I
  obtain ⟨fs7, hb7⟩ := rm_o7 hR
  have hLo := I.2.2.1
  obtain ⟨z, h2, h3, ⟨z0, z1⟩, c1, c2, c5, ⟨fs8, c7⟩⟩ := two_0 (P_save (E := E) hR ) I hN
  have nx := next h3
  have c9 := li_mono (T' := T + 99) c5 (by omega) (by omega) (Nat.le_refl _) (Nat.le_refl _)
  refine xv (x_aload_n 2343 d_L_law_2342 rfl rfl) ?_
  refine xv (x_inv1 2346 (as := []) (rest := []) d_L_law_2343 rfl c_9_257 rfl (Nat.le_of_ble_eq_true rfl) (Nat.le_of_ble_eq_true rfl) hb7 (Nat.le_of_ble_eq_true rfl) (Nat.le_of_ble_eq_true rfl) rfl c1) ?_
  refine xv (x_aload_n 2347 d_L_law_2346 rfl rfl) ?_
  refine xv (x_inv1 2350 (as := []) (rest := [.int (zi z)]) d_L_law_2347 rfl c_9_260 rfl (Nat.le_of_ble_eq_true rfl) (Nat.le_of_ble_eq_true rfl) c7 (Nat.le_of_ble_eq_true rfl) (Nat.le_of_ble_eq_true rfl) rfl c2) ?_
  exact v_icmp_eq 2399 2353 d_L_law_2350 rfl rfl z0 z1 z0 z1 (fun _ => nx _ _ _ c9) (fun k_ => absurd rfl k_)
theorem K_restore (I : LI T x N c s h) (hN : N ≤ x) (h0 : 0 ≤ T) (hT1 : T ≤ 90000) (hE : q_EN E N) (hbN : b < N) (hS : E.2 b = some (.int, L, fun j => .int (ys j))) (hL : L ≤ 2560) (hi : 0 ≤ i ∧ i + 5 ≤ L) (next : ∀ h' v6 v7 v8, LI (T + 99) x N (c + 1) (s + 6) h' → Xv E q_m_L_law 2399 [.ref b, .ref x, .ref (x + 444), .ref (x + 456), .ref (x + 457), .int (zi i), v6, v7, v8] [] h' Q) : Xv E q_m_L_law 2355 [.ref b, .ref x, .ref (x + 444), .ref (x + 456), .ref (x + 457), .int (zi i), v6, v7, v8] [] h Q := by
  obtain ⟨⟨M, hR⟩, _⟩ := id I
  obtain ⟨fs7, hb7⟩ := rm_o7 hR
  have hLo := I.2.2.1
  obtain ⟨t, z, h2, h3, c1, c2, c3, c4, ⟨c5, c6, fs8, c7⟩, ⟨fs9, c8⟩, t0, t1⟩ := two_i (mL := q_m_L_restore) (P_restore (E := E) hR ) I hN (fun r h1 t x0 a1 a2 a3 => H_restore a1 a2 hb7 a3)
  have nx := next h3
  have c9 := li_mono (T' := T + 99) c5 (by omega) (by omega) (Nat.le_refl _) (Nat.le_refl _)
  refine xv (x_aload_n 2356 d_L_law_2355 rfl rfl) ?_
  refine xv (x_aload_n 2357 d_L_law_2356 rfl rfl) ?_
  refine xv (x_ins1 2360 (as := .ref x :: ([] ++ [.ref (x + 456)])) (rest := []) d_L_law_2357 rfl c_9_261 rfl (Nat.le_of_ble_eq_true rfl) (Nat.le_of_ble_eq_true rfl) (Nat.le_of_ble_eq_true rfl) rfl c1) ?_
  refine xv (x_istore 2362 d_L_law_2360 rfl (Nat.le_of_ble_eq_true rfl)) ?_
  show Xv E q_m_L_law 2362 [.ref b, .ref x, .ref (x + 444), .ref (x + 456), .ref (x + 457), .int (zi i), .int (zi t), v7, v8] [] h2 Q
  refine xv (x_aload_n 2363 d_L_law_2362 rfl rfl) ?_
  refine xv (x_inv1 2366 (as := []) (rest := []) d_L_law_2363 rfl c_9_263 rfl (Nat.le_of_ble_eq_true rfl) (Nat.le_of_ble_eq_true rfl) c7 (Nat.le_of_ble_eq_true rfl) (Nat.le_of_ble_eq_true rfl) rfl c2) ?_
  refine xv (x_istore 2368 d_L_law_2366 rfl (Nat.le_of_ble_eq_true rfl)) ?_
  show Xv E q_m_L_law 2368 [.ref b, .ref x, .ref (x + 444), .ref (x + 456), .ref (x + 457), .int (zi i), .int (zi t), .int (zi z), v8] [] h3 Q
  refine xv (x_aload_n 2369 d_L_law_2368 rfl rfl) ?_
  refine xv (x_inv1 2372 (as := []) (rest := []) d_L_law_2369 rfl c_9_145 rfl (Nat.le_of_ble_eq_true rfl) (Nat.le_of_ble_eq_true rfl) c8 (Nat.le_of_ble_eq_true rfl) (Nat.le_of_ble_eq_true rfl) rfl c3) ?_
  refine xv (x_iload 2374 d_L_law_2372 rfl rfl) ?_
  refine v_icmp_eq 2379 2377 d_L_law_2374 rfl rfl (by omega) (by omega) (by omega) (by omega) (fun _ => ?_) (fun k_ => absurd rfl k_)
  refine xv (x_iload 2381 d_L_law_2379 rfl rfl) ?_
  refine v_if_ne 2396 2384 d_L_law_2381 rfl rfl (by omega) (by omega) (fun _ => xv (x_goto 2399 d_L_law_2396 rfl) (nx _ _ _ c9)) (fun kt => ?_)
  refine xv (x_aload_n 2385 d_L_law_2384 rfl rfl) ?_
  refine xv (x_iconst 2386 d_L_law_2385 rfl) ?_
  refine xv (x_laload 2387 d_L_law_2386 rfl (c4 kt)) ?_
  refine xv (x_iload 2389 d_L_law_2387 rfl rfl) ?_
  refine xv (x_i2l 2390 d_L_law_2389 rfl) ?_
  refine xv (x_lcmp 2391 d_L_law_2390 rfl) ?_
  rw [lc_self]
  exact v_if_eq 2396 2394 d_L_law_2391 rfl rfl (by omega) (by omega) (fun _ => xv (x_goto 2399 d_L_law_2396 rfl) (nx _ _ _ c9)) (fun k_ => absurd rfl k_)
end KC
