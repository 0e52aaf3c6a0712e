/-! what is planned comes so, and costs what it costs (printed by program) -/
section E9
variable {E : q_E} {M : q_M} {h h' h0 : q_H} {x N b L : Nat} {ys : Nat → Int32} {l lo ls c m f2 f3 f4 f5 : Int → Int} {kl : Int → Int → Int} {nx ct n hs fa kr kd_ C W kb k k' v y z r t i g w : Int}
variable {a T w0 : Int} {s : Nat}
theorem P_go2 {n3 : Nat} (hn3 : l 3 = (n3 : Int)) (hRo : RgC lo) (hT : StR T l m) (hJ : JV l) (h3 : l 3 = lo 3) (h2 : l 2 = lo 2 + 3) (hk : ∀ i, 0 ≤ i → i < 104 → i ≠ 2 → l i = lo i) (hG : ∀ r, isR lo r → GO 3 lo l r) (hU : Lc (kl (pvx nx)) lo ∧ 0 < ct) (hs4 : x + 444 ≤ s) (P : PX x l ls nx ct kl n c hs fa kr kd_ h0 (kb) h) (Q2 : AI h0 s 0 n3 f2) (Q3 : AI h0 (s + 1) 0 n3 f3) (Q4 : AI h0 (s + 2) 0 n3 f4) (Q5 : AI h0 (s + 3) 0 n3 f5) (g2 : ∀ i, 0 ≤ i → i < l 3 → f2 i = ahd lo i 3) (g3 : ∀ i, 0 ≤ i → i < l 3 → f3 i = rb lo i 1) (g4 : ∀ i, 0 ≤ i → i < l 3 → f4 i = rb lo i 5) (g5 : ∀ i, 0 ≤ i → i < l 3 → f5 i = rb lo i 3) (B : BZ x h0 C W) {b7 b8 b9 b10 : Value} : ∀ Q : q_R → q_H → Prop, (∀ h' l2 nx2 ct2 kl2, PX x l2 ls nx2 ct2 kl2 n c hs fa kr kd_ h' 0 h' → Lc l2 lo → BZ x h' (C + kb) (W + 6 * kb) → Q (.inl (some (.int (zi 1)))) h') → Xv E q_m_L_goesOn 102 [.ref x, .int (zi (l 3)), .ref s, .ref (s + 1), .ref (s + 2), .ref (s + 3), .int (zi (lo 2)), b7, b8, b9, b10] [] h Q := by
  intro Q hQ
  have hR := P.2.1
  have gc := rg_c hR
  have gr := rg_r hR
  have go := rg_o hR
  have gco := rg_c hRo
  have g2o := rg_n8 hRo
  have ecs : cs l = cs lo := cs_cg (hk 0 (by omega) (by omega) (by omega)) (hk 1 (by omega) (by omega) (by omega))
  refine xv (x_aload_n 103 d_L_goesOn_102 rfl rfl) ?_
  refine xv (x_bipush 105 d_L_goesOn_103 rfl rfl) ?_
  obtain ⟨h105, e105, P105⟩ := A_account8 (E := E)  P 
  rw [show l 2 = lo 2 + 3 from h2] at e105
  refine xv (x_inv1 108 (as := [Value.int (zi 8)]) d_L_goesOn_105 rfl c_9_109 rfl (Nat.le_of_ble_eq_true rfl) (Nat.le_of_ble_eq_true rfl) (px_o P) (Nat.le_of_ble_eq_true rfl) (Nat.le_of_ble_eq_true rfl) rfl e105) ?_
  have q105 := rg_n8 hR
  show Xv E q_m_L_goesOn 108 [Value.ref x, Value.int (zi (l 3)), Value.ref s, Value.ref (s + 1), Value.ref (s + 2), Value.ref (s + 3), Value.int (zi (lo 2)), b7, b8, b9, b10] [Value.int (zi (lo 2 + 3))] h105 Q
  refine xv (x_iload 110 d_L_goesOn_108 rfl rfl) ?_
  refine xv (x_iconst 111 d_L_goesOn_110 rfl) ?_
  refine xv (x_iadd 112 d_L_goesOn_111 rfl) ?_
  refine v_icmp_eq 117 115 d_L_goesOn_112 rfl rfl (by omega) (by omega) (by omega) (by omega) (fun k112 => ?_) (fun k112 => ?_)
  · refine xv (x_iconst 118 d_L_goesOn_117 rfl) ?_
    refine xv (x_istore 120 d_L_goesOn_118 rfl (Nat.le_of_ble_eq_true rfl)) ?_
    show Xv E q_m_L_goesOn 120 [Value.ref x, Value.int (zi (l 3)), Value.ref s, Value.ref (s + 1), Value.ref (s + 2), Value.ref (s + 3), Value.int (zi (lo 2)), Value.int (zi 0), b8, b9, b10] [] h105 Q
    have L120 : ∀ (n_ : Nat) (r : Int) (d8 : Value) (d9 : Value) (d10 : Value) (h_120 : q_H), (0 ≤ r) → (r ≤ l 3) → (PX x l ls nx ct kl n c hs fa kr kd_ h0 (kb) h_120) → (l 3 - r).toNat = n_ → Xv E q_m_L_goesOn 120 [Value.ref x, Value.int (zi (l 3)), Value.ref s, Value.ref (s + 1), Value.ref (s + 2), Value.ref (s + 3), Value.int (zi (lo 2)), Value.int (zi r), d8, d9, d10] [] h_120 Q := by
      intro n_
      induction n_ using Nat.strongRecOn with
      | _ n_ ih120 =>
        intro r d8 d9 d10 h_120 y120_0 y120_1 P_120 em
        refine xv (x_iload 122 d_L_goesOn_120 rfl rfl) ?_
        refine xv (x_iload_n 123 d_L_goesOn_122 rfl rfl) ?_
        refine v_icmp_ge 278 126 d_L_goesOn_123 rfl rfl (by omega) (by omega) (by omega) (by omega) (fun k123 => ?_) (fun k123 => ?_)
        · refine xv (x_aload_n 279 d_L_goesOn_278 rfl rfl) ?_
          obtain ⟨r279, h279, e279, x279, P279⟩ := P_plans (E := E) (st_ndl hT) (st_enl hT) hJ.1 hJ.2.1 P_120
          subst x279
          refine xv (x_ins1 282 (as := [Value.ref x]) d_L_goesOn_279 rfl c_9_167 rfl (Nat.le_of_ble_eq_true rfl) (Nat.le_of_ble_eq_true rfl) (Nat.le_of_ble_eq_true rfl) rfl e279) ?_
          show Xv E q_m_L_goesOn 282 [Value.ref x, Value.int (zi (l 3)), Value.ref s, Value.ref (s + 1), Value.ref (s + 2), Value.ref (s + 3), Value.int (zi (lo 2)), Value.int (zi r), d8, d9, d10] [Value.int (zi 1)] h279 Q
          refine v_if_eq 307 285 d_L_goesOn_282 rfl rfl (by omega) (by omega) (fun k282 => ?_) (fun k282 => ?_)
          · omega
          · refine xv (x_aload_n 286 d_L_goesOn_285 rfl rfl) ?_
            obtain ⟨h286, l2, e286, c286, P286⟩ := B_undo (E := E) P279 (fun _ => lc_rgc hRo hU.1) hU.2
            have U2 : Lc l2 lo := lc_trn c286 hU.1
            have gct := P279.2.2.1.2.1
            refine xv (x_ins1 289 (as := [Value.ref x]) d_L_goesOn_286 rfl c_9_249 rfl (Nat.le_of_ble_eq_true rfl) (Nat.le_of_ble_eq_true rfl) (Nat.le_of_ble_eq_true rfl) rfl e286) ?_
            show Xv E q_m_L_goesOn 289 [Value.ref x, Value.int (zi (l 3)), Value.ref s, Value.ref (s + 1), Value.ref (s + 2), Value.ref (s + 3), Value.int (zi (lo 2)), Value.int (zi r), d8, d9, d10] [Value.int (zi (ct - 1))] h286 Q
            refine v_if_lt 307 292 d_L_goesOn_289 rfl rfl (by omega) (by omega) (fun k289 => ?_) (fun k289 => ?_)
            · omega
            · refine xv (x_aload_n 293 d_L_goesOn_292 rfl rfl) ?_
              refine xv (x_bipush 295 d_L_goesOn_293 rfl rfl) ?_
              obtain ⟨h295, e295, P295⟩ := A_account8 (E := E) P286
              rw [show l2 2 = lo 2 from U2.1 2 (by omega) (by omega)] at e295
              refine xv (x_inv1 298 (as := [Value.int (zi 8)]) d_L_goesOn_295 rfl c_9_109 rfl (Nat.le_of_ble_eq_true rfl) (Nat.le_of_ble_eq_true rfl) (px_o P286) (Nat.le_of_ble_eq_true rfl) (Nat.le_of_ble_eq_true rfl) rfl e295) ?_
              show Xv E q_m_L_goesOn 298 [Value.ref x, Value.int (zi (l 3)), Value.ref s, Value.ref (s + 1), Value.ref (s + 2), Value.ref (s + 3), Value.int (zi (lo 2)), Value.int (zi r), d8, d9, d10] [Value.int (zi (lo 2))] h295 Q
              refine xv (x_iload 300 d_L_goesOn_298 rfl rfl) ?_
              refine v_icmp_ne 307 303 d_L_goesOn_300 rfl rfl (by omega) (by omega) (by omega) (by omega) (fun k300 => ?_) (fun k300 => ?_)
              · omega
              · refine xv (x_iconst 304 d_L_goesOn_303 rfl) ?_
                refine xv (x_goto 308 d_L_goesOn_304 rfl) ?_
                refine xv_r (x_ireturn d_L_goesOn_308 rfl rfl) ?_
                exact hQ _ _ _ _ _ (px_here P295) U2 (bz_fy B P295.1.2 (Int.le_refl _) (Int.le_refl _))
        · have GR := hG r ⟨by omega, by omega⟩
          have GR1 := GR.1.1
          have GR2 : rb l r 0 = ahd lo r 3 := by rw [← ahd_0]; exact GR.1.2
          have GR3 := GR.2.1
          have GR4 := GR.2.2
          clear GR
          refine xv (x_aload_n 127 d_L_goesOn_126 rfl rfl) ?_
          refine xv (x_iload 129 d_L_goesOn_127 rfl rfl) ?_
          refine xv (x_bipush 131 d_L_goesOn_129 rfl rfl) ?_
          obtain ⟨h131, e131, P131⟩ := A_robotOf6 (E := E) (r := r) P_120 ⟨by omega, by omega⟩
          refine xv (x_inv1 134 (as := [Value.int (zi r), Value.int (zi 6)]) d_L_goesOn_131 rfl c_9_203 rfl (Nat.le_of_ble_eq_true rfl) (Nat.le_of_ble_eq_true rfl) (px_o P_120) (Nat.le_of_ble_eq_true rfl) (Nat.le_of_ble_eq_true rfl) rfl e131) ?_
          have q131 := rg_b6 hR (r := r) ⟨by omega, by omega⟩
          show Xv E q_m_L_goesOn 134 [Value.ref x, Value.int (zi (l 3)), Value.ref s, Value.ref (s + 1), Value.ref (s + 2), Value.ref (s + 3), Value.int (zi (lo 2)), Value.int (zi r), d8, d9, d10] [Value.int (zi (rb l r 5))] h131 Q
          refine xv (x_aload 136 d_L_goesOn_134 rfl rfl) ?_
          refine xv (x_iload 138 d_L_goesOn_136 rfl rfl) ?_
          refine xv (x_iaload 139 d_L_goesOn_138 rfl ((ai_g (ai_fy Q4 P131.1.2 (by omega)) (by omega) (by omega) (by omega)).trans (cz (g4 r (by omega) (by omega))))) ?_
          have j4 := rg_b6 hRo (r := r) ⟨by omega, by omega⟩
          refine xv (x_isub 140 d_L_goesOn_139 rfl) ?_
          refine xv (x_istore 142 d_L_goesOn_140 rfl (Nat.le_of_ble_eq_true rfl)) ?_
          show Xv E q_m_L_goesOn 142 [Value.ref x, Value.int (zi (l 3)), Value.ref s, Value.ref (s + 1), Value.ref (s + 2), Value.ref (s + 3), Value.int (zi (lo 2)), Value.int (zi r), Value.int (zi ((rb l r 5) - (rb lo r 5))), d9, d10] [] h131 Q
          refine xv (x_aload 144 d_L_goesOn_142 rfl rfl) ?_
          refine xv (x_iload 146 d_L_goesOn_144 rfl rfl) ?_
          refine xv (x_iaload 147 d_L_goesOn_146 rfl ((ai_g (ai_fy Q5 P131.1.2 (by omega)) (by omega) (by omega) (by omega)).trans (cz (g5 r (by omega) (by omega))))) ?_
          have j5 := rg_b3 hRo (r := r) ⟨by omega, by omega⟩
          refine xv (x_iconst 148 d_L_goesOn_147 rfl) ?_
          refine v_icmp_ge 168 151 d_L_goesOn_148 rfl rfl (by omega) (by omega) (by omega) (by omega) (fun k148 => ?_) (fun k148 => ?_)
          · refine xv (x_iconst 169 d_L_goesOn_168 rfl) ?_
            refine xv (x_istore 171 d_L_goesOn_169 rfl (Nat.le_of_ble_eq_true rfl)) ?_
            show Xv E q_m_L_goesOn 171 [Value.ref x, Value.int (zi (l 3)), Value.ref s, Value.ref (s + 1), Value.ref (s + 2), Value.ref (s + 3), Value.int (zi (lo 2)), Value.int (zi r), Value.int (zi ((rb l r 5) - (rb lo r 5))), Value.int (zi 0), d10] [] h131 Q
            refine xv (x_aload_n 172 d_L_goesOn_171 rfl rfl) ?_
            refine xv (x_iload 174 d_L_goesOn_172 rfl rfl) ?_
            refine xv (x_iconst 175 d_L_goesOn_174 rfl) ?_
            obtain ⟨h175, e175, P175⟩ := A_robotOf1 (E := E) (r := r) P131 ⟨by omega, by omega⟩
            refine xv (x_inv1 178 (as := [Value.int (zi r), Value.int (zi 1)]) d_L_goesOn_175 rfl c_9_203 rfl (Nat.le_of_ble_eq_true rfl) (Nat.le_of_ble_eq_true rfl) (px_o P131) (Nat.le_of_ble_eq_true rfl) (Nat.le_of_ble_eq_true rfl) rfl e175) ?_
            have q175 := rg_b1 hR (r := r) ⟨by omega, by omega⟩
            show Xv E q_m_L_goesOn 178 [Value.ref x, Value.int (zi (l 3)), Value.ref s, Value.ref (s + 1), Value.ref (s + 2), Value.ref (s + 3), Value.int (zi (lo 2)), Value.int (zi r), Value.int (zi ((rb l r 5) - (rb lo r 5))), Value.int (zi 0), d10] [Value.int (zi (rb l r 1))] h175 Q
            refine xv (x_aload_n 179 d_L_goesOn_178 rfl rfl) ?_
            refine xv (x_iload 181 d_L_goesOn_179 rfl rfl) ?_
            refine xv (x_iaload 182 d_L_goesOn_181 rfl ((ai_g (ai_fy Q3 P175.1.2 (by omega)) (by omega) (by omega) (by omega)).trans (cz (g3 r (by omega) (by omega))))) ?_
            have j3 := rg_b1 hRo (r := r) ⟨by omega, by omega⟩
            refine xv (x_isub 183 d_L_goesOn_182 rfl) ?_
            refine xv (x_istore 185 d_L_goesOn_183 rfl (Nat.le_of_ble_eq_true rfl)) ?_
            show Xv E q_m_L_goesOn 185 [Value.ref x, Value.int (zi (l 3)), Value.ref s, Value.ref (s + 1), Value.ref (s + 2), Value.ref (s + 3), Value.int (zi (lo 2)), Value.int (zi r), Value.int (zi ((rb l r 5) - (rb lo r 5))), Value.int (zi 0), Value.int (zi ((rb l r 1) - (rb lo r 1)))] [] h175 Q
            refine xv (x_aload_n 186 d_L_goesOn_185 rfl rfl) ?_
            refine xv (x_iload 188 d_L_goesOn_186 rfl rfl) ?_
            refine xv (x_iconst 189 d_L_goesOn_188 rfl) ?_
            obtain ⟨h189, e189, P189⟩ := A_robotOf0 (E := E) (r := r) P175 ⟨by omega, by omega⟩
            refine xv (x_inv1 192 (as := [Value.int (zi r), Value.int (zi 0)]) d_L_goesOn_189 rfl c_9_203 rfl (Nat.le_of_ble_eq_true rfl) (Nat.le_of_ble_eq_true rfl) (px_o P175) (Nat.le_of_ble_eq_true rfl) (Nat.le_of_ble_eq_true rfl) rfl e189) ?_
            have q189 := rg_b0 hR (r := r) ⟨by omega, by omega⟩
            show Xv E q_m_L_goesOn 192 [Value.ref x, Value.int (zi (l 3)), Value.ref s, Value.ref (s + 1), Value.ref (s + 2), Value.ref (s + 3), Value.int (zi (lo 2)), Value.int (zi r), Value.int (zi ((rb l r 5) - (rb lo r 5))), Value.int (zi 0), Value.int (zi ((rb l r 1) - (rb lo r 1)))] [Value.int (zi (rb l r 0))] h189 Q
            refine xv (x_aload_n 193 d_L_goesOn_192 rfl rfl) ?_
            refine xv (x_iload 195 d_L_goesOn_193 rfl rfl) ?_
            refine xv (x_iaload 196 d_L_goesOn_195 rfl ((ai_g (ai_fy Q2 P189.1.2 (by omega)) (by omega) (by omega) (by omega)).trans (cz (g2 r (by omega) (by omega))))) ?_
            have j2 := rg_pl hRo (r := r) (t := 3) ⟨by omega, by omega⟩ (by omega)
            refine v_icmp_ne 270 199 d_L_goesOn_196 rfl rfl (by omega) (by omega) (by omega) (by omega) (fun k196 => ?_) (fun k196 => ?_)
            · omega
            · refine xv (x_aload_n 200 d_L_goesOn_199 rfl rfl) ?_
              refine xv (x_iload 202 d_L_goesOn_200 rfl rfl) ?_
              refine xv (x_iconst 203 d_L_goesOn_202 rfl) ?_
              obtain ⟨h203, e203, P203⟩ := A_robotOf3 (E := E) (r := r) P189 ⟨by omega, by omega⟩
              refine xv (x_inv1 206 (as := [Value.int (zi r), Value.int (zi 3)]) d_L_goesOn_203 rfl c_9_203 rfl (Nat.le_of_ble_eq_true rfl) (Nat.le_of_ble_eq_true rfl) (px_o P189) (Nat.le_of_ble_eq_true rfl) (Nat.le_of_ble_eq_true rfl) rfl e203) ?_
              have q203 := rg_b3 hR (r := r) ⟨by omega, by omega⟩
              show Xv E q_m_L_goesOn 206 [Value.ref x, Value.int (zi (l 3)), Value.ref s, Value.ref (s + 1), Value.ref (s + 2), Value.ref (s + 3), Value.int (zi (lo 2)), Value.int (zi r), Value.int (zi ((rb l r 5) - (rb lo r 5))), Value.int (zi 0), Value.int (zi ((rb l r 1) - (rb lo r 1)))] [Value.int (zi (rb l r 3))] h203 Q
              refine xv (x_iconst 207 d_L_goesOn_206 rfl) ?_
              refine xv (x_aload 209 d_L_goesOn_207 rfl rfl) ?_
              refine xv (x_iload 211 d_L_goesOn_209 rfl rfl) ?_
              refine xv (x_iaload 212 d_L_goesOn_211 rfl ((ai_g (ai_fy Q5 P203.1.2 (by omega)) (by omega) (by omega) (by omega)).trans (cz (g5 r (by omega) (by omega))))) ?_
              have j5 := rg_b3 hRo (r := r) ⟨by omega, by omega⟩
              refine xv (x_iconst 213 d_L_goesOn_212 rfl) ?_
              refine xv (x_isub 214 d_L_goesOn_213 rfl) ?_
              refine xv (x_mmax 217 d_L_goesOn_214 rfl rfl rfl rfl (Nat.le_of_ble_eq_true rfl) (Nat.le_of_ble_eq_true rfl) (Nat.le_of_ble_eq_true rfl) (by omega) (by omega) (by omega) (by omega)) ?_
              refine v_icmp_ne 270 220 d_L_goesOn_217 rfl rfl (by omega) (by omega) (by omega) (by omega) (fun k217 => ?_) (fun k217 => ?_)
              · omega
              · refine xv (x_iload 222 d_L_goesOn_220 rfl rfl) ?_
                refine xv (x_iconst 223 d_L_goesOn_222 rfl) ?_
                refine xv (x_aload 225 d_L_goesOn_223 rfl rfl) ?_
                refine xv (x_iload 227 d_L_goesOn_225 rfl rfl) ?_
                refine xv (x_iaload 228 d_L_goesOn_227 rfl ((ai_g (ai_fy Q5 P203.1.2 (by omega)) (by omega) (by omega) (by omega)).trans (cz (g5 r (by omega) (by omega))))) ?_
                have j5 := rg_b3 hRo (r := r) ⟨by omega, by omega⟩
                refine xv (x_mmin 231 d_L_goesOn_228 rfl rfl rfl rfl (Nat.le_of_ble_eq_true rfl) (Nat.le_of_ble_eq_true rfl) (Nat.le_of_ble_eq_true rfl) (by omega) (by omega) (by omega) (by omega)) ?_
                refine v_icmp_gt 270 234 d_L_goesOn_231 rfl rfl (by omega) (by omega) (by omega) (by omega) (fun k231 => ?_) (fun k231 => ?_)
                · omega
                · refine xv (x_iload 236 d_L_goesOn_234 rfl rfl) ?_
                  refine v_if_ne 257 239 d_L_goesOn_236 rfl rfl (by omega) (by omega) (fun k236 => ?_) (fun k236 => ?_)
                  · omega
                  · refine xv (x_iload 241 d_L_goesOn_239 rfl rfl) ?_
                    refine xv (x_iload 243 d_L_goesOn_241 rfl rfl) ?_
                    refine xv (x_ineg 244 d_L_goesOn_243 rfl) ?_
                    rw [zi_neg]
                    show Xv E q_m_L_goesOn 244 [Value.ref x, Value.int (zi (l 3)), Value.ref s, Value.ref (s + 1), Value.ref (s + 2), Value.ref (s + 3), Value.int (zi (lo 2)), Value.int (zi r), Value.int (zi ((rb l r 5) - (rb lo r 5))), Value.int (zi 0), Value.int (zi ((rb l r 1) - (rb lo r 1)))] [Value.int (zi (-((rb l r 5) - (rb lo r 5)))), Value.int (zi ((rb l r 1) - (rb lo r 1)))] h203 Q
                    refine v_icmp_gt 270 247 d_L_goesOn_244 rfl rfl (by omega) (by omega) (by omega) (by omega) (fun k244 => ?_) (fun k244 => ?_)
                    · first | (have := GR4 (fun z => by omega); omega) | (have := GR4 (fun z => k161 (by rw [hk _ (by omega) (by omega) (by omega)]; exact z.2)); omega)
                    · refine xv (x_iload 249 d_L_goesOn_247 rfl rfl) ?_
                      refine xv (x_bipush 251 d_L_goesOn_249 rfl rfl) ?_
                      refine xv (x_iload 253 d_L_goesOn_251 rfl rfl) ?_
                      refine xv (x_imul 254 d_L_goesOn_253 rfl) ?_
                      refine v_icmp_lt 270 257 d_L_goesOn_254 rfl rfl (by omega) (by omega) (by omega) (by omega) (fun k254 => ?_) (fun k254 => ?_)
                      · first | (have := GR4 (fun z => by omega); omega) | (have := GR4 (fun z => k161 (by rw [hk _ (by omega) (by omega) (by omega)]; exact z.2)); omega)
                      · refine xv (x_aload 259 d_L_goesOn_257 rfl rfl) ?_
                        refine xv (x_iload 261 d_L_goesOn_259 rfl rfl) ?_
                        refine xv (x_iaload 262 d_L_goesOn_261 rfl ((ai_g (ai_fy Q5 P203.1.2 (by omega)) (by omega) (by omega) (by omega)).trans (cz (g5 r (by omega) (by omega))))) ?_
                        have j5 := rg_b3 hRo (r := r) ⟨by omega, by omega⟩
                        refine v_if_ne 272 265 d_L_goesOn_262 rfl rfl (by omega) (by omega) (fun k262 => ?_) (fun k262 => ?_)
                        · refine xv (x_iinc 275 d_L_goesOn_272 rfl rfl) ?_
                          show Xv E q_m_L_goesOn 275 [Value.ref x, Value.int (zi (l 3)), Value.ref s, Value.ref (s + 1), Value.ref (s + 2), Value.ref (s + 3), Value.int (zi (lo 2)), Value.int (zi (r + 1)), Value.int (zi ((rb l r 5) - (rb lo r 5))), Value.int (zi 0), Value.int (zi ((rb l r 1) - (rb lo r 1)))] [] h203 Q
                          refine xv (x_goto 120 d_L_goesOn_275 rfl) ?_
                          exact ih120 _ (by omega) (r + 1) _ _ _ _ (by omega) (by omega) (px_mo P203 (by omega)) rfl
                        · refine xv (x_iload 267 d_L_goesOn_265 rfl rfl) ?_
                          refine v_if_eq 272 270 d_L_goesOn_267 rfl rfl (by omega) (by omega) (fun k267 => ?_) (fun k267 => ?_)
                          · refine xv (x_iinc 275 d_L_goesOn_272 rfl rfl) ?_
                            show Xv E q_m_L_goesOn 275 [Value.ref x, Value.int (zi (l 3)), Value.ref s, Value.ref (s + 1), Value.ref (s + 2), Value.ref (s + 3), Value.int (zi (lo 2)), Value.int (zi (r + 1)), Value.int (zi ((rb l r 5) - (rb lo r 5))), Value.int (zi 0), Value.int (zi ((rb l r 1) - (rb lo r 1)))] [] h203 Q
                            refine xv (x_goto 120 d_L_goesOn_275 rfl) ?_
                            exact ih120 _ (by omega) (r + 1) _ _ _ _ (by omega) (by omega) (px_mo P203 (by omega)) rfl
                          · omega
          · refine xv (x_aload_n 152 d_L_goesOn_151 rfl rfl) ?_
            refine xv (x_aload_n 153 d_L_goesOn_152 rfl rfl) ?_
            refine xv (x_iload 155 d_L_goesOn_153 rfl rfl) ?_
            refine xv (x_iaload 156 d_L_goesOn_155 rfl ((ai_g (ai_fy Q2 P131.1.2 (by omega)) (by omega) (by omega) (by omega)).trans (cz (g2 r (by omega) (by omega))))) ?_
            have j2 := rg_pl hRo (r := r) (t := 3) ⟨by omega, by omega⟩ (by omega)
            refine xv (x_iconst 157 d_L_goesOn_156 rfl) ?_
            obtain ⟨h157, e157, P157⟩ := A_cell0 (E := E) (y := (ahd lo r 3)) P131 ⟨by omega, by omega⟩
            refine xv (x_inv1 160 (as := [Value.int (zi (ahd lo r 3)), Value.int (zi 0)]) d_L_goesOn_157 rfl c_9_196 rfl (Nat.le_of_ble_eq_true rfl) (Nat.le_of_ble_eq_true rfl) (px_o P131) (Nat.le_of_ble_eq_true rfl) (Nat.le_of_ble_eq_true rfl) rfl e157) ?_
            have q157 := rg_k hR (y := (ahd lo r 3)) ⟨by omega, by omega⟩
            show Xv E q_m_L_goesOn 160 [Value.ref x, Value.int (zi (l 3)), Value.ref s, Value.ref (s + 1), Value.ref (s + 2), Value.ref (s + 3), Value.int (zi (lo 2)), Value.int (zi r), Value.int (zi ((rb l r 5) - (rb lo r 5))), d9, d10] [Value.int (zi (l (8 + (ahd lo r 3))))] h157 Q
            refine xv (x_iconst 161 d_L_goesOn_160 rfl) ?_
            refine v_icmp_ne 168 164 d_L_goesOn_161 rfl rfl (by omega) (by omega) (by omega) (by omega) (fun k161 => ?_) (fun k161 => ?_)
            · refine xv (x_iconst 169 d_L_goesOn_168 rfl) ?_
              refine xv (x_istore 171 d_L_goesOn_169 rfl (Nat.le_of_ble_eq_true rfl)) ?_
              show Xv E q_m_L_goesOn 171 [Value.ref x, Value.int (zi (l 3)), Value.ref s, Value.ref (s + 1), Value.ref (s + 2), Value.ref (s + 3), Value.int (zi (lo 2)), Value.int (zi r), Value.int (zi ((rb l r 5) - (rb lo r 5))), Value.int (zi 0), d10] [] h157 Q
              refine xv (x_aload_n 172 d_L_goesOn_171 rfl rfl) ?_
              refine xv (x_iload 174 d_L_goesOn_172 rfl rfl) ?_
              refine xv (x_iconst 175 d_L_goesOn_174 rfl) ?_
              obtain ⟨h175, e175, P175⟩ := A_robotOf1 (E := E) (r := r) P157 ⟨by omega, by omega⟩
              refine xv (x_inv1 178 (as := [Value.int (zi r), Value.int (zi 1)]) d_L_goesOn_175 rfl c_9_203 rfl (Nat.le_of_ble_eq_true rfl) (Nat.le_of_ble_eq_true rfl) (px_o P157) (Nat.le_of_ble_eq_true rfl) (Nat.le_of_ble_eq_true rfl) rfl e175) ?_
              have q175 := rg_b1 hR (r := r) ⟨by omega, by omega⟩
              show Xv E q_m_L_goesOn 178 [Value.ref x, Value.int (zi (l 3)), Value.ref s, Value.ref (s + 1), Value.ref (s + 2), Value.ref (s + 3), Value.int (zi (lo 2)), Value.int (zi r), Value.int (zi ((rb l r 5) - (rb lo r 5))), Value.int (zi 0), d10] [Value.int (zi (rb l r 1))] h175 Q
              refine xv (x_aload_n 179 d_L_goesOn_178 rfl rfl) ?_
              refine xv (x_iload 181 d_L_goesOn_179 rfl rfl) ?_
              refine xv (x_iaload 182 d_L_goesOn_181 rfl ((ai_g (ai_fy Q3 P175.1.2 (by omega)) (by omega) (by omega) (by omega)).trans (cz (g3 r (by omega) (by omega))))) ?_
              have j3 := rg_b1 hRo (r := r) ⟨by omega, by omega⟩
              refine xv (x_isub 183 d_L_goesOn_182 rfl) ?_
              refine xv (x_istore 185 d_L_goesOn_183 rfl (Nat.le_of_ble_eq_true rfl)) ?_
              show Xv E q_m_L_goesOn 185 [Value.ref x, Value.int (zi (l 3)), Value.ref s, Value.ref (s + 1), Value.ref (s + 2), Value.ref (s + 3), Value.int (zi (lo 2)), Value.int (zi r), Value.int (zi ((rb l r 5) - (rb lo r 5))), Value.int (zi 0), Value.int (zi ((rb l r 1) - (rb lo r 1)))] [] h175 Q
              refine xv (x_aload_n 186 d_L_goesOn_185 rfl rfl) ?_
              refine xv (x_iload 188 d_L_goesOn_186 rfl rfl) ?_
              refine xv (x_iconst 189 d_L_goesOn_188 rfl) ?_
              obtain ⟨h189, e189, P189⟩ := A_robotOf0 (E := E) (r := r) P175 ⟨by omega, by omega⟩
              refine xv (x_inv1 192 (as := [Value.int (zi r), Value.int (zi 0)]) d_L_goesOn_189 rfl c_9_203 rfl (Nat.le_of_ble_eq_true rfl) (Nat.le_of_ble_eq_true rfl) (px_o P175) (Nat.le_of_ble_eq_true rfl) (Nat.le_of_ble_eq_true rfl) rfl e189) ?_
              have q189 := rg_b0 hR (r := r) ⟨by omega, by omega⟩
              show Xv E q_m_L_goesOn 192 [Value.ref x, Value.int (zi (l 3)), Value.ref s, Value.ref (s + 1), Value.ref (s + 2), Value.ref (s + 3), Value.int (zi (lo 2)), Value.int (zi r), Value.int (zi ((rb l r 5) - (rb lo r 5))), Value.int (zi 0), Value.int (zi ((rb l r 1) - (rb lo r 1)))] [Value.int (zi (rb l r 0))] h189 Q
              refine xv (x_aload_n 193 d_L_goesOn_192 rfl rfl) ?_
              refine xv (x_iload 195 d_L_goesOn_193 rfl rfl) ?_
              refine xv (x_iaload 196 d_L_goesOn_195 rfl ((ai_g (ai_fy Q2 P189.1.2 (by omega)) (by omega) (by omega) (by omega)).trans (cz (g2 r (by omega) (by omega))))) ?_
              have j2 := rg_pl hRo (r := r) (t := 3) ⟨by omega, by omega⟩ (by omega)
              refine v_icmp_ne 270 199 d_L_goesOn_196 rfl rfl (by omega) (by omega) (by omega) (by omega) (fun k196 => ?_) (fun k196 => ?_)
              · omega
              · refine xv (x_aload_n 200 d_L_goesOn_199 rfl rfl) ?_
                refine xv (x_iload 202 d_L_goesOn_200 rfl rfl) ?_
                refine xv (x_iconst 203 d_L_goesOn_202 rfl) ?_
                obtain ⟨h203, e203, P203⟩ := A_robotOf3 (E := E) (r := r) P189 ⟨by omega, by omega⟩
                refine xv (x_inv1 206 (as := [Value.int (zi r), Value.int (zi 3)]) d_L_goesOn_203 rfl c_9_203 rfl (Nat.le_of_ble_eq_true rfl) (Nat.le_of_ble_eq_true rfl) (px_o P189) (Nat.le_of_ble_eq_true rfl) (Nat.le_of_ble_eq_true rfl) rfl e203) ?_
                have q203 := rg_b3 hR (r := r) ⟨by omega, by omega⟩
                show Xv E q_m_L_goesOn 206 [Value.ref x, Value.int (zi (l 3)), Value.ref s, Value.ref (s + 1), Value.ref (s + 2), Value.ref (s + 3), Value.int (zi (lo 2)), Value.int (zi r), Value.int (zi ((rb l r 5) - (rb lo r 5))), Value.int (zi 0), Value.int (zi ((rb l r 1) - (rb lo r 1)))] [Value.int (zi (rb l r 3))] h203 Q
                refine xv (x_iconst 207 d_L_goesOn_206 rfl) ?_
                refine xv (x_aload 209 d_L_goesOn_207 rfl rfl) ?_
                refine xv (x_iload 211 d_L_goesOn_209 rfl rfl) ?_
                refine xv (x_iaload 212 d_L_goesOn_211 rfl ((ai_g (ai_fy Q5 P203.1.2 (by omega)) (by omega) (by omega) (by omega)).trans (cz (g5 r (by omega) (by omega))))) ?_
                have j5 := rg_b3 hRo (r := r) ⟨by omega, by omega⟩
                refine xv (x_iconst 213 d_L_goesOn_212 rfl) ?_
                refine xv (x_isub 214 d_L_goesOn_213 rfl) ?_
                refine xv (x_mmax 217 d_L_goesOn_214 rfl rfl rfl rfl (Nat.le_of_ble_eq_true rfl) (Nat.le_of_ble_eq_true rfl) (Nat.le_of_ble_eq_true rfl) (by omega) (by omega) (by omega) (by omega)) ?_
                refine v_icmp_ne 270 220 d_L_goesOn_217 rfl rfl (by omega) (by omega) (by omega) (by omega) (fun k217 => ?_) (fun k217 => ?_)
                · omega
                · refine xv (x_iload 222 d_L_goesOn_220 rfl rfl) ?_
                  refine xv (x_iconst 223 d_L_goesOn_222 rfl) ?_
                  refine xv (x_aload 225 d_L_goesOn_223 rfl rfl) ?_
                  refine xv (x_iload 227 d_L_goesOn_225 rfl rfl) ?_
                  refine xv (x_iaload 228 d_L_goesOn_227 rfl ((ai_g (ai_fy Q5 P203.1.2 (by omega)) (by omega) (by omega) (by omega)).trans (cz (g5 r (by omega) (by omega))))) ?_
                  have j5 := rg_b3 hRo (r := r) ⟨by omega, by omega⟩
                  refine xv (x_mmin 231 d_L_goesOn_228 rfl rfl rfl rfl (Nat.le_of_ble_eq_true rfl) (Nat.le_of_ble_eq_true rfl) (Nat.le_of_ble_eq_true rfl) (by omega) (by omega) (by omega) (by omega)) ?_
                  refine v_icmp_gt 270 234 d_L_goesOn_231 rfl rfl (by omega) (by omega) (by omega) (by omega) (fun k231 => ?_) (fun k231 => ?_)
                  · omega
                  · refine xv (x_iload 236 d_L_goesOn_234 rfl rfl) ?_
                    refine v_if_ne 257 239 d_L_goesOn_236 rfl rfl (by omega) (by omega) (fun k236 => ?_) (fun k236 => ?_)
                    · omega
                    · refine xv (x_iload 241 d_L_goesOn_239 rfl rfl) ?_
                      refine xv (x_iload 243 d_L_goesOn_241 rfl rfl) ?_
                      refine xv (x_ineg 244 d_L_goesOn_243 rfl) ?_
                      rw [zi_neg]
                      show Xv E q_m_L_goesOn 244 [Value.ref x, Value.int (zi (l 3)), Value.ref s, Value.ref (s + 1), Value.ref (s + 2), Value.ref (s + 3), Value.int (zi (lo 2)), Value.int (zi r), Value.int (zi ((rb l r 5) - (rb lo r 5))), Value.int (zi 0), Value.int (zi ((rb l r 1) - (rb lo r 1)))] [Value.int (zi (-((rb l r 5) - (rb lo r 5)))), Value.int (zi ((rb l r 1) - (rb lo r 1)))] h203 Q
                      refine v_icmp_gt 270 247 d_L_goesOn_244 rfl rfl (by omega) (by omega) (by omega) (by omega) (fun k244 => ?_) (fun k244 => ?_)
                      · first | (have := GR4 (fun z => by omega); omega) | (have := GR4 (fun z => k161 (by rw [hk _ (by omega) (by omega) (by omega)]; exact z.2)); omega)
                      · refine xv (x_iload 249 d_L_goesOn_247 rfl rfl) ?_
                        refine xv (x_bipush 251 d_L_goesOn_249 rfl rfl) ?_
                        refine xv (x_iload 253 d_L_goesOn_251 rfl rfl) ?_
                        refine xv (x_imul 254 d_L_goesOn_253 rfl) ?_
                        refine v_icmp_lt 270 257 d_L_goesOn_254 rfl rfl (by omega) (by omega) (by omega) (by omega) (fun k254 => ?_) (fun k254 => ?_)
                        · first | (have := GR4 (fun z => by omega); omega) | (have := GR4 (fun z => k161 (by rw [hk _ (by omega) (by omega) (by omega)]; exact z.2)); omega)
                        · refine xv (x_aload 259 d_L_goesOn_257 rfl rfl) ?_
                          refine xv (x_iload 261 d_L_goesOn_259 rfl rfl) ?_
                          refine xv (x_iaload 262 d_L_goesOn_261 rfl ((ai_g (ai_fy Q5 P203.1.2 (by omega)) (by omega) (by omega) (by omega)).trans (cz (g5 r (by omega) (by omega))))) ?_
                          have j5 := rg_b3 hRo (r := r) ⟨by omega, by omega⟩
                          refine v_if_ne 272 265 d_L_goesOn_262 rfl rfl (by omega) (by omega) (fun k262 => ?_) (fun k262 => ?_)
                          · refine xv (x_iinc 275 d_L_goesOn_272 rfl rfl) ?_
                            show Xv E q_m_L_goesOn 275 [Value.ref x, Value.int (zi (l 3)), Value.ref s, Value.ref (s + 1), Value.ref (s + 2), Value.ref (s + 3), Value.int (zi (lo 2)), Value.int (zi (r + 1)), Value.int (zi ((rb l r 5) - (rb lo r 5))), Value.int (zi 0), Value.int (zi ((rb l r 1) - (rb lo r 1)))] [] h203 Q
                            refine xv (x_goto 120 d_L_goesOn_275 rfl) ?_
                            exact ih120 _ (by omega) (r + 1) _ _ _ _ (by omega) (by omega) (px_mo P203 (by omega)) rfl
                          · refine xv (x_iload 267 d_L_goesOn_265 rfl rfl) ?_
                            refine v_if_eq 272 270 d_L_goesOn_267 rfl rfl (by omega) (by omega) (fun k267 => ?_) (fun k267 => ?_)
                            · refine xv (x_iinc 275 d_L_goesOn_272 rfl rfl) ?_
                              show Xv E q_m_L_goesOn 275 [Value.ref x, Value.int (zi (l 3)), Value.ref s, Value.ref (s + 1), Value.ref (s + 2), Value.ref (s + 3), Value.int (zi (lo 2)), Value.int (zi (r + 1)), Value.int (zi ((rb l r 5) - (rb lo r 5))), Value.int (zi 0), Value.int (zi ((rb l r 1) - (rb lo r 1)))] [] h203 Q
                              refine xv (x_goto 120 d_L_goesOn_275 rfl) ?_
                              exact ih120 _ (by omega) (r + 1) _ _ _ _ (by omega) (by omega) (px_mo P203 (by omega)) rfl
                            · omega
            · refine xv (x_iconst 165 d_L_goesOn_164 rfl) ?_
              refine xv (x_goto 169 d_L_goesOn_165 rfl) ?_
              refine xv (x_istore 171 d_L_goesOn_169 rfl (Nat.le_of_ble_eq_true rfl)) ?_
              show Xv E q_m_L_goesOn 171 [Value.ref x, Value.int (zi (l 3)), Value.ref s, Value.ref (s + 1), Value.ref (s + 2), Value.ref (s + 3), Value.int (zi (lo 2)), Value.int (zi r), Value.int (zi ((rb l r 5) - (rb lo r 5))), Value.int (zi 1), d10] [] h157 Q
              refine xv (x_aload_n 172 d_L_goesOn_171 rfl rfl) ?_
              refine xv (x_iload 174 d_L_goesOn_172 rfl rfl) ?_
              refine xv (x_iconst 175 d_L_goesOn_174 rfl) ?_
              obtain ⟨h175, e175, P175⟩ := A_robotOf1 (E := E) (r := r) P157 ⟨by omega, by omega⟩
              refine xv (x_inv1 178 (as := [Value.int (zi r), Value.int (zi 1)]) d_L_goesOn_175 rfl c_9_203 rfl (Nat.le_of_ble_eq_true rfl) (Nat.le_of_ble_eq_true rfl) (px_o P157) (Nat.le_of_ble_eq_true rfl) (Nat.le_of_ble_eq_true rfl) rfl e175) ?_
              have q175 := rg_b1 hR (r := r) ⟨by omega, by omega⟩
              show Xv E q_m_L_goesOn 178 [Value.ref x, Value.int (zi (l 3)), Value.ref s, Value.ref (s + 1), Value.ref (s + 2), Value.ref (s + 3), Value.int (zi (lo 2)), Value.int (zi r), Value.int (zi ((rb l r 5) - (rb lo r 5))), Value.int (zi 1), d10] [Value.int (zi (rb l r 1))] h175 Q
              refine xv (x_aload_n 179 d_L_goesOn_178 rfl rfl) ?_
              refine xv (x_iload 181 d_L_goesOn_179 rfl rfl) ?_
              refine xv (x_iaload 182 d_L_goesOn_181 rfl ((ai_g (ai_fy Q3 P175.1.2 (by omega)) (by omega) (by omega) (by omega)).trans (cz (g3 r (by omega) (by omega))))) ?_
              have j3 := rg_b1 hRo (r := r) ⟨by omega, by omega⟩
              refine xv (x_isub 183 d_L_goesOn_182 rfl) ?_
              refine xv (x_istore 185 d_L_goesOn_183 rfl (Nat.le_of_ble_eq_true rfl)) ?_
              show Xv E q_m_L_goesOn 185 [Value.ref x, Value.int (zi (l 3)), Value.ref s, Value.ref (s + 1), Value.ref (s + 2), Value.ref (s + 3), Value.int (zi (lo 2)), Value.int (zi r), Value.int (zi ((rb l r 5) - (rb lo r 5))), Value.int (zi 1), Value.int (zi ((rb l r 1) - (rb lo r 1)))] [] h175 Q
              refine xv (x_aload_n 186 d_L_goesOn_185 rfl rfl) ?_
              refine xv (x_iload 188 d_L_goesOn_186 rfl rfl) ?_
              refine xv (x_iconst 189 d_L_goesOn_188 rfl) ?_
              obtain ⟨h189, e189, P189⟩ := A_robotOf0 (E := E) (r := r) P175 ⟨by omega, by omega⟩
              refine xv (x_inv1 192 (as := [Value.int (zi r), Value.int (zi 0)]) d_L_goesOn_189 rfl c_9_203 rfl (Nat.le_of_ble_eq_true rfl) (Nat.le_of_ble_eq_true rfl) (px_o P175) (Nat.le_of_ble_eq_true rfl) (Nat.le_of_ble_eq_true rfl) rfl e189) ?_
              have q189 := rg_b0 hR (r := r) ⟨by omega, by omega⟩
              show Xv E q_m_L_goesOn 192 [Value.ref x, Value.int (zi (l 3)), Value.ref s, Value.ref (s + 1), Value.ref (s + 2), Value.ref (s + 3), Value.int (zi (lo 2)), Value.int (zi r), Value.int (zi ((rb l r 5) - (rb lo r 5))), Value.int (zi 1), Value.int (zi ((rb l r 1) - (rb lo r 1)))] [Value.int (zi (rb l r 0))] h189 Q
              refine xv (x_aload_n 193 d_L_goesOn_192 rfl rfl) ?_
              refine xv (x_iload 195 d_L_goesOn_193 rfl rfl) ?_
              refine xv (x_iaload 196 d_L_goesOn_195 rfl ((ai_g (ai_fy Q2 P189.1.2 (by omega)) (by omega) (by omega) (by omega)).trans (cz (g2 r (by omega) (by omega))))) ?_
              have j2 := rg_pl hRo (r := r) (t := 3) ⟨by omega, by omega⟩ (by omega)
              refine v_icmp_ne 270 199 d_L_goesOn_196 rfl rfl (by omega) (by omega) (by omega) (by omega) (fun k196 => ?_) (fun k196 => ?_)
              · omega
              · refine xv (x_aload_n 200 d_L_goesOn_199 rfl rfl) ?_
                refine xv (x_iload 202 d_L_goesOn_200 rfl rfl) ?_
                refine xv (x_iconst 203 d_L_goesOn_202 rfl) ?_
                obtain ⟨h203, e203, P203⟩ := A_robotOf3 (E := E) (r := r) P189 ⟨by omega, by omega⟩
                refine xv (x_inv1 206 (as := [Value.int (zi r), Value.int (zi 3)]) d_L_goesOn_203 rfl c_9_203 rfl (Nat.le_of_ble_eq_true rfl) (Nat.le_of_ble_eq_true rfl) (px_o P189) (Nat.le_of_ble_eq_true rfl) (Nat.le_of_ble_eq_true rfl) rfl e203) ?_
                have q203 := rg_b3 hR (r := r) ⟨by omega, by omega⟩
                show Xv E q_m_L_goesOn 206 [Value.ref x, Value.int (zi (l 3)), Value.ref s, Value.ref (s + 1), Value.ref (s + 2), Value.ref (s + 3), Value.int (zi (lo 2)), Value.int (zi r), Value.int (zi ((rb l r 5) - (rb lo r 5))), Value.int (zi 1), Value.int (zi ((rb l r 1) - (rb lo r 1)))] [Value.int (zi (rb l r 3))] h203 Q
                refine xv (x_iconst 207 d_L_goesOn_206 rfl) ?_
                refine xv (x_aload 209 d_L_goesOn_207 rfl rfl) ?_
                refine xv (x_iload 211 d_L_goesOn_209 rfl rfl) ?_
                refine xv (x_iaload 212 d_L_goesOn_211 rfl ((ai_g (ai_fy Q5 P203.1.2 (by omega)) (by omega) (by omega) (by omega)).trans (cz (g5 r (by omega) (by omega))))) ?_
                have j5 := rg_b3 hRo (r := r) ⟨by omega, by omega⟩
                refine xv (x_iconst 213 d_L_goesOn_212 rfl) ?_
                refine xv (x_isub 214 d_L_goesOn_213 rfl) ?_
                refine xv (x_mmax 217 d_L_goesOn_214 rfl rfl rfl rfl (Nat.le_of_ble_eq_true rfl) (Nat.le_of_ble_eq_true rfl) (Nat.le_of_ble_eq_true rfl) (by omega) (by omega) (by omega) (by omega)) ?_
                refine v_icmp_ne 270 220 d_L_goesOn_217 rfl rfl (by omega) (by omega) (by omega) (by omega) (fun k217 => ?_) (fun k217 => ?_)
                · omega
                · refine xv (x_iload 222 d_L_goesOn_220 rfl rfl) ?_
                  refine xv (x_iconst 223 d_L_goesOn_222 rfl) ?_
                  refine xv (x_aload 225 d_L_goesOn_223 rfl rfl) ?_
                  refine xv (x_iload 227 d_L_goesOn_225 rfl rfl) ?_
                  refine xv (x_iaload 228 d_L_goesOn_227 rfl ((ai_g (ai_fy Q5 P203.1.2 (by omega)) (by omega) (by omega) (by omega)).trans (cz (g5 r (by omega) (by omega))))) ?_
                  have j5 := rg_b3 hRo (r := r) ⟨by omega, by omega⟩
                  refine xv (x_mmin 231 d_L_goesOn_228 rfl rfl rfl rfl (Nat.le_of_ble_eq_true rfl) (Nat.le_of_ble_eq_true rfl) (Nat.le_of_ble_eq_true rfl) (by omega) (by omega) (by omega) (by omega)) ?_
                  refine v_icmp_gt 270 234 d_L_goesOn_231 rfl rfl (by omega) (by omega) (by omega) (by omega) (fun k231 => ?_) (fun k231 => ?_)
                  · omega
                  · refine xv (x_iload 236 d_L_goesOn_234 rfl rfl) ?_
                    refine v_if_ne 257 239 d_L_goesOn_236 rfl rfl (by omega) (by omega) (fun k236 => ?_) (fun k236 => ?_)
                    · refine xv (x_aload 259 d_L_goesOn_257 rfl rfl) ?_
                      refine xv (x_iload 261 d_L_goesOn_259 rfl rfl) ?_
                      refine xv (x_iaload 262 d_L_goesOn_261 rfl ((ai_g (ai_fy Q5 P203.1.2 (by omega)) (by omega) (by omega) (by omega)).trans (cz (g5 r (by omega) (by omega))))) ?_
                      have j5 := rg_b3 hRo (r := r) ⟨by omega, by omega⟩
                      refine v_if_ne 272 265 d_L_goesOn_262 rfl rfl (by omega) (by omega) (fun k262 => ?_) (fun k262 => ?_)
                      · refine xv (x_iinc 275 d_L_goesOn_272 rfl rfl) ?_
                        show Xv E q_m_L_goesOn 275 [Value.ref x, Value.int (zi (l 3)), Value.ref s, Value.ref (s + 1), Value.ref (s + 2), Value.ref (s + 3), Value.int (zi (lo 2)), Value.int (zi (r + 1)), Value.int (zi ((rb l r 5) - (rb lo r 5))), Value.int (zi 1), Value.int (zi ((rb l r 1) - (rb lo r 1)))] [] h203 Q
                        refine xv (x_goto 120 d_L_goesOn_275 rfl) ?_
                        exact ih120 _ (by omega) (r + 1) _ _ _ _ (by omega) (by omega) (px_mo P203 (by omega)) rfl
                      · refine xv (x_iload 267 d_L_goesOn_265 rfl rfl) ?_
                        refine v_if_eq 272 270 d_L_goesOn_267 rfl rfl (by omega) (by omega) (fun k267 => ?_) (fun k267 => ?_)
                        · refine xv (x_iinc 275 d_L_goesOn_272 rfl rfl) ?_
                          show Xv E q_m_L_goesOn 275 [Value.ref x, Value.int (zi (l 3)), Value.ref s, Value.ref (s + 1), Value.ref (s + 2), Value.ref (s + 3), Value.int (zi (lo 2)), Value.int (zi (r + 1)), Value.int (zi ((rb l r 5) - (rb lo r 5))), Value.int (zi 1), Value.int (zi ((rb l r 1) - (rb lo r 1)))] [] h203 Q
                          refine xv (x_goto 120 d_L_goesOn_275 rfl) ?_
                          exact ih120 _ (by omega) (r + 1) _ _ _ _ (by omega) (by omega) (px_mo P203 (by omega)) rfl
                        · omega
                    · omega
    exact L120 _ 0 _ _ _ _ (by omega) (by omega) (px_mo P105 (by omega)) rfl
  · omega
theorem P_goesOn (hT : StR T l m) (hT0 : 0 ≤ T) (hT1 : T ≤ 80000) (hJ : JV l) (B : BZ x h0 C W) (hC : 0 ≤ C) (hW : 0 ≤ W) (h0k : 0 ≤ kb) (P : PX x l ls nx ct kl n c hs fa kr kd_ h0 (kb) h) : ∃ r_ h', q_cl E q_m_L_goesOn [Value.ref x] h = some (r_, h') ∧ (r_ = .inl (some (.int (zi 1))) ∧ ∃ l2 nx2 ct2 kl2, PX x l2 ls nx2 ct2 kl2 n c hs fa kr kd_ h' 0 h' ∧ Lc l2 l ∧ BZ x h' (C + kb + 4) (W + 6 * kb + 24)) := by
  suffices K : ∀ Q : q_R → q_H → Prop, (∀ r_ h', (r_ = .inl (some (.int (zi 1))) ∧ ∃ l2 nx2 ct2 kl2, PX x l2 ls nx2 ct2 kl2 n c hs fa kr kd_ h' 0 h' ∧ Lc l2 l ∧ BZ x h' (C + kb + 4) (W + 6 * kb + 24)) → Q r_ h') → Xv E q_m_L_goesOn 0 [Value.ref x, Value.null, Value.null, Value.null, Value.null, Value.null, Value.null, Value.null, Value.null, Value.null, Value.null] [] h Q from K _ fun _ _ p => p
  intro Q hQ
  have hR := P.2.1
  have hRo := hR
  have gc := rg_c hR
  have gr := rg_r hR
  have go := rg_o hR
  obtain ⟨n3, hn3⟩ := Int.eq_ofNat_of_zero_le gr.1
  refine xv (x_aload_n 1 d_L_goesOn_0 rfl rfl) ?_
  refine xv (x_iconst 2 d_L_goesOn_1 rfl) ?_
  obtain ⟨h2, e2, P2⟩ := A_account2 (E := E)  P 
  refine xv (x_inv1 5 (as := [Value.int (zi 2)]) d_L_goesOn_2 rfl c_9_109 rfl (Nat.le_of_ble_eq_true rfl) (Nat.le_of_ble_eq_true rfl) (px_o P) (Nat.le_of_ble_eq_true rfl) (Nat.le_of_ble_eq_true rfl) rfl e2) ?_
  have q2 := rg_n2 hR
  have B2 := bz_fy B P2.1.2 (Int.le_refl _) (Int.le_refl _)
  obtain ⟨s, c_, w_, Z2, zs, zc, zw⟩ := B2
  show Xv E q_m_L_goesOn 5 [Value.ref x, Value.null, Value.null, Value.null, Value.null, Value.null, Value.null, Value.null, Value.null, Value.null, Value.null] [Value.int (zi (l 3))] h2 Q
  refine xv (x_istore_n 6 d_L_goesOn_5 rfl (Nat.le_of_ble_eq_true rfl)) ?_
  show Xv E q_m_L_goesOn 6 [Value.ref x, Value.int (zi (l 3)), Value.null, Value.null, Value.null, Value.null, Value.null, Value.null, Value.null, Value.null, Value.null] [] h2 Q
  refine xv (x_iload_n 7 d_L_goesOn_6 rfl rfl) ?_
  obtain ⟨h7, e7, a7, f7, z7⟩ := al_x (h := h2) (e := .inl (0, n3, .inl fun _ => 0)) (n := n3) Z2
  refine xv ((congrArg (fun v_ => q_ex E q_m_L_goesOn 7 [Value.ref x, Value.int (zi (l 3)), Value.null, Value.null, Value.null, Value.null, Value.null, Value.null, Value.null, Value.null, Value.null] (v_ :: []) h2) (show Value.int (zi (l 3)) = Value.int (zi (n3 : Int)) by rw [hn3])).trans (xA_newarray (n := n3) 9 d_L_goesOn_7 rfl rfl (by omega) (sz_1 Z2) e7)) ?_
  have P7 : PX x l ls nx ct kl n c hs fa kr kd_ h7 (0) h7 := px_at P2 f7 (by omega)
  have Q7 : AI h7 s 0 n3 (fun _ => 0) := ai_new a7 rfl
  show Xv E q_m_L_goesOn 9 [Value.ref x, Value.int (zi (l 3)), Value.null, Value.null, Value.null, Value.null, Value.null, Value.null, Value.null, Value.null, Value.null] [Value.ref s] h7 Q
  refine xv (x_astore_n 10 d_L_goesOn_9 rfl (Nat.le_of_ble_eq_true rfl)) ?_
  show Xv E q_m_L_goesOn 10 [Value.ref x, Value.int (zi (l 3)), Value.ref s, Value.null, Value.null, Value.null, Value.null, Value.null, Value.null, Value.null, Value.null] [] h7 Q
  refine xv (x_iload_n 11 d_L_goesOn_10 rfl rfl) ?_
  obtain ⟨h11, e11, a11, f11, z11⟩ := al_x (h := h7) (e := .inl (0, n3, .inl fun _ => 0)) (n := n3) z7
  refine xv ((congrArg (fun v_ => q_ex E q_m_L_goesOn 11 [Value.ref x, Value.int (zi (l 3)), Value.ref s, Value.null, Value.null, Value.null, Value.null, Value.null, Value.null, Value.null, Value.null] (v_ :: []) h7) (show Value.int (zi (l 3)) = Value.int (zi (n3 : Int)) by rw [hn3])).trans (xA_newarray (n := n3) 13 d_L_goesOn_11 rfl rfl (by omega) (sz_1 z7) e11)) ?_
  have P11 : PX x l ls nx ct kl n c hs fa kr kd_ h11 (0) h11 := px_at P7 f11 (by omega)
  have Q7_11 : AI h11 s 0 n3 (fun _ => 0) := by have z_ := ai_fr Q7 f11 (by omega); exact z_
  have Q11 : AI h11 (s + 1) 0 n3 (fun _ => 0) := ai_new a11 rfl
  show Xv E q_m_L_goesOn 13 [Value.ref x, Value.int (zi (l 3)), Value.ref s, Value.null, Value.null, Value.null, Value.null, Value.null, Value.null, Value.null, Value.null] [Value.ref (s + 1)] h11 Q
  refine xv (x_astore_n 14 d_L_goesOn_13 rfl (Nat.le_of_ble_eq_true rfl)) ?_
  show Xv E q_m_L_goesOn 14 [Value.ref x, Value.int (zi (l 3)), Value.ref s, Value.ref (s + 1), Value.null, Value.null, Value.null, Value.null, Value.null, Value.null, Value.null] [] h11 Q
  refine xv (x_iload_n 15 d_L_goesOn_14 rfl rfl) ?_
  obtain ⟨h15, e15, a15, f15, z15⟩ := al_x (h := h11) (e := .inl (0, n3, .inl fun _ => 0)) (n := n3) z11
  refine xv ((congrArg (fun v_ => q_ex E q_m_L_goesOn 15 [Value.ref x, Value.int (zi (l 3)), Value.ref s, Value.ref (s + 1), Value.null, Value.null, Value.null, Value.null, Value.null, Value.null, Value.null] (v_ :: []) h11) (show Value.int (zi (l 3)) = Value.int (zi (n3 : Int)) by rw [hn3])).trans (xA_newarray (n := n3) 17 d_L_goesOn_15 rfl rfl (by omega) (sz_1 z11) e15)) ?_
  have P15 : PX x l ls nx ct kl n c hs fa kr kd_ h15 (0) h15 := px_at P11 f15 (by omega)
  have Q7_15 : AI h15 s 0 n3 (fun _ => 0) := by have z_ := ai_fr Q7_11 f15 (by omega); exact z_
  have Q11_15 : AI h15 (s + 1) 0 n3 (fun _ => 0) := by have z_ := ai_fr Q11 f15 (by omega); exact z_
  have Q15 : AI h15 (s + 1 + 1) 0 n3 (fun _ => 0) := ai_new a15 rfl
  show Xv E q_m_L_goesOn 17 [Value.ref x, Value.int (zi (l 3)), Value.ref s, Value.ref (s + 1), Value.null, Value.null, Value.null, Value.null, Value.null, Value.null, Value.null] [Value.ref (s + 1 + 1)] h15 Q
  refine xv (x_astore 19 d_L_goesOn_17 rfl (Nat.le_of_ble_eq_true rfl)) ?_
  show Xv E q_m_L_goesOn 19 [Value.ref x, Value.int (zi (l 3)), Value.ref s, Value.ref (s + 1), Value.ref (s + 1 + 1), Value.null, Value.null, Value.null, Value.null, Value.null, Value.null] [] h15 Q
  refine xv (x_iload_n 20 d_L_goesOn_19 rfl rfl) ?_
  obtain ⟨h20, e20, a20, f20, z20⟩ := al_x (h := h15) (e := .inl (0, n3, .inl fun _ => 0)) (n := n3) z15
  refine xv ((congrArg (fun v_ => q_ex E q_m_L_goesOn 20 [Value.ref x, Value.int (zi (l 3)), Value.ref s, Value.ref (s + 1), Value.ref (s + 1 + 1), Value.null, Value.null, Value.null, Value.null, Value.null, Value.null] (v_ :: []) h15) (show Value.int (zi (l 3)) = Value.int (zi (n3 : Int)) by rw [hn3])).trans (xA_newarray (n := n3) 22 d_L_goesOn_20 rfl rfl (by omega) (sz_1 z15) e20)) ?_
  have P20 : PX x l ls nx ct kl n c hs fa kr kd_ h20 (0) h20 := px_at P15 f20 (by omega)
  have Q7_20 : AI h20 s 0 n3 (fun _ => 0) := by have z_ := ai_fr Q7_15 f20 (by omega); exact z_
  have Q11_20 : AI h20 (s + 1) 0 n3 (fun _ => 0) := by have z_ := ai_fr Q11_15 f20 (by omega); exact z_
  have Q15_20 : AI h20 (s + 1 + 1) 0 n3 (fun _ => 0) := by have z_ := ai_fr Q15 f20 (by omega); exact z_
  have Q20 : AI h20 (s + 1 + 1 + 1) 0 n3 (fun _ => 0) := ai_new a20 rfl
  show Xv E q_m_L_goesOn 22 [Value.ref x, Value.int (zi (l 3)), Value.ref s, Value.ref (s + 1), Value.ref (s + 1 + 1), Value.null, Value.null, Value.null, Value.null, Value.null, Value.null] [Value.ref (s + 1 + 1 + 1)] h20 Q
  refine xv (x_astore 24 d_L_goesOn_22 rfl (Nat.le_of_ble_eq_true rfl)) ?_
  show Xv E q_m_L_goesOn 24 [Value.ref x, Value.int (zi (l 3)), Value.ref s, Value.ref (s + 1), Value.ref (s + 1 + 1), Value.ref (s + 1 + 1 + 1), Value.null, Value.null, Value.null, Value.null, Value.null] [] h20 Q
  refine xv (x_iconst 25 d_L_goesOn_24 rfl) ?_
  refine xv (x_istore 27 d_L_goesOn_25 rfl (Nat.le_of_ble_eq_true rfl)) ?_
  show Xv E q_m_L_goesOn 27 [Value.ref x, Value.int (zi (l 3)), Value.ref s, Value.ref (s + 1), Value.ref (s + 1 + 1), Value.ref (s + 1 + 1 + 1), Value.int (zi 0), Value.null, Value.null, Value.null, Value.null] [] h20 Q
  have L27 : ∀ (n_ : Nat) (r : Int) (h_27 : q_H) (f2 : Int → Int) (f3 : Int → Int) (f4 : Int → Int) (f5 : Int → Int), (0 ≤ r) → (r ≤ l 3) → (PX x l ls nx ct kl n c hs fa kr kd_ h_27 (0) h_27) → (BZ x h_27 (C + kb + 4) (W + 6 * kb + 24)) → (AI h_27 s 0 n3 f2) → (AI h_27 (s + 1) 0 n3 f3) → (AI h_27 (s + 2) 0 n3 f4) → (AI h_27 (s + 3) 0 n3 f5) → (∀ i, 0 ≤ i → i < r → f2 i = ahd l i 3) → (∀ i, 0 ≤ i → i < r → f3 i = rb l i 1) → (∀ i, 0 ≤ i → i < r → f4 i = rb l i 5) → (∀ i, 0 ≤ i → i < r → f5 i = rb l i 3) → (l 3 - r).toNat = n_ → Xv E q_m_L_goesOn 27 [Value.ref x, Value.int (zi (l 3)), Value.ref s, Value.ref (s + 1), Value.ref (s + 2), Value.ref (s + 3), Value.int (zi r), Value.null, Value.null, Value.null, Value.null] [] h_27 Q := by
    intro n_
    induction n_ using Nat.strongRecOn with
    | _ n_ ih27 =>
      intro r h_27 f2 f3 f4 f5 y27_0 y27_1 P_27 B_27 Q2_27 Q3_27 Q4_27 Q5_27 g2 g3 g4 g5 em
      refine xv (x_iload 29 d_L_goesOn_27 rfl rfl) ?_
      refine xv (x_iload_n 30 d_L_goesOn_29 rfl rfl) ?_
      refine v_icmp_ge 86 33 d_L_goesOn_30 rfl rfl (by omega) (by omega) (by omega) (by omega) (fun k30 => ?_) (fun k30 => ?_)
      · refine xv (x_aload_n 87 d_L_goesOn_86 rfl rfl) ?_
        refine xv (x_bipush 89 d_L_goesOn_87 rfl rfl) ?_
        obtain ⟨h89, e89, P89⟩ := A_account8 (E := E)  P_27 
        refine xv (x_inv1 92 (as := [Value.int (zi 8)]) d_L_goesOn_89 rfl c_9_109 rfl (Nat.le_of_ble_eq_true rfl) (Nat.le_of_ble_eq_true rfl) (px_o P_27) (Nat.le_of_ble_eq_true rfl) (Nat.le_of_ble_eq_true rfl) rfl e89) ?_
        have q89 := rg_n8 hR
        show Xv E q_m_L_goesOn 92 [Value.ref x, Value.int (zi (l 3)), Value.ref s, Value.ref (s + 1), Value.ref (s + 2), Value.ref (s + 3), Value.int (zi r), Value.null, Value.null, Value.null, Value.null] [Value.int (zi (l 2))] h89 Q
        refine xv (x_istore 94 d_L_goesOn_92 rfl (Nat.le_of_ble_eq_true rfl)) ?_
        show Xv E q_m_L_goesOn 94 [Value.ref x, Value.int (zi (l 3)), Value.ref s, Value.ref (s + 1), Value.ref (s + 2), Value.ref (s + 3), Value.int (zi (l 2)), Value.null, Value.null, Value.null, Value.null] [] h89 Q
        refine xv (x_aload_n 95 d_L_goesOn_94 rfl rfl) ?_
        refine xv (x_iconst 96 d_L_goesOn_95 rfl) ?_
        obtain ⟨D96, D96s⟩ := B_pass (E := E) (y := 3) P89 hT hT0 (by omega) (by omega) (by omega)
        have z96 : (rfPas 3).1 = 0 := by decide
        rcases D96 with ⟨_, h96, nx1, ct1, kl1, e96, H96, P96⟩ | ⟨D96, _⟩
        rotate_left
        · exact absurd z96 D96
        obtain ⟨m1, T96⟩ := D96s z96
        have J96 := jv_3 hT hT0 (by omega) hJ
        have v96 := psV_r 3 T l m 0 hT hT0 (by omega)
        have U96 := hp_u H96 P89.2.2.1.1 P89.2.2.1.2.1.1
        refine xv (x_ins1 99 (as := [Value.ref x, Value.int (zi 3)]) d_L_goesOn_96 rfl c_9_160 rfl (Nat.le_of_ble_eq_true rfl) (Nat.le_of_ble_eq_true rfl) (Nat.le_of_ble_eq_true rfl) rfl e96) ?_
        show Xv E q_m_L_goesOn 99 [Value.ref x, Value.int (zi (l 3)), Value.ref s, Value.ref (s + 1), Value.ref (s + 2), Value.ref (s + 3), Value.int (zi (l 2)), Value.null, Value.null, Value.null, Value.null] [Value.int (zi (psV 3 l 0))] h96 Q
        refine v_if_lt 115 102 d_L_goesOn_99 rfl rfl (by omega) (by omega) (fun k99 => ?_) (fun k99 => ?_)
        · omega
        · have hg : ∀ g : Int → Int, ∀ v : Int → Int, (∀ i, 0 ≤ i → i < r → g i = v i) → ∀ i, 0 ≤ i → i < psL 3 l 3 → g i = v i := fun g v q i a b => q i a (by rw [J96.2.2.1] at b; omega)
          have e3 := J96.2.2.1
          rw [← e3]
          exact P_go2 (kb := 0) (C := C + kb + 4) (W := W + 6 * kb + 24) (T := T + 99) (m := m1) (l := psL 3 l) (lo := l) (e3.trans hn3) hRo T96 J96.1 e3 J96.2.1 J96.2.2.2.1 J96.2.2.2.2 ⟨U96.1, U96.2.1⟩ zs P96 Q2_27 Q3_27 Q4_27 Q5_27 (hg _ _ g2) (hg _ _ g3) (hg _ _ g4) (hg _ _ g5) B_27 Q (fun h' l2 nx2 ct2 kl2 p1 p2 p3 => hQ _ _ ⟨rfl, l2, nx2, ct2, kl2, p1, p2, bz_mo p3 (by omega) (by omega)⟩)
      · refine xv (x_aload_n 34 d_L_goesOn_33 rfl rfl) ?_
        refine xv (x_iload 36 d_L_goesOn_34 rfl rfl) ?_
        refine xv (x_aload_n 37 d_L_goesOn_36 rfl rfl) ?_
        refine xv (x_iload 39 d_L_goesOn_37 rfl rfl) ?_
        refine xv (x_iconst 40 d_L_goesOn_39 rfl) ?_
        obtain ⟨h40, e40, P40⟩ := A_planned (E := E) (r := r) (t := 3) P_27 ⟨by omega, by omega⟩ (by omega) (by omega)
        refine xv (x_inv1 43 (as := [Value.int (zi r), Value.int (zi 3)]) d_L_goesOn_40 rfl c_9_193 rfl (Nat.le_of_ble_eq_true rfl) (Nat.le_of_ble_eq_true rfl) (px_o P_27) (Nat.le_of_ble_eq_true rfl) (Nat.le_of_ble_eq_true rfl) rfl e40) ?_
        have q40 := rg_pl (r := r) (t := 3) hR ⟨by omega, by omega⟩ (by omega)
        show Xv E q_m_L_goesOn 43 [Value.ref x, Value.int (zi (l 3)), Value.ref s, Value.ref (s + 1), Value.ref (s + 2), Value.ref (s + 3), Value.int (zi r), Value.null, Value.null, Value.null, Value.null] [Value.int (zi (ahd l r 3)), Value.int (zi r), Value.ref s] h40 Q
        obtain ⟨h43, e43, w43, f43⟩ := ai_s (z := r) (v := ahd l r 3) (ai_fy Q2_27 P40.1.2 (by omega)) (by omega) (by omega) (by omega)
        refine xv (x_iastore 44 d_L_goesOn_43 rfl e43) ?_
        have Q3_43 := ai_fr (ai_fy Q3_27 P40.1.2 (by omega)) f43 (by omega)
        have Q4_43 := ai_fr (ai_fy Q4_27 P40.1.2 (by omega)) f43 (by omega)
        have Q5_43 := ai_fr (ai_fy Q5_27 P40.1.2 (by omega)) f43 (by omega)
        have B43 := bz_fr (bz_fy B_27 P40.1.2 (Int.le_refl _) (Int.le_refl _)) f43
        have P43 := px_fr P40 f43 (by omega)
        show Xv E q_m_L_goesOn 44 [Value.ref x, Value.int (zi (l 3)), Value.ref s, Value.ref (s + 1), Value.ref (s + 2), Value.ref (s + 3), Value.int (zi r), Value.null, Value.null, Value.null, Value.null] [] h43 Q
        refine xv (x_aload 46 d_L_goesOn_44 rfl rfl) ?_
        refine xv (x_iload 48 d_L_goesOn_46 rfl rfl) ?_
        refine xv (x_aload_n 49 d_L_goesOn_48 rfl rfl) ?_
        refine xv (x_iload 51 d_L_goesOn_49 rfl rfl) ?_
        refine xv (x_iconst 52 d_L_goesOn_51 rfl) ?_
        obtain ⟨h52, e52, P52⟩ := A_robotOf3 (E := E) (r := r) P43 ⟨by omega, by omega⟩
        refine xv (x_inv1 55 (as := [Value.int (zi r), Value.int (zi 3)]) d_L_goesOn_52 rfl c_9_203 rfl (Nat.le_of_ble_eq_true rfl) (Nat.le_of_ble_eq_true rfl) (px_o P43) (Nat.le_of_ble_eq_true rfl) (Nat.le_of_ble_eq_true rfl) rfl e52) ?_
        have q52 := rg_b3 hR (r := r) ⟨by omega, by omega⟩
        show Xv E q_m_L_goesOn 55 [Value.ref x, Value.int (zi (l 3)), Value.ref s, Value.ref (s + 1), Value.ref (s + 2), Value.ref (s + 3), Value.int (zi r), Value.null, Value.null, Value.null, Value.null] [Value.int (zi (rb l r 3)), Value.int (zi r), Value.ref (s + 3)] h52 Q
        obtain ⟨h55, e55, w55, f55⟩ := ai_s (z := r) (v := rb l r 3) (ai_fy Q5_43 P52.1.2 (by omega)) (by omega) (by omega) (by omega)
        refine xv (x_iastore 56 d_L_goesOn_55 rfl e55) ?_
        have Q2_55 := ai_fr (ai_fy w43 P52.1.2 (by omega)) f55 (by omega)
        have Q3_55 := ai_fr (ai_fy Q3_43 P52.1.2 (by omega)) f55 (by omega)
        have Q4_55 := ai_fr (ai_fy Q4_43 P52.1.2 (by omega)) f55 (by omega)
        have B55 := bz_fr (bz_fy B43 P52.1.2 (Int.le_refl _) (Int.le_refl _)) f55
        have P55 := px_fr P52 f55 (by omega)
        show Xv E q_m_L_goesOn 56 [Value.ref x, Value.int (zi (l 3)), Value.ref s, Value.ref (s + 1), Value.ref (s + 2), Value.ref (s + 3), Value.int (zi r), Value.null, Value.null, Value.null, Value.null] [] h55 Q
        refine xv (x_aload_n 57 d_L_goesOn_56 rfl rfl) ?_
        refine xv (x_iload 59 d_L_goesOn_57 rfl rfl) ?_
        refine xv (x_aload_n 60 d_L_goesOn_59 rfl rfl) ?_
        refine xv (x_iload 62 d_L_goesOn_60 rfl rfl) ?_
        refine xv (x_iconst 63 d_L_goesOn_62 rfl) ?_
        obtain ⟨h63, e63, P63⟩ := A_robotOf1 (E := E) (r := r) P55 ⟨by omega, by omega⟩
        refine xv (x_inv1 66 (as := [Value.int (zi r), Value.int (zi 1)]) d_L_goesOn_63 rfl c_9_203 rfl (Nat.le_of_ble_eq_true rfl) (Nat.le_of_ble_eq_true rfl) (px_o P55) (Nat.le_of_ble_eq_true rfl) (Nat.le_of_ble_eq_true rfl) rfl e63) ?_
        have q63 := rg_b1 hR (r := r) ⟨by omega, by omega⟩
        show Xv E q_m_L_goesOn 66 [Value.ref x, Value.int (zi (l 3)), Value.ref s, Value.ref (s + 1), Value.ref (s + 2), Value.ref (s + 3), Value.int (zi r), Value.null, Value.null, Value.null, Value.null] [Value.int (zi (rb l r 1)), Value.int (zi r), Value.ref (s + 1)] h63 Q
        obtain ⟨h66, e66, w66, f66⟩ := ai_s (z := r) (v := rb l r 1) (ai_fy Q3_55 P63.1.2 (by omega)) (by omega) (by omega) (by omega)
        refine xv (x_iastore 67 d_L_goesOn_66 rfl e66) ?_
        have Q2_66 := ai_fr (ai_fy Q2_55 P63.1.2 (by omega)) f66 (by omega)
        have Q4_66 := ai_fr (ai_fy Q4_55 P63.1.2 (by omega)) f66 (by omega)
        have Q5_66 := ai_fr (ai_fy w55 P63.1.2 (by omega)) f66 (by omega)
        have B66 := bz_fr (bz_fy B55 P63.1.2 (Int.le_refl _) (Int.le_refl _)) f66
        have P66 := px_fr P63 f66 (by omega)
        show Xv E q_m_L_goesOn 67 [Value.ref x, Value.int (zi (l 3)), Value.ref s, Value.ref (s + 1), Value.ref (s + 2), Value.ref (s + 3), Value.int (zi r), Value.null, Value.null, Value.null, Value.null] [] h66 Q
        refine xv (x_aload 69 d_L_goesOn_67 rfl rfl) ?_
        refine xv (x_iload 71 d_L_goesOn_69 rfl rfl) ?_
        refine xv (x_aload_n 72 d_L_goesOn_71 rfl rfl) ?_
        refine xv (x_iload 74 d_L_goesOn_72 rfl rfl) ?_
        refine xv (x_bipush 76 d_L_goesOn_74 rfl rfl) ?_
        obtain ⟨h76, e76, P76⟩ := A_robotOf6 (E := E) (r := r) P66 ⟨by omega, by omega⟩
        refine xv (x_inv1 79 (as := [Value.int (zi r), Value.int (zi 6)]) d_L_goesOn_76 rfl c_9_203 rfl (Nat.le_of_ble_eq_true rfl) (Nat.le_of_ble_eq_true rfl) (px_o P66) (Nat.le_of_ble_eq_true rfl) (Nat.le_of_ble_eq_true rfl) rfl e76) ?_
        have q76 := rg_b6 hR (r := r) ⟨by omega, by omega⟩
        show Xv E q_m_L_goesOn 79 [Value.ref x, Value.int (zi (l 3)), Value.ref s, Value.ref (s + 1), Value.ref (s + 2), Value.ref (s + 3), Value.int (zi r), Value.null, Value.null, Value.null, Value.null] [Value.int (zi (rb l r 5)), Value.int (zi r), Value.ref (s + 2)] h76 Q
        obtain ⟨h79, e79, w79, f79⟩ := ai_s (z := r) (v := rb l r 5) (ai_fy Q4_66 P76.1.2 (by omega)) (by omega) (by omega) (by omega)
        refine xv (x_iastore 80 d_L_goesOn_79 rfl e79) ?_
        have Q2_79 := ai_fr (ai_fy Q2_66 P76.1.2 (by omega)) f79 (by omega)
        have Q3_79 := ai_fr (ai_fy w66 P76.1.2 (by omega)) f79 (by omega)
        have Q5_79 := ai_fr (ai_fy Q5_66 P76.1.2 (by omega)) f79 (by omega)
        have B79 := bz_fr (bz_fy B66 P76.1.2 (Int.le_refl _) (Int.le_refl _)) f79
        have P79 := px_fr P76 f79 (by omega)
        show Xv E q_m_L_goesOn 80 [Value.ref x, Value.int (zi (l 3)), Value.ref s, Value.ref (s + 1), Value.ref (s + 2), Value.ref (s + 3), Value.int (zi r), Value.null, Value.null, Value.null, Value.null] [] h79 Q
        refine xv (x_iinc 83 d_L_goesOn_80 rfl rfl) ?_
        show Xv E q_m_L_goesOn 83 [Value.ref x, Value.int (zi (l 3)), Value.ref s, Value.ref (s + 1), Value.ref (s + 2), Value.ref (s + 3), Value.int (zi (r + 1)), Value.null, Value.null, Value.null, Value.null] [] h79 Q
        refine xv (x_goto 27 d_L_goesOn_83 rfl) ?_
        exact ih27 _ (by omega) (r + 1) _ _ _ _ _ (by omega) (by omega) P79 (bz_mo B79 (by omega) (by omega)) Q2_79 Q3_79 w79 Q5_79 (by intro i a b; show (if i = r then _ else _) = _; by_cases q : i = r; exact (if_pos q).trans (by rw [q]); exact (if_neg q).trans (g2 i a (by omega))) (by intro i a b; show (if i = r then _ else _) = _; by_cases q : i = r; exact (if_pos q).trans (by rw [q]); exact (if_neg q).trans (g3 i a (by omega))) (by intro i a b; show (if i = r then _ else _) = _; by_cases q : i = r; exact (if_pos q).trans (by rw [q]); exact (if_neg q).trans (g4 i a (by omega))) (by intro i a b; show (if i = r then _ else _) = _; by_cases q : i = r; exact (if_pos q).trans (by rw [q]); exact (if_neg q).trans (g5 i a (by omega))) rfl
  exact L27 _ 0 _ _ _ _ _ (by omega) (by omega) P20 ⟨_, _, _, z20, by omega, by omega, by omega⟩ Q7_20 Q11_20 Q15_20 Q20 (fun i a b => by omega) (fun i a b => by omega) (fun i a b => by omega) (fun i a b => by omega) rfl
end E9
