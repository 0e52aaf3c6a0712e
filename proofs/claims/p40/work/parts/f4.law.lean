/-! undoing brings all back (printed by program) -/
section F4
variable {E : q_E} {M : q_M} {h h' h0 hb : q_H} {x N b L sa : Nat} {ys : Nat → Int32} {l ls c m f : Int → Int} {kl : Int → Int → Int} {nx ct n hs fa kr kd_ kb k k' v y z r t i g w p T C W : Int} {F : Int → Int64} {w6 : Value}
theorem P_usw (hE : q_EN E x) (hT : StR T l m) (hT0 : 0 ≤ T) (hT1 : T ≤ 80000) (z0 : 0 ≤ z) (z1 : z < 2147483648) (P : PX x l ls nx ct kl 0 c hs fa kr kd_ hb (k) h) {ta tb : Nat} (et : E.1 (6 + 2 * 7) = some (.ref ta)) (ta0 : ta < x) (tb0 : tb < x) (TT : TXT E hb ta tb 7 f) {Q : q_R → q_H → Prop} (K : ∀ v h', UO x ls hs l nx ct kl T k hb v h' → Xv E q_m_L_undone 334 [.ref b, .ref x, .ref sa, .int (zi p), .int (zi i), .int (zi z), .int (zi v)] [] h' Q) : Xv E q_m_L_undone 37 [.ref b, .ref x, .ref sa, .int (zi p), .int (zi i), .int (zi z), w6] [] h Q := by
  refine xv (x_iload 39 d_L_undone_37 rfl rfl) ?_
  refine xv (x_bipush 41 d_L_undone_39 rfl rfl) ?_
  refine xv (x_irem 42 d_L_undone_41 rfl (by omega) (by omega) (by omega) (by omega)) ?_
  by_cases k42_0 : z % 11 = 0
  · refine xv (x_tsw_in 96 0 d_L_undone_42 k42_0 (by decide) (by decide) (by decide) rfl rfl) ?_
    refine xv (x_aload_n 97 d_L_undone_96 rfl rfl) ?_
    refine xv (x_iload 99 d_L_undone_97 rfl rfl) ?_
    refine xv (x_iconst 100 d_L_undone_99 rfl) ?_
    refine xv (x_iushr 101 d_L_undone_100 rfl) ?_
    obtain ⟨z100, z0100, z1100, ez100⟩ := shr_x (zi z) (q := 4) (by omega) (by omega)
    rw [ez100]
    refine xv (x_bipush 103 d_L_undone_101 rfl rfl) ?_
    refine xv (x_irem 104 d_L_undone_103 rfl (by omega) (by omega) (by omega) (by omega)) ?_
    refine xv (x_iload 106 d_L_undone_104 rfl rfl) ?_
    refine xv (x_bipush 108 d_L_undone_106 rfl rfl) ?_
    refine xv (x_iushr 109 d_L_undone_108 rfl) ?_
    obtain ⟨z108, z0108, z1108, ez108⟩ := shr_x (zi z) (q := 9) (by omega) (by omega)
    rw [ez108]
    refine xv (x_bipush 111 d_L_undone_109 rfl rfl) ?_
    refine xv (x_irem 112 d_L_undone_111 rfl (by omega) (by omega) (by omega) (by omega)) ?_
    obtain ⟨v112, h112, e112, u112⟩ := U_add (E := E) (y := (z100 % 30)) (z := (z108 % 110)) P hT hT0 (by omega) (by omega)
    refine xv (x_ins1 115 (as := [Value.ref x, Value.int (zi (z100 % 30)), Value.int (zi (z108 % 110))]) d_L_undone_112 rfl c_9_148 rfl (Nat.le_of_ble_eq_true rfl) (Nat.le_of_ble_eq_true rfl) (Nat.le_of_ble_eq_true rfl) rfl e112) ?_
    show Xv E q_m_L_undone 115 [Value.ref b, Value.ref x, Value.ref sa, Value.int (zi p), Value.int (zi i), Value.int (zi z), w6] [Value.int (zi v112)] h112 Q
    refine xv (x_istore 117 d_L_undone_115 rfl (Nat.le_of_ble_eq_true rfl)) ?_
    show Xv E q_m_L_undone 117 [Value.ref b, Value.ref x, Value.ref sa, Value.int (zi p), Value.int (zi i), Value.int (zi z), Value.int (zi v112)] [] h112 Q
    refine xv (x_goto 334 d_L_undone_117 rfl) ?_
    exact K _ _ u112
  by_cases k42_1 : z % 11 = 1
  · refine xv (x_tsw_in 120 1 d_L_undone_42 k42_1 (by decide) (by decide) (by decide) rfl rfl) ?_
    refine xv (x_aload_n 121 d_L_undone_120 rfl rfl) ?_
    refine xv (x_iload 123 d_L_undone_121 rfl rfl) ?_
    refine xv (x_iconst 124 d_L_undone_123 rfl) ?_
    refine xv (x_iushr 125 d_L_undone_124 rfl) ?_
    obtain ⟨z124, z0124, z1124, ez124⟩ := shr_x (zi z) (q := 4) (by omega) (by omega)
    rw [ez124]
    refine xv (x_iconst 126 d_L_undone_125 rfl) ?_
    refine xv (x_irem 127 d_L_undone_126 rfl (by omega) (by omega) (by omega) (by omega)) ?_
    obtain ⟨v127, h127, e127, u127⟩ := U_takeOff (E := E) (y := (z124 % 5)) P hT hT0 (by omega)
    refine xv (x_ins1 130 (as := [Value.ref x, Value.int (zi (z124 % 5))]) d_L_undone_127 rfl c_9_267 rfl (Nat.le_of_ble_eq_true rfl) (Nat.le_of_ble_eq_true rfl) (Nat.le_of_ble_eq_true rfl) rfl e127) ?_
    show Xv E q_m_L_undone 130 [Value.ref b, Value.ref x, Value.ref sa, Value.int (zi p), Value.int (zi i), Value.int (zi z), w6] [Value.int (zi v127)] h127 Q
    refine xv (x_istore 132 d_L_undone_130 rfl (Nat.le_of_ble_eq_true rfl)) ?_
    show Xv E q_m_L_undone 132 [Value.ref b, Value.ref x, Value.ref sa, Value.int (zi p), Value.int (zi i), Value.int (zi z), Value.int (zi v127)] [] h127 Q
    refine xv (x_goto 334 d_L_undone_132 rfl) ?_
    exact K _ _ u127
  by_cases k42_2 : z % 11 = 2
  · refine xv (x_tsw_in 135 2 d_L_undone_42 k42_2 (by decide) (by decide) (by decide) rfl rfl) ?_
    refine xv (x_aload_n 136 d_L_undone_135 rfl rfl) ?_
    refine xv (x_iload 138 d_L_undone_136 rfl rfl) ?_
    refine xv (x_iconst 139 d_L_undone_138 rfl) ?_
    refine xv (x_iushr 140 d_L_undone_139 rfl) ?_
    obtain ⟨z139, z0139, z1139, ez139⟩ := shr_x (zi z) (q := 4) (by omega) (by omega)
    rw [ez139]
    refine xv (x_bipush 142 d_L_undone_140 rfl rfl) ?_
    refine xv (x_irem 143 d_L_undone_142 rfl (by omega) (by omega) (by omega) (by omega)) ?_
    refine xv (x_iload 145 d_L_undone_143 rfl rfl) ?_
    refine xv (x_bipush 147 d_L_undone_145 rfl rfl) ?_
    refine xv (x_iushr 148 d_L_undone_147 rfl) ?_
    obtain ⟨z147, z0147, z1147, ez147⟩ := shr_x (zi z) (q := 8) (by omega) (by omega)
    rw [ez147]
    refine xv (x_bipush 150 d_L_undone_148 rfl rfl) ?_
    refine xv (x_irem 151 d_L_undone_150 rfl (by omega) (by omega) (by omega) (by omega)) ?_
    refine xv (x_iload 153 d_L_undone_151 rfl rfl) ?_
    refine xv (x_bipush 155 d_L_undone_153 rfl rfl) ?_
    refine xv (x_iushr 156 d_L_undone_155 rfl) ?_
    obtain ⟨z155, z0155, z1155, ez155⟩ := shr_x (zi z) (q := 13) (by omega) (by omega)
    rw [ez155]
    refine xv (x_bipush 158 d_L_undone_156 rfl rfl) ?_
    refine xv (x_irem 159 d_L_undone_158 rfl (by omega) (by omega) (by omega) (by omega)) ?_
    refine xv (x_iconst 160 d_L_undone_159 rfl) ?_
    refine xv (x_isub 161 d_L_undone_160 rfl) ?_
    refine xv (x_iconst 162 d_L_undone_161 rfl) ?_
    obtain ⟨v162, h162, e162, u162⟩ := U_order (E := E) (d := (z139 % 9)) (a := (z147 % 30)) (w := ((z155 % 30) - 1)) (e := (-1)) P hT hT0 (by omega) (by omega) (by omega) (by omega)
    refine xv (x_ins1 165 (as := [Value.ref x, Value.int (zi (z139 % 9)), Value.int (zi (z147 % 30)), Value.int (zi ((z155 % 30) - 1)), Value.int (zi (-1))]) d_L_undone_162 rfl c_9_153 rfl (Nat.le_of_ble_eq_true rfl) (Nat.le_of_ble_eq_true rfl) (Nat.le_of_ble_eq_true rfl) rfl e162) ?_
    show Xv E q_m_L_undone 165 [Value.ref b, Value.ref x, Value.ref sa, Value.int (zi p), Value.int (zi i), Value.int (zi z), w6] [Value.int (zi v162)] h162 Q
    refine xv (x_istore 167 d_L_undone_165 rfl (Nat.le_of_ble_eq_true rfl)) ?_
    show Xv E q_m_L_undone 167 [Value.ref b, Value.ref x, Value.ref sa, Value.int (zi p), Value.int (zi i), Value.int (zi z), Value.int (zi v162)] [] h162 Q
    refine xv (x_goto 334 d_L_undone_167 rfl) ?_
    exact K _ _ u162
  by_cases k42_3 : z % 11 = 3
  · refine xv (x_tsw_in 170 3 d_L_undone_42 k42_3 (by decide) (by decide) (by decide) rfl rfl) ?_
    refine xv (x_aload_n 171 d_L_undone_170 rfl rfl) ?_
    refine xv (x_iload 173 d_L_undone_171 rfl rfl) ?_
    refine xv (x_iconst 174 d_L_undone_173 rfl) ?_
    refine xv (x_iushr 175 d_L_undone_174 rfl) ?_
    obtain ⟨z174, z0174, z1174, ez174⟩ := shr_x (zi z) (q := 4) (by omega) (by omega)
    rw [ez174]
    refine xv (x_iconst 176 d_L_undone_175 rfl) ?_
    refine xv (x_irem 177 d_L_undone_176 rfl (by omega) (by omega) (by omega) (by omega)) ?_
    refine xv (x_iload 179 d_L_undone_177 rfl rfl) ?_
    refine xv (x_bipush 181 d_L_undone_179 rfl rfl) ?_
    refine xv (x_iushr 182 d_L_undone_181 rfl) ?_
    obtain ⟨z181, z0181, z1181, ez181⟩ := shr_x (zi z) (q := 7) (by omega) (by omega)
    rw [ez181]
    refine xv (x_iconst 183 d_L_undone_182 rfl) ?_
    refine xv (x_irem 184 d_L_undone_183 rfl (by omega) (by omega) (by omega) (by omega)) ?_
    obtain ⟨v184, h184, e184, u184⟩ := U_assign (E := E) (y := (z174 % 5)) (z := (z181 % 5)) P hT hT0 (by omega) (by omega)
    refine xv (x_ins1 187 (as := [Value.ref x, Value.int (zi (z174 % 5)), Value.int (zi (z181 % 5))]) d_L_undone_184 rfl c_9_156 rfl (Nat.le_of_ble_eq_true rfl) (Nat.le_of_ble_eq_true rfl) (Nat.le_of_ble_eq_true rfl) rfl e184) ?_
    show Xv E q_m_L_undone 187 [Value.ref b, Value.ref x, Value.ref sa, Value.int (zi p), Value.int (zi i), Value.int (zi z), w6] [Value.int (zi v184)] h184 Q
    refine xv (x_istore 189 d_L_undone_187 rfl (Nat.le_of_ble_eq_true rfl)) ?_
    show Xv E q_m_L_undone 189 [Value.ref b, Value.ref x, Value.ref sa, Value.int (zi p), Value.int (zi i), Value.int (zi z), Value.int (zi v184)] [] h184 Q
    refine xv (x_goto 334 d_L_undone_189 rfl) ?_
    exact K _ _ u184
  by_cases k42_4 : z % 11 = 4
  · refine xv (x_tsw_in 192 4 d_L_undone_42 k42_4 (by decide) (by decide) (by decide) rfl rfl) ?_
    refine xv (x_aload_n 193 d_L_undone_192 rfl rfl) ?_
    refine xv (x_iload 195 d_L_undone_193 rfl rfl) ?_
    refine xv (x_iconst 196 d_L_undone_195 rfl) ?_
    refine xv (x_iushr 197 d_L_undone_196 rfl) ?_
    obtain ⟨z196, z0196, z1196, ez196⟩ := shr_x (zi z) (q := 4) (by omega) (by omega)
    rw [ez196]
    refine xv (x_iconst 198 d_L_undone_197 rfl) ?_
    refine xv (x_irem 199 d_L_undone_198 rfl (by omega) (by omega) (by omega) (by omega)) ?_
    obtain ⟨v199, h199, e199, u199⟩ := U_release (E := E) (y := (z196 % 5)) P hT hT0 (by omega)
    refine xv (x_ins1 202 (as := [Value.ref x, Value.int (zi (z196 % 5))]) d_L_undone_199 rfl c_9_269 rfl (Nat.le_of_ble_eq_true rfl) (Nat.le_of_ble_eq_true rfl) (Nat.le_of_ble_eq_true rfl) rfl e199) ?_
    show Xv E q_m_L_undone 202 [Value.ref b, Value.ref x, Value.ref sa, Value.int (zi p), Value.int (zi i), Value.int (zi z), w6] [Value.int (zi v199)] h199 Q
    refine xv (x_istore 204 d_L_undone_202 rfl (Nat.le_of_ble_eq_true rfl)) ?_
    show Xv E q_m_L_undone 204 [Value.ref b, Value.ref x, Value.ref sa, Value.int (zi p), Value.int (zi i), Value.int (zi z), Value.int (zi v199)] [] h199 Q
    refine xv (x_goto 334 d_L_undone_204 rfl) ?_
    exact K _ _ u199
  by_cases k42_5 : z % 11 = 5
  · refine xv (x_tsw_in 207 5 d_L_undone_42 k42_5 (by decide) (by decide) (by decide) rfl rfl) ?_
    refine xv (x_aload_n 208 d_L_undone_207 rfl rfl) ?_
    refine xv (x_iload 210 d_L_undone_208 rfl rfl) ?_
    refine xv (x_iconst 211 d_L_undone_210 rfl) ?_
    refine xv (x_iushr 212 d_L_undone_211 rfl) ?_
    obtain ⟨z211, z0211, z1211, ez211⟩ := shr_x (zi z) (q := 4) (by omega) (by omega)
    rw [ez211]
    refine xv (x_bipush 214 d_L_undone_212 rfl rfl) ?_
    refine xv (x_irem 215 d_L_undone_214 rfl (by omega) (by omega) (by omega) (by omega)) ?_
    obtain ⟨v215, h215, e215, u215⟩ := U_close (E := E) (y := (z211 % 30)) P hT hT0 (by omega)
    refine xv (x_ins1 218 (as := [Value.ref x, Value.int (zi (z211 % 30))]) d_L_undone_215 rfl c_9_271 rfl (Nat.le_of_ble_eq_true rfl) (Nat.le_of_ble_eq_true rfl) (Nat.le_of_ble_eq_true rfl) rfl e215) ?_
    show Xv E q_m_L_undone 218 [Value.ref b, Value.ref x, Value.ref sa, Value.int (zi p), Value.int (zi i), Value.int (zi z), w6] [Value.int (zi v215)] h215 Q
    refine xv (x_istore 220 d_L_undone_218 rfl (Nat.le_of_ble_eq_true rfl)) ?_
    show Xv E q_m_L_undone 220 [Value.ref b, Value.ref x, Value.ref sa, Value.int (zi p), Value.int (zi i), Value.int (zi z), Value.int (zi v215)] [] h215 Q
    refine xv (x_goto 334 d_L_undone_220 rfl) ?_
    exact K _ _ u215
  by_cases k42_6 : z % 11 = 6
  · refine xv (x_tsw_in 223 6 d_L_undone_42 k42_6 (by decide) (by decide) (by decide) rfl rfl) ?_
    refine xv (x_aload_n 224 d_L_undone_223 rfl rfl) ?_
    refine xv (x_iload 226 d_L_undone_224 rfl rfl) ?_
    refine xv (x_iconst 227 d_L_undone_226 rfl) ?_
    refine xv (x_iushr 228 d_L_undone_227 rfl) ?_
    obtain ⟨z227, z0227, z1227, ez227⟩ := shr_x (zi z) (q := 4) (by omega) (by omega)
    rw [ez227]
    refine xv (x_bipush 230 d_L_undone_228 rfl rfl) ?_
    refine xv (x_irem 231 d_L_undone_230 rfl (by omega) (by omega) (by omega) (by omega)) ?_
    obtain ⟨v231, h231, e231, u231⟩ := U_open (E := E) (y := (z227 % 30)) P hT hT0 (by omega)
    refine xv (x_ins1 234 (as := [Value.ref x, Value.int (zi (z227 % 30))]) d_L_undone_231 rfl c_9_273 rfl (Nat.le_of_ble_eq_true rfl) (Nat.le_of_ble_eq_true rfl) (Nat.le_of_ble_eq_true rfl) rfl e231) ?_
    show Xv E q_m_L_undone 234 [Value.ref b, Value.ref x, Value.ref sa, Value.int (zi p), Value.int (zi i), Value.int (zi z), w6] [Value.int (zi v231)] h231 Q
    refine xv (x_istore 236 d_L_undone_234 rfl (Nat.le_of_ble_eq_true rfl)) ?_
    show Xv E q_m_L_undone 236 [Value.ref b, Value.ref x, Value.ref sa, Value.int (zi p), Value.int (zi i), Value.int (zi z), Value.int (zi v231)] [] h231 Q
    refine xv (x_goto 334 d_L_undone_236 rfl) ?_
    exact K _ _ u231
  by_cases k42_7 : z % 11 = 7
  · refine xv (x_tsw_in 239 7 d_L_undone_42 k42_7 (by decide) (by decide) (by decide) rfl rfl) ?_
    refine xv (x_aload_n 240 d_L_undone_239 rfl rfl) ?_
    refine xv (x_iload 242 d_L_undone_240 rfl rfl) ?_
    refine xv (x_iconst 243 d_L_undone_242 rfl) ?_
    refine xv (x_iushr 244 d_L_undone_243 rfl) ?_
    obtain ⟨z243, z0243, z1243, ez243⟩ := shr_x (zi z) (q := 4) (by omega) (by omega)
    rw [ez243]
    refine xv (x_iconst 245 d_L_undone_244 rfl) ?_
    refine xv (x_irem 246 d_L_undone_245 rfl (by omega) (by omega) (by omega) (by omega)) ?_
    refine xv (x_iload 248 d_L_undone_246 rfl rfl) ?_
    refine xv (x_bipush 250 d_L_undone_248 rfl rfl) ?_
    refine xv (x_iushr 251 d_L_undone_250 rfl) ?_
    obtain ⟨z250, z0250, z1250, ez250⟩ := shr_x (zi z) (q := 6) (by omega) (by omega)
    rw [ez250]
    refine xv (x_bipush 253 d_L_undone_251 rfl rfl) ?_
    refine xv (x_irem 254 d_L_undone_253 rfl (by omega) (by omega) (by omega) (by omega)) ?_
    obtain ⟨v254, h254, e254, u254⟩ := U_set (E := E) (y := (z243 % 3)) (z := (z250 % 25)) hE P hT hT0 (by omega) (by omega)
    refine xv (x_ins1 257 (as := [Value.ref x, Value.int (zi (z243 % 3)), Value.int (zi (z250 % 25))]) d_L_undone_254 rfl c_9_142 rfl (Nat.le_of_ble_eq_true rfl) (Nat.le_of_ble_eq_true rfl) (Nat.le_of_ble_eq_true rfl) rfl e254) ?_
    show Xv E q_m_L_undone 257 [Value.ref b, Value.ref x, Value.ref sa, Value.int (zi p), Value.int (zi i), Value.int (zi z), w6] [Value.int (zi v254)] h254 Q
    refine xv (x_istore 259 d_L_undone_257 rfl (Nat.le_of_ble_eq_true rfl)) ?_
    show Xv E q_m_L_undone 259 [Value.ref b, Value.ref x, Value.ref sa, Value.int (zi p), Value.int (zi i), Value.int (zi z), Value.int (zi v254)] [] h254 Q
    refine xv (x_goto 334 d_L_undone_259 rfl) ?_
    exact K _ _ u254
  by_cases k42_8 : z % 11 = 8
  · refine xv (x_tsw_in 262 8 d_L_undone_42 k42_8 (by decide) (by decide) (by decide) rfl rfl) ?_
    refine xv (x_aload_n 263 d_L_undone_262 rfl rfl) ?_
    refine xv (x_iload 265 d_L_undone_263 rfl rfl) ?_
    refine xv (x_iconst 266 d_L_undone_265 rfl) ?_
    refine xv (x_iushr 267 d_L_undone_266 rfl) ?_
    obtain ⟨z266, z0266, z1266, ez266⟩ := shr_x (zi z) (q := 4) (by omega) (by omega)
    rw [ez266]
    refine xv (x_iconst 268 d_L_undone_267 rfl) ?_
    refine xv (x_irem 269 d_L_undone_268 rfl (by omega) (by omega) (by omega) (by omega)) ?_
    refine xv (x_iload 271 d_L_undone_269 rfl rfl) ?_
    refine xv (x_bipush 273 d_L_undone_271 rfl rfl) ?_
    refine xv (x_iushr 274 d_L_undone_273 rfl) ?_
    obtain ⟨z273, z0273, z1273, ez273⟩ := shr_x (zi z) (q := 7) (by omega) (by omega)
    rw [ez273]
    refine xv (x_bipush 276 d_L_undone_274 rfl rfl) ?_
    refine xv (x_irem 277 d_L_undone_276 rfl (by omega) (by omega) (by omega) (by omega)) ?_
    obtain ⟨v277, h277, e277, u277⟩ := U_plan (E := E) (y := (z266 % 5)) (z := (z273 % 30)) P hT hT0 (by omega) (by omega)
    refine xv (x_ins1 280 (as := [Value.ref x, Value.int (zi (z266 % 5)), Value.int (zi (z273 % 30))]) d_L_undone_277 rfl c_9_158 rfl (Nat.le_of_ble_eq_true rfl) (Nat.le_of_ble_eq_true rfl) (Nat.le_of_ble_eq_true rfl) rfl e277) ?_
    show Xv E q_m_L_undone 280 [Value.ref b, Value.ref x, Value.ref sa, Value.int (zi p), Value.int (zi i), Value.int (zi z), w6] [Value.int (zi v277)] h277 Q
    refine xv (x_istore 282 d_L_undone_280 rfl (Nat.le_of_ble_eq_true rfl)) ?_
    show Xv E q_m_L_undone 282 [Value.ref b, Value.ref x, Value.ref sa, Value.int (zi p), Value.int (zi i), Value.int (zi z), Value.int (zi v277)] [] h277 Q
    refine xv (x_goto 334 d_L_undone_282 rfl) ?_
    exact K _ _ u277
  by_cases k42_9 : z % 11 = 9
  · refine xv (x_tsw_in 285 9 d_L_undone_42 k42_9 (by decide) (by decide) (by decide) rfl rfl) ?_
    refine xv (x_aload_n 286 d_L_undone_285 rfl rfl) ?_
    refine xv (x_iload 288 d_L_undone_286 rfl rfl) ?_
    refine xv (x_iconst 289 d_L_undone_288 rfl) ?_
    refine xv (x_iushr 290 d_L_undone_289 rfl) ?_
    obtain ⟨z289, z0289, z1289, ez289⟩ := shr_x (zi z) (q := 4) (by omega) (by omega)
    rw [ez289]
    refine xv (x_iconst 291 d_L_undone_290 rfl) ?_
    refine xv (x_irem 292 d_L_undone_291 rfl (by omega) (by omega) (by omega) (by omega)) ?_
    obtain ⟨v292, h292, e292, u292⟩ := U_cancel (E := E) (y := (z289 % 5)) P hT hT0 (by omega)
    refine xv (x_ins1 295 (as := [Value.ref x, Value.int (zi (z289 % 5))]) d_L_undone_292 rfl c_9_275 rfl (Nat.le_of_ble_eq_true rfl) (Nat.le_of_ble_eq_true rfl) (Nat.le_of_ble_eq_true rfl) rfl e292) ?_
    show Xv E q_m_L_undone 295 [Value.ref b, Value.ref x, Value.ref sa, Value.int (zi p), Value.int (zi i), Value.int (zi z), w6] [Value.int (zi v292)] h292 Q
    refine xv (x_istore 297 d_L_undone_295 rfl (Nat.le_of_ble_eq_true rfl)) ?_
    show Xv E q_m_L_undone 297 [Value.ref b, Value.ref x, Value.ref sa, Value.int (zi p), Value.int (zi i), Value.int (zi z), Value.int (zi v292)] [] h292 Q
    refine xv (x_goto 334 d_L_undone_297 rfl) ?_
    exact K _ _ u292
  refine xv (x_tsw_out 300 d_L_undone_42 (by omega) (by omega) (by omega) rfl) ?_
  refine xv (x_iload 302 d_L_undone_300 rfl rfl) ?_
  refine xv (x_iconst 303 d_L_undone_302 rfl) ?_
  refine xv (x_iushr 304 d_L_undone_303 rfl) ?_
  obtain ⟨z303, z0303, z1303, ez303⟩ := shr_x (zi z) (q := 4) (by omega) (by omega)
  rw [ez303]
  refine xv (x_iconst 305 d_L_undone_304 rfl) ?_
  refine xv (x_irem 306 d_L_undone_305 rfl (by omega) (by omega) (by omega) (by omega)) ?_
  refine v_if_ne 319 309 d_L_undone_306 rfl rfl (by omega) (by omega) (fun k306 => ?_) (fun k306 => ?_)
  · refine xv (x_aload_n 320 d_L_undone_319 rfl rfl) ?_
    refine xv (x_iconst 321 d_L_undone_320 rfl) ?_
    refine xv (x_iload 323 d_L_undone_321 rfl rfl) ?_
    refine xv (x_bipush 325 d_L_undone_323 rfl rfl) ?_
    refine xv (x_iushr 326 d_L_undone_325 rfl) ?_
    obtain ⟨z325, z0325, z1325, ez325⟩ := shr_x (zi z) (q := 6) (by omega) (by omega)
    rw [ez325]
    refine xv (x_iconst 327 d_L_undone_326 rfl) ?_
    refine xv (x_irem 328 d_L_undone_327 rfl (by omega) (by omega) (by omega) (by omega)) ?_
    refine xv (x_iadd 329 d_L_undone_328 rfl) ?_
    obtain ⟨v329, h329, e329, u329⟩ := U_pass (E := E) (y := (1 + (z325 % 5))) P hT hT0 hT1 (by omega)
    refine xv (x_ins1 332 (as := [Value.ref x, Value.int (zi (1 + (z325 % 5)))]) d_L_undone_329 rfl c_9_160 rfl (Nat.le_of_ble_eq_true rfl) (Nat.le_of_ble_eq_true rfl) (Nat.le_of_ble_eq_true rfl) rfl e329) ?_
    show Xv E q_m_L_undone 332 [Value.ref b, Value.ref x, Value.ref sa, Value.int (zi p), Value.int (zi i), Value.int (zi z), w6] [Value.int (zi v329)] h329 Q
    refine xv (x_istore 334 d_L_undone_332 rfl (Nat.le_of_ble_eq_true rfl)) ?_
    show Xv E q_m_L_undone 334 [Value.ref b, Value.ref x, Value.ref sa, Value.int (zi p), Value.int (zi i), Value.int (zi z), Value.int (zi v329)] [] h329 Q
    exact K _ _ u329
  · refine xv (x_aload_n 310 d_L_undone_309 rfl rfl) ?_
    refine xv (x_ldcw 313 d_L_undone_310 rfl rfl (Nat.le_of_ble_eq_true rfl) (show E.1 (6 + 2 * 7) = some (.ref ta) from et)) ?_
    show Xv E q_m_L_undone 313 [Value.ref b, Value.ref x, Value.ref sa, Value.int (zi p), Value.int (zi i), Value.int (zi z), w6] [Value.ref ta, Value.ref x] h Q
    obtain ⟨r313, g313, e313, c313, _, D313⟩ := P_layout_ (E := E) hE TT (Or.inl ta0) (Or.inl tb0) P
    obtain ⟨v313, h313, q313, u313⟩ := uo_la D313 TT.1.1 hT hT0
    rw [q313] at e313
    refine xv (x_ins1 316 (as := [Value.ref x, Value.ref ta]) d_L_undone_313 rfl c_9_139 rfl (Nat.le_of_ble_eq_true rfl) (Nat.le_of_ble_eq_true rfl) (Nat.le_of_ble_eq_true rfl) rfl e313) ?_
    show Xv E q_m_L_undone 316 [Value.ref b, Value.ref x, Value.ref sa, Value.int (zi p), Value.int (zi i), Value.int (zi z), w6] [Value.int (zi v313)] h313 Q
    refine xv (x_goto 332 d_L_undone_316 rfl) ?_
    refine xv (x_istore 334 d_L_undone_332 rfl (Nat.le_of_ble_eq_true rfl)) ?_
    show Xv E q_m_L_undone 334 [Value.ref b, Value.ref x, Value.ref sa, Value.int (zi p), Value.int (zi i), Value.int (zi z), Value.int (zi v313)] [] h313 Q
    exact K _ _ u313
theorem P_undone (hE : q_EN E x) (hb_ : b < x) (hS : E.2 b = some (.int, L, fun j => .int (ys j))) (hL : L ≤ 260) (hT : StR T l m) (hT0 : 0 ≤ T) (hT1 : T ≤ 70000) (B : BZ x hb C W) (hk0 : 0 ≤ k) (P : PX x l ls nx ct kl 0 c hs fa kr kd_ hb (k) h) : ∃ r_ h', q_cl E q_m_L_undone [Value.ref b, Value.ref x] h = some (r_, h') ∧ (r_ = .inl (some (.int (zi 1))) ∧ BZ x h' (C + k + 100) (W + 6 * k + 1000)) := by
  suffices K : ∀ Q : q_R → q_H → Prop, (∀ r_ h', (r_ = .inl (some (.int (zi 1))) ∧ BZ x h' (C + k + 100) (W + 6 * k + 1000)) → Q r_ h') → Xv E q_m_L_undone 0 [Value.ref b, Value.ref x, Value.null, Value.null, Value.null, Value.null, Value.null] [] h Q from K _ fun _ _ p => p
  intro Q hQ
  obtain ⟨s, c_, w_, Z0, zs, zc, zw⟩ := bz_fy B P.1.2 (Int.le_refl _) (Int.le_refl _)
  obtain ⟨ta, tb, et, ⟨ta0, tb0⟩, TT0⟩ := txt_cst (E := E) (h := h) (i := 7) hE (px_lo P) (by decide)
  have hct := P.2.2.1.2.1
  refine xv (x_bipush 2 d_L_undone_0 rfl rfl) ?_
  obtain ⟨h2, e2, a2, f2, z2⟩ := al_x (h := h) (e := .inl (1, 9, q_z 1)) (n := 9) Z0
  refine xv (xA_newarray (n := 9) 4 d_L_undone_2 rfl rfl (by omega) (sz_1 Z0) e2) ?_
  have P2 : PX x l ls nx ct kl 0 c hs fa kr kd_ h2 (0) h2 := px_at P f2 (by omega)
  have A2 : AL h2 s 9 (fun _ => 0) := al_new a2
  show Xv E q_m_L_undone 4 [Value.ref b, Value.ref x, Value.null, Value.null, Value.null, Value.null, Value.null] [Value.ref s] h2 Q
  refine xv (x_astore_n 5 d_L_undone_4 rfl (Nat.le_of_ble_eq_true rfl)) ?_
  show Xv E q_m_L_undone 5 [Value.ref b, Value.ref x, Value.ref s, Value.null, Value.null, Value.null, Value.null] [] h2 Q
  refine xv (x_iconst 6 d_L_undone_5 rfl) ?_
  refine xv (x_istore_n 7 d_L_undone_6 rfl (Nat.le_of_ble_eq_true rfl)) ?_
  show Xv E q_m_L_undone 7 [Value.ref b, Value.ref x, Value.ref s, Value.int (zi 0), Value.null, Value.null, Value.null] [] h2 Q
  refine xv (x_iconst 8 d_L_undone_7 rfl) ?_
  refine xv (x_istore 10 d_L_undone_8 rfl (Nat.le_of_ble_eq_true rfl)) ?_
  show Xv E q_m_L_undone 10 [Value.ref b, Value.ref x, Value.ref s, Value.int (zi 0), Value.int (zi 0), Value.null, Value.null] [] h2 Q
  have L10 : ∀ (n_ : Nat) (p : Int) (i : Int) (b5 : Value) (b6 : Value) (h_10 : q_H) (F : Int → Int64) (l2 : Int → Int) (nx2 : Int) (ct2 : Int) (kl2 : Int → Int → Int) (c2 : Int → Int) (fa2 : Int) (kr2 : Int) (kd2 : Int) (m2 : Int → Int), (0 ≤ p ∧ p ≤ i) → (0 ≤ i ∧ i ≤ 7) → (PX x l2 ls nx2 ct2 kl2 0 c2 hs fa2 kr2 kd2 h_10 (0) h_10) → (AL h_10 s 9 F) → (BZ x h_10 (C + k + 1 + 2 * i) (W + 6 * k + 9 + 12 * i)) → (StR (T + 99 * i) l2 m2) → (HU (T + 99 * i) p nx2 ct2 kl2 F) → (7 - i).toNat = n_ → Xv E q_m_L_undone 10 [Value.ref b, Value.ref x, Value.ref s, Value.int (zi p), Value.int (zi i), b5, b6] [] h_10 Q := by
    intro n_
    induction n_ using Nat.strongRecOn with
    | _ n_ ih10 =>
      intro p i b5 b6 h_10 F l2 nx2 ct2 kl2 c2 fa2 kr2 kd2 m2 y0 y1 P_10 A_10 B_10 T_10 U_10 em
      have hct2 := P_10.2.2.1.2.1
      have hnx2 := P_10.2.2.1.1
      refine xv (x_iload 12 d_L_undone_10 rfl rfl) ?_
      refine xv (x_bipush 14 d_L_undone_12 rfl rfl) ?_
      refine v_icmp_ge 371 17 d_L_undone_14 rfl rfl (by omega) (by omega) (by omega) (by omega) (fun k14 => ?_) (fun k14 => ?_)
      · refine xv (x_iload_n 372 d_L_undone_371 rfl rfl) ?_
        refine xv (x_iconst 373 d_L_undone_372 rfl) ?_
        refine xv (x_isub 374 d_L_undone_373 rfl) ?_
        refine xv (x_istore 376 d_L_undone_374 rfl (Nat.le_of_ble_eq_true rfl)) ?_
        show Xv E q_m_L_undone 376 [Value.ref b, Value.ref x, Value.ref s, Value.int (zi p), Value.int (zi (p - 1)), b5, b6] [] h_10 Q
        have L376 : ∀ (n_ : Nat) (q : Int) (h_376 : q_H) (l3 : Int → Int) (nx3 : Int) (ct3 : Int) (kl3 : Int → Int → Int) (c3 : Int → Int) (fa3 : Int) (kr3 : Int) (kd3 : Int), (-1 ≤ q ∧ q < 7) → (PX x l3 ls nx3 ct3 kl3 0 c3 hs fa3 kr3 kd3 h_376 (0) h_376) → (AL h_376 s 9 F) → (BZ x h_376 (C + k + 20) (W + 6 * k + 200)) → (HU (T + 99 * i) (q + 1) nx3 ct3 kl3 F) → (q + 1).toNat = n_ → Xv E q_m_L_undone 376 [Value.ref b, Value.ref x, Value.ref s, Value.int (zi p), Value.int (zi q), b5, b6] [] h_376 Q := by
          intro n_
          induction n_ using Nat.strongRecOn with
          | _ n_ ih376 =>
            intro q h_376 l3 nx3 ct3 kl3 c3 fa3 kr3 kd3 y2 P_376 A_376 B_376 U3 em
            have hct3 := P_376.2.2.1.2.1
            refine xv (x_iload 378 d_L_undone_376 rfl rfl) ?_
            refine v_if_lt 408 381 d_L_undone_378 rfl rfl (by omega) (by omega) (fun k378 => ?_) (fun k378 => ?_)
            · refine xv (x_iconst 409 d_L_undone_408 rfl) ?_
              refine xv_r (x_ireturn d_L_undone_409 rfl rfl) ?_
              exact hQ _ _ ⟨rfl, bz_fy B_376 P_376.1.2 (by omega) (by omega)⟩
            · refine xv (x_aload_n 382 d_L_undone_381 rfl rfl) ?_
              have hc3 := U3.1
              have rp := rix_0 P_376.2.2.1.1
              obtain ⟨⟨m3, s3⟩, f3⟩ := U3.2 0 (Int.le_refl 0) (by omega)
              rw [rp] at s3 f3
              obtain ⟨h382, l4, e382, c4, P382⟩ := B_undo (E := E) P_376 (fun _ => st_rg s3) (by omega)
              have es4 : sumV l4 = sumV (kl3 (pvx nx3)) := sum_lc (st_rg s3) c4
              refine xv (x_ins1 385 (as := [Value.ref x]) d_L_undone_382 rfl c_9_249 rfl (Nat.le_of_ble_eq_true rfl) (Nat.le_of_ble_eq_true rfl) (Nat.le_of_ble_eq_true rfl) rfl e382) ?_
              show Xv E q_m_L_undone 385 [Value.ref b, Value.ref x, Value.ref s, Value.int (zi p), Value.int (zi q), b5, b6] [Value.int (zi (ct3 - 1))] h382 Q
              refine v_if_lt 400 388 d_L_undone_385 rfl rfl (by omega) (by omega) (fun k385 => ?_) (fun k385 => ?_)
              · omega
              · refine xv (x_aload_n 389 d_L_undone_388 rfl rfl) ?_
                obtain ⟨r389, h389, e389, x389, P389⟩ := P_sum (E := E) hE P382
                subst x389
                refine xv (x_ins1 392 (as := [Value.ref x]) d_L_undone_389 rfl c_9_263 rfl (Nat.le_of_ble_eq_true rfl) (Nat.le_of_ble_eq_true rfl) (Nat.le_of_ble_eq_true rfl) rfl e389) ?_
                show Xv E q_m_L_undone 392 [Value.ref b, Value.ref x, Value.ref s, Value.int (zi p), Value.int (zi q), b5, b6] [Value.long (sumV l4)] h389 Q
                refine xv (x_aload_n 393 d_L_undone_392 rfl rfl) ?_
                refine xv (x_iload 395 d_L_undone_393 rfl rfl) ?_
                refine xv (x_laload 396 d_L_undone_395 rfl (al_g (al_fy A_376 P389.1.2 (by omega)) (by omega) (by omega) (by omega))) ?_
                refine xv (x_lcmp 397 d_L_undone_396 rfl) ?_
                refine v_leq 402 400 d_L_undone_397 rfl rfl (fun k397 => ?_) (fun k397 => ?_)
                · refine xv (x_iinc 405 d_L_undone_402 rfl rfl) ?_
                  show Xv E q_m_L_undone 405 [Value.ref b, Value.ref x, Value.ref s, Value.int (zi p), Value.int (zi (q + (-1))), b5, b6] [] h389 Q
                  refine xv (x_goto 376 d_L_undone_405 rfl) ?_
                  have U4 := hu_u U3 (by omega) P_376.2.2.1.1
                  rw [show q + 1 - 1 = q by omega] at U4
                  exact ih376 _ (by omega) (q + -1) _ _ _ _ _ _ _ _ _ (by omega) (px_here P389) (al_fy A_376 P389.1.2 (by omega)) (bz_fy B_376 P389.1.2 (by omega) (by omega)) (by rw [show q + -1 + 1 = q by omega]; exact U4) rfl
                · exact absurd (show sumV l4 = F q by rw [es4, ← f3]; congr 1; omega) k397
        exact L376 _ (p - 1) _ _ _ _ _ _ _ _ _ (by omega) P_10 A_10 (bz_mo B_10 (by omega) (by omega)) (by rw [show p - 1 + 1 = p by omega]; exact U_10) rfl
      · refine xv (x_aload_n 18 d_L_undone_17 rfl rfl) ?_
        refine xv (x_bipush 20 d_L_undone_18 rfl rfl) ?_
        refine xv (x_iload 22 d_L_undone_20 rfl rfl) ?_
        refine xv (x_iadd 23 d_L_undone_22 rfl) ?_
        obtain ⟨v23, e23⟩ := A_cell (E := E) (k := (36 + i)) (px_lo P_10 _ hb_) hS hL (by omega) (by omega)
        refine xv (x_ins1 26 (as := [Value.ref b, Value.int (zi (36 + i))]) d_L_undone_23 rfl c_9_113 rfl (Nat.le_of_ble_eq_true rfl) (Nat.le_of_ble_eq_true rfl) (Nat.le_of_ble_eq_true rfl) rfl e23) ?_
        show Xv E q_m_L_undone 26 [Value.ref b, Value.ref x, Value.ref s, Value.int (zi p), Value.int (zi i), b5, b6] [Value.int v23] h_10 Q
        refine xv (x_iconst 27 d_L_undone_26 rfl) ?_
        refine xv (x_iushr 28 d_L_undone_27 rfl) ?_
        obtain ⟨z27, z027, z127, ez27⟩ := shr_x v23 (q := 1) (by omega) (by omega)
        rw [ez27]
        refine xv (x_istore 30 d_L_undone_28 rfl (Nat.le_of_ble_eq_true rfl)) ?_
        show Xv E q_m_L_undone 30 [Value.ref b, Value.ref x, Value.ref s, Value.int (zi p), Value.int (zi i), Value.int (zi z27), b6] [] h_10 Q
        refine xv (x_aload_n 31 d_L_undone_30 rfl rfl) ?_
        refine xv (x_iload_n 32 d_L_undone_31 rfl rfl) ?_
        refine xv (x_aload_n 33 d_L_undone_32 rfl rfl) ?_
        obtain ⟨r33, h33, e33, x33, P33⟩ := P_sum (E := E) hE P_10
        subst x33
        refine xv (x_ins1 36 (as := [Value.ref x]) d_L_undone_33 rfl c_9_263 rfl (Nat.le_of_ble_eq_true rfl) (Nat.le_of_ble_eq_true rfl) (Nat.le_of_ble_eq_true rfl) rfl e33) ?_
        show Xv E q_m_L_undone 36 [Value.ref b, Value.ref x, Value.ref s, Value.int (zi p), Value.int (zi i), Value.int (zi z27), b6] [Value.long (sumV l2), Value.int (zi p), Value.ref s] h33 Q
        obtain ⟨h36, e36, w36, f36⟩ := al_s (z := p) (v := (sumV l2)) (al_fy A_10 P33.1.2 (by omega)) (by omega) (by omega) (by omega)
        refine xv (x_lastore 37 d_L_undone_36 rfl e36) ?_
        have B36 := bz_fr (bz_fy B_10 P33.1.2 (Int.le_refl _) (Int.le_refl _)) f36
        have P36 := px_fr P33 f36 (by omega)
        show Xv E q_m_L_undone 37 [Value.ref b, Value.ref x, Value.ref s, Value.int (zi p), Value.int (zi i), Value.int (zi z27), b6] [] h36 Q
        refine P_usw hE T_10 (by omega) (by omega) z027 z127 P36 et ta0 tb0 (txt_lo TT0 ta0 tb0 (px_lo P) (px_lo P36)) (fun v h9 u9 => ?_)
        show Xv E q_m_L_undone 334 [Value.ref b, Value.ref x, Value.ref s, Value.int (zi p), Value.int (zi i), Value.int (zi z27), Value.int (zi v)] [] h9 Q
        rcases u9 with ⟨v0, v1, l9, nx9, ct9, kl9, c9, fa9, kr9, kd9, d9, P9, m9, s9⟩ | ⟨v0, v1, c9, fa9, kr9, kd9, P9⟩
        · refine xv (x_iload 336 d_L_undone_334 rfl rfl) ?_
          refine v_if_ge 352 339 d_L_undone_336 rfl rfl (by omega) (by omega) (fun k336 => ?_) (fun k336 => ?_)
          · refine xv (x_iload_n 353 d_L_undone_352 rfl rfl) ?_
            refine xv (x_iload 355 d_L_undone_353 rfl rfl) ?_
            refine v_if_ge 362 358 d_L_undone_355 rfl rfl (by omega) (by omega) (fun k355 => ?_) (fun k355 => ?_)
            · refine xv (x_iconst 363 d_L_undone_362 rfl) ?_
              refine xv (x_iadd 364 d_L_undone_363 rfl) ?_
              refine xv (x_istore_n 365 d_L_undone_364 rfl (Nat.le_of_ble_eq_true rfl)) ?_
              show Xv E q_m_L_undone 365 [Value.ref b, Value.ref x, Value.ref s, Value.int (zi (p + 1)), Value.int (zi i), Value.int (zi z27), Value.int (zi v)] [] h9 Q
              refine xv (x_iinc 368 d_L_undone_365 rfl rfl) ?_
              show Xv E q_m_L_undone 368 [Value.ref b, Value.ref x, Value.ref s, Value.int (zi (p + 1)), Value.int (zi (i + 1)), Value.int (zi z27), Value.int (zi v)] [] h9 Q
              refine xv (x_goto 10 d_L_undone_368 rfl) ?_
              have T9 := st_mono s9 (show T + 99 * i + 99 ≤ T + 99 * (i + 1) by omega) (by omega)
              have U9 := hu_mo (hu_s U_10 (by omega) hnx2 hct2.2 T_10 d9) (show 0 ≤ T + 99 * i by omega) (show T + 99 * i ≤ T + 99 * (i + 1) by omega)
              exact ih10 _ (by omega) (p + 1) (i + 1) _ _ _ _ _ _ _ _ _ _ _ _ m9 (by omega) (by omega) (px_here P9) (al_fy w36 P9.1.2 (by omega)) (bz_fy B36 P9.1.2 (by omega) (by omega)) T9 U9 rfl
            · omega
          · omega
        · refine xv (x_iload 336 d_L_undone_334 rfl rfl) ?_
          refine v_if_ge 352 339 d_L_undone_336 rfl rfl (by omega) (by omega) (fun k336 => ?_) (fun k336 => ?_)
          · omega
          · refine xv (x_aload_n 340 d_L_undone_339 rfl rfl) ?_
            obtain ⟨r340, h340, e340, x340, P340⟩ := P_sum (E := E) hE P9
            subst x340
            refine xv (x_ins1 343 (as := [Value.ref x]) d_L_undone_340 rfl c_9_263 rfl (Nat.le_of_ble_eq_true rfl) (Nat.le_of_ble_eq_true rfl) (Nat.le_of_ble_eq_true rfl) rfl e340) ?_
            show Xv E q_m_L_undone 343 [Value.ref b, Value.ref x, Value.ref s, Value.int (zi p), Value.int (zi i), Value.int (zi z27), Value.int (zi v)] [Value.long (sumV l2)] h340 Q
            refine xv (x_aload_n 344 d_L_undone_343 rfl rfl) ?_
            refine xv (x_iload_n 345 d_L_undone_344 rfl rfl) ?_
            refine xv (x_laload 346 d_L_undone_345 rfl (al_g (al_fy w36 P340.1.2 (by omega)) (by omega) (by omega) (by omega))) ?_
            refine xv (x_lcmp 347 d_L_undone_346 rfl) ?_
            refine v_leq 352 350 d_L_undone_347 rfl rfl (fun k347 => ?_) (fun k347 => ?_)
            · refine xv (x_iload_n 353 d_L_undone_352 rfl rfl) ?_
              refine xv (x_iload 355 d_L_undone_353 rfl rfl) ?_
              refine v_if_ge 362 358 d_L_undone_355 rfl rfl (by omega) (by omega) (fun k355 => ?_) (fun k355 => ?_)
              · omega
              · refine xv (x_iconst 359 d_L_undone_358 rfl) ?_
                refine xv (x_goto 363 d_L_undone_359 rfl) ?_
                refine xv (x_iadd 364 d_L_undone_363 rfl) ?_
                refine xv (x_istore_n 365 d_L_undone_364 rfl (Nat.le_of_ble_eq_true rfl)) ?_
                show Xv E q_m_L_undone 365 [Value.ref b, Value.ref x, Value.ref s, Value.int (zi (p + 0)), Value.int (zi i), Value.int (zi z27), Value.int (zi v)] [] h340 Q
                refine xv (x_iinc 368 d_L_undone_365 rfl rfl) ?_
                show Xv E q_m_L_undone 368 [Value.ref b, Value.ref x, Value.ref s, Value.int (zi (p + 0)), Value.int (zi (i + 1)), Value.int (zi z27), Value.int (zi v)] [] h340 Q
                refine xv (x_goto 10 d_L_undone_368 rfl) ?_
                have T9 := st_mono T_10 (show T + 99 * i ≤ T + 99 * (i + 1) by omega) (by omega)
                have U9 : HU (T + 99 * (i + 1)) (p + 0) nx2 ct2 kl2 (uL F p (sumV l2)) := hu_mo ⟨by have := U_10.1; omega, fun j a b => by obtain ⟨u1_, u2_⟩ := U_10.2 j a (by omega); refine ⟨u1_, ?_⟩; show (if p + 0 - 1 - j = p then sumV l2 else F (p + 0 - 1 - j)) = _; rw [if_neg (by omega), ← u2_]; congr 1; omega⟩ (show 0 ≤ T + 99 * i by omega) (show T + 99 * i ≤ T + 99 * (i + 1) by omega)
                exact ih10 _ (by omega) (p + 0) (i + 1) _ _ _ _ _ _ _ _ _ _ _ _ m2 (by omega) (by omega) (px_here P340) (al_fy w36 P340.1.2 (by omega)) (bz_fy B36 P340.1.2 (by omega) (by omega)) T9 U9 rfl
            · exact absurd (show sumV l2 = (if p = p then sumV l2 else F p) by rw [if_pos rfl]) k347
  exact L10 _ 0 0 _ _ _ _ _ _ _ _ _ _ _ _ m (by omega) (by omega) P2 A2 ⟨s + 1, c_ + 1, w_ + 9, z2, by omega, by omega, by omega⟩ (st_mono hT (by omega) hT0) (hu_0 hct.1) rfl
end F4
