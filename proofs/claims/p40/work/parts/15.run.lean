/-! the induction's step: calls, and the whole -/
theorem q_cal_9 : ∀ o, 10 ≤ o → o < 17 → ∀ x ∈ q_cal o, x.2.2.2.1.2.2.1 ≤ 40 ∧ (x.2.1 = 2 → q_ret x.2.2.2.1 = none) := by
  intro o h1 h2
  match o, h1, h2 with
  | 10, _, _ => decide +kernel
  | 11, _, _ => decide +kernel
  | 12, _, _ => decide +kernel
  | 13, _, _ => decide +kernel
  | 14, _, _ => decide +kernel
  | 15, _, _ => decide +kernel
  | 16, _, _ => decide +kernel
  | o + 17, _, h => exact absurd h (by omega)
theorem q_cal_10 : ∀ o, o < 10 → ∀ x ∈ q_cal o, x.2.2.2.1.2.2.1 ≤ 40 ∧ (x.2.1 = 2 → q_ret x.2.2.2.1 = none) := by
  intro o h1
  match o, h1 with
  | 0, _ => decide +kernel
  | 1, _ => decide +kernel
  | 2, _ => decide +kernel
  | 3, _ => decide +kernel
  | 4, _ => decide +kernel
  | 5, _ => decide +kernel
  | 6, _ => decide +kernel
  | 7, _ => decide +kernel
  | 8, _ => decide +kernel
  | 9, _ => decide +kernel
theorem q_cal_11 : ∀ o, ∀ x ∈ q_cal o, x.2.2.2.1.2.2.1 ≤ 40 ∧ (x.2.1 = 2 → q_ret x.2.2.2.1 = none) := by
  intro o x hx
  by_cases h1 : o < 10
  · exact q_cal_10 o h1 x hx
  · by_cases h2 : o < 17
    · exact q_cal_9 o (Nat.not_lt.mp h1) h2 x hx
    · exfalso
      have : q_cal o = [] := by
        match o, h2 with
        | o + 17, _ => rfl
      rw [this] at hx
      cases hx
theorem q_ml40 (o : Nat) : ∀ x ∈ q_cal o, x.2.2.2.1.2.2.1 ≤ 40 := fun x hx => (q_cal_11 o x hx).1
theorem q_iret (o : Nat) : ∀ x ∈ q_cal o, x.2.1 = 2 → q_ret x.2.2.2.1 = none := fun x hx => (q_cal_11 o x hx).2
theorem q_call_j {E : q_E} {M M' : q_M} {n j : Nat} {st vs rest : List Value} {h : q_H} (hs : q_call E M 2 n M' st h = some (.inr (.inl (M', j, vs, rest)))) : j = 2 := by
  unfold q_call at hs
  split at hs
  · dsimp only at hs
    split at hs
    · split at hs
      · cases hs; rfl
      · cases hs
    · cases hs
  · cases hs
theorem q_cnm_nm : ∀ o, o < 9 → q_cnm o = q_nm o
  | 0, _ => rfl
  | 1, _ => rfl
  | 2, _ => rfl
  | 3, _ => rfl
  | 4, _ => rfl
  | 5, _ => rfl
  | 6, _ => rfl
  | 7, _ => rfl
  | 8, _ => rfl
theorem q_rc_nm : ∀ o, o < 17 → q_rc o < 10 → ¬ o = 9 → q_cnm (q_rc o) = q_nm o := by decide +kernel
theorem q_isc {x : MethodName} {w : Cond} (h : (match w with | .code y _ _ _ => y == x | _ => false) = true) : ∃ b0 m0 r0, w = .code x b0 m0 r0 := by
  split at h
  · rename_i y b0 m0 r0
    have e : y = x := eq_of_beq h
    subst e
    exact ⟨_, _, _, rfl⟩
  · cases h
theorem q_cav_im : ∀ o, o < 17 → ∀ x ∈ q_cav o, Cond.instanceMethod x.2.2.2.1 ∈ lw_tbl := by decide +kernel
theorem q_own17 : ∀ o, o < 17 → ∀ x ∈ q_cal o, q_own x.2.2.2.1 < 17 := by decide +kernel
theorem q_cal17 : ∀ o, 17 ≤ o → q_cal o = [] := by
  intro o h
  match o, h with
  | o + 17, _ => rfl
theorem q_own9 : ∀ o, o < 17 → ∀ x ∈ q_cal o, x.2.1 = 1 → ¬ q_own x.2.2.2.1 = 9 := by decide +kernel
section QR
variable {p : Program} {l : Launch} {e : Env} {R : Room} {s s0 : State} {m : MethodId} {args : Array Value} {below : List Frame} {meth : Method} {c : Code} {H : Heap} {locs : List Loc} {Q : State → Prop} {cells slots mc ms : Nat} {rest : List Value}
variable {E : q_E} {D : va_G} {cid : Nat → ClassId} {M M' : q_M} {pc : Nat} {ls st vs : List Value} {h h' h1 : q_H} {L : Array Slot} {f : q_F} {c0 n0 n : Nat} {r r1 : q_R}
theorem q_ws_go (hM : q_mok M') (hts : ∀ w ∈ lw_tbl, goodWord w = true → w.before args s = true) : ∀ w ∈ q_ws M', ∀ (a' : Array Value) (U : State), s.WarmedH U.vm → w.before a' U = true := fun w hw a' U hW => by
  obtain ⟨h1, h2⟩ := q_ws_in hM w hw
  exact word_at hW (good_of_word h2) (hts w h1 h2)
theorem q_callW (hSn : q_Snd l E D cid s0 n) (hG : q_G E D cid s0) (hlt : l.stackTraces = false) (hF : q_Fx p s m args meth c R M) (hY : q_Y s0 s) (hH : q_hp D cid s0.heap.size h H) (hS : va_S (q_A s0) s.heap H locs) (hLs : L.size = c.maxLocals)
    {i : Instr} {len j : Nat} (hd : decode M.2.1 pc = .ok (i, len)) (hs : q_stepI E M i len pc ls st h = some (.inr (.inl (M', j, vs, rest)))) (hr : q_run E n M' 0 (q_ent M' vs) [] h = some (r1, h1))
    (hj : j = 2 → ∃ v, r1 = .inl v) (hRc : cells + (h1.2.2.1 - h.2.2.1) ≤ R.cells) (hRs : slots + (h1.2.2.2 - h.2.2.2) ≤ R.slots)
    (kr : ∀ v, r1 = .inl v → ∀ (H1 : Heap) (locs1 : List Loc), q_hp D cid s0.heap.size h1 H1 → va_S (q_A s0) s.heap H1 locs1 → W p l e R s m args below meth c H1 locs1 (cells + (h1.2.2.1 - h.2.2.1)) (slots + (h1.2.2.2 - h.2.2.2)) Q (F0 m (pc + 3) L (v.toList ++ rest)))
    (kx : ∀ x, r1 = .inr x → ∀ (H1 : Heap) (locs1 : List Loc) (q : Addr) (ce : Cell), q_hp D cid s0.heap.size h1 H1 → va_S (q_A s0) s.heap H1 locs1 → H1[q]? = some ce → ce.vm = .none → s.vm.findClass x = some ce.cls → vx_W p l e R s m args below meth c H1 locs1 (cells + (h1.2.2.1 - h.2.2.1)) (slots + (h1.2.2.2 - h.2.2.2)) Q (F0 m pc L rest) q) :
    W p l e R s m args below meth c H locs cells slots Q (F0 m pc L st) := by
  rcases q_call_step hs with ⟨ix, k, n1, ps, hlen, hk, hq, hc⟩ | ⟨ix, k, n1, x, ps, hlen, hk, ho17, hq, hc⟩
  rotate_left
  · obtain ⟨hgt, b, ws, rest1, fs, hx1, hle, hcat, e1, e2, hbc⟩ := q_callU_inv hc
    cases hx1
    have hmem := q_lk_mem hq
    have hM : q_mok M' := q_mov _ _ hmem
    obtain ⟨w1, w2, w3, w4, w5⟩ := q_cav_ok _ ho17 _ hmem
    obtain ⟨v1, v2, v3, v4⟩ := q_cav_o2 _ ho17 _ hmem
    obtain ⟨u1, u2, u3⟩ := q_cav_o3 _ ho17 _ hmem
    obtain ⟨t1, t2⟩ := q_cav_o4 _ ho17 _ hmem
    dsimp only at w1 w2 w3 w4 w5 v1 v2 v3 v4 u1 u2 u3 t1 t2
    have hnil : q_hnd M' = [] := List.isEmpty_iff.mp t1
    obtain ⟨hx, hb, hr9, hml, hown, hts, hlk, hnm, htab, hfr, hlo⟩ := id hF
    have hws := q_ws_go hM hts
    have hcw : (q_cw M').before args s = true := q_word hts hM.1 (q_cw_good M')
    have hcin : q_cw M' ∈ q_ws M' := List.mem_cons_self
    rw [q_cw_nil hnil] at hcw hcin
    have hpar : ∀ sig, parseMethodDescriptor x.desc = some sig → n1 = sig.parameters.length := fun sig h2 => by
      have h3 := w1
      rw [h2] at h3
      exact (Option.some.inj h3).symm
    have hcat8 : 2 * 0 + (rest.map fun v => v.category).sum ≤ 8 := by
      have : (rest.map fun v => v.category).sum ≤ 8 := hcat
      omega
    have hpc : ∀ U : State, U.heap = H → s.WarmedH U.vm → q_Pc D cid s0 (.ref b :: ws) h (Value.ref b :: ws).toArray U := fun U hU hW => ⟨rfl, ⟨State.WarmedH.trans hY.1 hW, by rw [hU]; exact Nat.le_trans hY.2.1 hS.1, fun q hq2 => by
      rw [hU, hS.2.1 q (Nat.lt_of_lt_of_le hq2 hY.2.1) (Nat.not_le.mpr hq2)]
      exact hY.2.2 q hq2⟩, by rw [hU]; exact hH⟩
    have hrec : ∃ cell : Cell, H[b]? = some cell ∧ cell.vm.isStatics = false ∧ s.vm.findClass RJ4 = some cell.cls := by
      obtain ⟨-, hat⟩ := hH.2 b _ hbc
      have hrec := va_recv (q_K hG hY) (q_P1 hat) (q_cls_ok 8 (by decide)) (q0 := 0) rfl
      exact hrec
    have hcode : ∃ b0 m0 r0, (Cond.code x b0 m0 r0).before args s = true := by
      cases e9 : lw_tbl[ps.2.2.2.2.2]? with
      | none => rw [e9] at v1; cases v1
      | some w =>
        rw [e9] at v1
        obtain ⟨b0, m0, r0, rfl⟩ := q_isc v1
        exact ⟨b0, m0, r0, q_word hts e9 rfl⟩
    obtain ⟨b0, m0, r0, hcode⟩ := hcode
    obtain ⟨v, rfl⟩ := hj rfl
    subst hlen
    have hback : (q_rm M' (h1.2.2.1 - h.2.2.1) (h1.2.2.2 - h.2.2.2)).cells = (h1.2.2.1 - h.2.2.1) := rfl
    rcases hk with ⟨rfl, rfl⟩ | ⟨rfl, rfl⟩
    · have hCU : va_CU R s args (q_nm (q_own M)) RJ4 x.cls ix x M'.1 M'.2.1 M'.2.2.1 (q_ret M') (q_ws M') (q_rm M' (h1.2.2.1 - h.2.2.1) (h1.2.2.2 - h.2.2.2)) (h1.2.2.1 - h.2.2.1) (h1.2.2.2 - h.2.2.2) n1 :=
        ⟨⟨rfl, rfl, by show q_hgt M' + 1 ≤ R.frames; omega, by show 8 + (M'.2.2.1 + 11) + 64 * (q_hgt M' + 2) ≤ R.locals; omega, hws, hcin⟩, hcw, q_word hts w4 rfl, ⟨u2, u3⟩, hpar, q_word hts w2 rfl, q_word hts w5 rfl, va_Decl.of (hts _ (q_cav_im _ ho17 _ hmem) rfl) hcode, q_word hts (v3 rfl) rfl, q_word hts w3 rfl⟩
      exact q_backI (vs := .ref b :: ws) (va_runU (Ts := []) (own := q_nm (q_own M)) (nL := c.maxLocals) (n := n1) ⟨hx, hb, rfl, hown, fun w hw => by cases hw⟩ (q_ctI hSn hM hnil hle hr) hCU ⟨q_Pc_blind, hrec, hpc⟩ rfl e1 hLs e2 hcat8 hd ⟨hRc, hRs⟩) hS kr
    · obtain ⟨v5, v6⟩ := v4 rfl
      subst v5
      have hCS : va_CS R s args (q_nm (q_own M)) ix M'.1 M'.2.1 M'.2.2.1 (q_ret M') (q_ws M') (q_rm M' (h1.2.2.1 - h.2.2.1) (h1.2.2.2 - h.2.2.2)) (h1.2.2.1 - h.2.2.1) (h1.2.2.2 - h.2.2.2) n1 :=
        ⟨⟨rfl, rfl, by show q_hgt M' + 1 ≤ R.frames; omega, by show 8 + (M'.2.2.1 + 11) + 64 * (q_hgt M' + 2) ≤ R.locals; omega, hws, hcin⟩, q_word hts w2 rfl, q_word hts w5 rfl, q_word hts v6 rfl, q_word hts w3 rfl, q_word hts w4 rfl, hcw, u1, hpar⟩
      exact q_backI (vs := .ref b :: ws) (va_runSU (C := RJ4) (Ts := []) (own := q_nm (q_own M)) (nL := c.maxLocals) (n := n1) ((q_K hG hY).1 8 _ (q_cls_ok 8 (by decide))).2 ⟨hx, hb, rfl, hown, fun w hw => by cases hw⟩ (q_ctI hSn hM hnil hle hr) hCS ⟨q_Pc_blind, hrec, hpc⟩ rfl e1 hLs e2 hcat8 hd ⟨hRc, hRs⟩) hS kr
  obtain ⟨hgt, j1, vs1, rest1, hx1, hle, hcat, hk0, hk1⟩ := q_call_inv hc
  cases hx1
  have hmem := q_lk_mem hq
  have hM : q_mok M' := q_mo _ _ hmem
  obtain ⟨w1, w2, w3, w4, w5, w6, w7⟩ := q_cal_ok _ _ hmem
  dsimp only at w1 w2 w3 w4 w5 w6 w7
  obtain ⟨hx, hb, hr9, hml, hown, hts, hlk, hnm, htab, hfr, hlo⟩ := id hF
  have hws := q_ws_go hM hts
  have hcw : (q_cw M').before args s = true := q_word hts hM.1 (q_cw_good M')
  have hcin : q_cw M' ∈ q_ws M' := List.mem_cons_self
  have hin : (Cond.initialized M'.1.cls).before args s = true := q_word hts w3 rfl
  have hli : (Cond.methodLink (q_nm (q_own M)) ix M'.1).before args s = true := q_word hts w2 rfl
  have hsz : M'.2.2.1 ≤ 40 → 8 + (M'.2.2.1 + 11) + 64 * (q_hgt M' + 2) ≤ R.locals := fun _ => by omega
  have hml40 : M'.2.2.1 ≤ 40 := q_ml40 _ _ hmem
  have hpar : ∀ sig, parseMethodDescriptor M'.1.desc = some sig → n1 = sig.parameters.length := fun sig h2 => by
    have h3 := w1
    rw [h2] at h3
    exact (Option.some.inj h3).symm
  have hcat8 : 2 * 0 + (rest.map fun v => v.category).sum ≤ 8 := by
    have : (rest.map fun v => v.category).sum ≤ 8 := hcat
    omega
  have hpc : ∀ U : State, U.heap = H → s.WarmedH U.vm → q_Pc D cid s0 vs h vs.toArray U := fun U hU hW => ⟨rfl, ⟨State.WarmedH.trans hY.1 hW, by rw [hU]; exact Nat.le_trans hY.2.1 hS.1, fun q hq2 => by
    rw [hU, hS.2.1 q (Nat.lt_of_lt_of_le hq2 hY.2.1) (Nat.not_le.mpr hq2)]
    exact hY.2.2 q hq2⟩, by rw [hU]; exact hH⟩
  have hfr1 : q_hgt M' + 1 ≤ R.frames := by omega
  subst hlen
  rcases hk with ⟨rfl, rfl⟩ | ⟨rfl, rfl⟩ | ⟨rfl, rfl⟩
  · obtain ⟨e1, e2⟩ := hk0 rfl
    cases hnil : q_hnd M' with
    | nil =>
      rw [q_cw_nil hnil] at hcw hcin
      refine q_back (vs := vs) (vx_runS (Ts := []) (own := q_nm (q_own M)) (nL := c.maxLocals) (n := n1) ⟨hx, hb, rfl, hown, fun w hw => by cases hw⟩ (q_ctX hSn hG hlt hM hnil hle hr) ⟨⟨rfl, rfl, hfr1, hsz hml40, hws, hcin, hcw, hin, hM.2.2.2, hpar, hli⟩, q_word hts w4 rfl⟩ ⟨q_Pc_blind, hpc⟩ rfl e1 hLs e2 hcat8 hd ⟨hRc, hRs⟩) hS kr kx
    | cons a b =>
      rw [q_cw_cons hnil] at hcw hcin
      refine q_back (vs := vs) (vx_runSX (Ts := []) (own := q_nm (q_own M)) (nL := c.maxLocals) (n := n1) (hh := q_hnd M') ⟨hx, hb, rfl, hown, fun w hw => by cases hw⟩ (q_ctW hSn hG hlt hM hnil hle hr) ⟨⟨rfl, rfl, hfr1, hsz hml40, hws, hcin⟩, hcw, hin, hM.2.2.2, hpar, hli, q_word hts w4 rfl⟩ ⟨q_Pc_blind, hpc⟩ rfl e1 hLs e2 hcat8 hd ⟨hRc, hRs⟩) hS kr kx
  · obtain ⟨b, ws, rfl, e1, e2, e3⟩ := hk1 (by decide)
    have hnil := w7 (by decide)
    rw [q_cw_nil hnil] at hcw hcin
    have hrec : ∃ cell : Cell, H[b]? = some cell ∧ cell.vm.isStatics = false ∧ s.vm.findClass M'.1.cls = some cell.cls := by
      rcases e3 rfl with ⟨fs, h9, hbc⟩ | ⟨h9, hbc⟩
      · obtain ⟨-, hat⟩ := hH.2 b _ hbc
        have hrec := va_recv (q_K hG hY) (q_P1 hat) (q_cls_ok _ h9) (q0 := 0) rfl
        have h17 : q_own M < 17 := Classical.byContradiction fun hn => by
          rw [q_cal17 _ (Nat.not_lt.mp hn)] at hmem
          cases hmem
        have hcn : q_cnm (q_rc (q_own M')) = M'.1.cls := (q_rc_nm _ (q_own17 _ h17 _ hmem) h9 (q_own9 _ h17 _ hmem rfl)).trans hM.2.2.1.symm
        dsimp only at hrec
        rw [hcn] at hrec
        exact hrec
      · obtain ⟨i, hi⟩ := Option.isSome_iff_exists.mp hbc
        obtain ⟨hi8, hia⟩ := q_sx_some hi
        obtain ⟨adK, adV, g1, g3⟩ := q_Sat hG hY
        rw [(g1 i hi8).1] at hia
        cases hia
        have hcn : M'.1.cls = "java/lang/String" := by
          rw [hM.2.2.1]
          show q_nm (q_own M') = _
          rw [h9]
          rfl
        rw [hcn]
        exact vk_recv g3 hi8 hS
    refine q_back (vs := .ref b :: ws) (vx_runV (Ts := []) (own := q_nm (q_own M)) (nL := c.maxLocals) (n := n1) ⟨hx, hb, rfl, hown, fun w hw => by cases hw⟩ (q_ctX hSn hG hlt hM hnil hle hr) ⟨⟨rfl, rfl, hfr1, hsz hml40, hws, hcin, hcw, hin, hM.2.2.2, hpar, hli⟩, q_word hts w4 rfl, q_word hts (w5 rfl) rfl⟩ ⟨q_Pc_blind, hrec, hpc⟩ rfl e1 hLs e2 hcat8 hd ⟨hRc, hRs⟩) hS kr kx
  · obtain ⟨b, ws, rfl, e1, e2, e3⟩ := hk1 (by decide)
    have hnil := w7 (by decide)
    rw [q_cw_nil hnil] at hcw hcin
    have hj2 : j = 2 := q_call_j hc
    obtain ⟨v, rfl⟩ := hj hj2
    have hret : q_ret M' = none := q_iret _ _ hmem rfl
    rw [hret] at hcw hcin
    refine q_backI (vs := .ref b :: ws) (va_runI (Ts := []) (own := q_nm (q_own M)) (nL := c.maxLocals) (n := n1) ⟨hx, hb, rfl, hown, fun w hw => by cases hw⟩ (q_ctI hSn hM hnil hle hr) ⟨⟨rfl, rfl, hfr1, hsz hml40, hws, hcin, hcw, hin, hM.2.2.2, hpar, hli⟩, w6 rfl, q_word hts w4 rfl⟩ ⟨q_Pc_blind, hpc⟩ rfl e1 hLs e2 hcat8 hd ⟨hRc, hRs⟩) hS kr
end QR
