/-! the class's warehouse: a tick (printed by program) -/
section CK
variable {E : q_E} {h : q_H} {w v a b : Nat} {l lo f g : Int → Int} {p p2 : Int → Nat}
def tkm (l : Int → Int) (r : Int) : Int → Int := rset l r (gon (rb l r))
def tkL (l : Int → Int) (r : Int) : Int → Int := if 0 < rb l r 3 then (if rb (tkm l r) r 3 = 0 then epL (tkm l r) r else tkm l r) else if l (8 + rb l r 0) = 2 then rset l r (u1 (rb l r) 1 (min 99 (rb l r 1 + l 5))) else l
def tkV (l : Int → Int) (r : Int) : Int := if 0 < rb l r 3 ∧ rb (tkm l r) r 3 = 0 then epV (tkm l r) r else 0
def tkr : Nat → Int → (Int → Int) → (Int → Int)
  | 0, _, l => l
  | n + 1, k, l => tkr n (k + 1) (tkL l k)
def tkd : Nat → Int → (Int → Int) → Int → Int
  | 0, _, _, d => d
  | n + 1, k, l, d => tkd n (k + 1) (tkL l k) (d + tkV l k)
theorem tkr_b {n k : Int} {l : Int → Int} (h : k < n) : tkr (n - k).toNat k l = tkr (n - (k + 1)).toNat (k + 1) (tkL l k) := by
  rw [show (n - k).toNat = (n - (k + 1)).toNat + 1 by omega]; rfl
theorem tkr_e {n k : Int} {l : Int → Int} (h : n ≤ k) : tkr (n - k).toNat k l = l := by
  rw [show (n - k).toNat = 0 by omega]; rfl
theorem tkd_b {n k d : Int} {l : Int → Int} (h : k < n) : tkd (n - k).toNat k l d = tkd (n - (k + 1)).toNat (k + 1) (tkL l k) (d + tkV l k) := by
  rw [show (n - k).toNat = (n - (k + 1)).toNat + 1 by omega]; rfl
theorem tkd_e {n k d : Int} {l : Int → Int} (h : n ≤ k) : tkd (n - k).toNat k l d = d := by
  rw [show (n - k).toNat = 0 by omega]; rfl
/-- bounds as ticks pass: T ticks so far, the robots below k have had one more -/
def TBk (T k : Int) (l : Int → Int) : Prop := l 2 ≤ T + 1 ∧ (∀ r, 0 ≤ r → r < l 3 → (-3 * (T + 1) ≤ rb l r 1 ∧ rb l r 5 ≤ T + 1) ∧ (k ≤ r → -3 * T ≤ rb l r 1 ∧ rb l r 5 ≤ T)) ∧ ∀ o, 0 ≤ o → o < l 4 → ob l o 4 ≤ T + 1
theorem tbk_rset {T k : Int} (hs : 0 ≤ l 3 ∧ l 3 ≤ 6) (hT : TBk T k l) (h1 : isR l k) (a : -3 * (T + 1) ≤ f 1) (b : f 5 ≤ T + 1) : TBk T (k + 1) (rset l k f) := by
  obtain ⟨h2, h3, h4⟩ := hT
  unfold TBk
  rw [rset_o (by omega), rset_o (by omega), rset_o (by omega)]
  refine ⟨h2, fun r c d => ?_, fun o c d => ?_⟩
  · by_cases q : r = k
    · subst q
      rw [rset_eq (by omega) (by omega), rset_eq (by omega) (by omega)]
      exact ⟨⟨a, b⟩, fun e => by omega⟩
    · rw [rset_ne (by omega) (by omega) q, rset_ne (by omega) (by omega) q]
      exact ⟨(h3 r c d).1, fun e => (h3 r c d).2 (by omega)⟩
  · rw [show ob (rset l k f) o 4 = ob l o 4 from rset_o (k := 320 + 8 * o + 4) (by omega)]
    exact h4 o c d
theorem tbk_rset2 {T k : Int} (hs : 0 ≤ l 3 ∧ l 3 ≤ 6) (hT : TBk T (k + 1) l) (h1 : isR l k) (a : f 1 = rb l k 1) (b : f 5 = rb l k 5) : TBk T (k + 1) (rset l k f) := by
  obtain ⟨h2, h3, h4⟩ := hT
  unfold TBk
  rw [rset_o (by omega), rset_o (by omega), rset_o (by omega)]
  refine ⟨h2, fun r c d => ?_, fun o c d => ?_⟩
  · by_cases q : r = k
    · subst q
      rw [rset_eq (by omega) (by omega), rset_eq (by omega) (by omega), a, b]
      exact h3 r c d
    · rw [rset_ne (by omega) (by omega) q, rset_ne (by omega) (by omega) q]
      exact h3 r c d
  · rw [show ob (rset l k f) o 4 = ob l o 4 from rset_o (k := 320 + 8 * o + 4) (by omega)]
    exact h4 o c d
theorem tbk_oset {T k o : Int} (hT : TBk T k l) (h1 : isO l o) (a : f 4 ≤ T + 1) (hs : 0 ≤ l 3 ∧ l 3 ≤ 6) : TBk T k (oset l o f) := by
  obtain ⟨h2, h3, h4⟩ := hT
  unfold TBk
  rw [oset_o (by omega), oset_o (by omega), oset_o (by omega)]
  refine ⟨h2, fun r c d => ?_, fun o' c d => ?_⟩
  · rw [show rb (oset l o f) r 1 = rb l r 1 from oset_o (k := 104 + 36 * r + 1) (by omega), show rb (oset l o f) r 5 = rb l r 5 from oset_o (k := 104 + 36 * r + 5) (by omega)]
    exact h3 r c d
  · by_cases q : o' = o
    · subst q
      rw [oset_eq (by omega) (by omega)]
      exact a
    · rw [oset_ne (by omega) (by omega) q]
      exact h4 o' c d
theorem gon_0 {f : Int → Int} : gon f 0 = ahf f 1 := rfl
theorem gon_1 {f : Int → Int} : gon f 1 = if ahf f 1 = f 0 then f 1 else f 1 - f 4 := rfl
theorem gon_2 {f : Int → Int} : gon f 2 = f 2 := rfl
theorem gon_3 {f : Int → Int} : gon f 3 = f 3 - 1 := rfl
theorem gon_4 {f : Int → Int} : gon f 4 = f 4 := rfl
theorem gon_5 {f : Int → Int} : gon f 5 = if ahf f 1 = f 0 then f 5 else f 5 + 1 := rfl
theorem gon_p {f : Int → Int} {t : Int} (h : 0 ≤ t) (k : t < f 3 - 1) : gon f (6 + t) = f (6 + (t + 1)) := by
  unfold gon
  rw [if_neg (by omega), if_neg (by omega), if_neg (by omega), if_neg (by omega), if_pos (by omega), show 6 + t + 1 = 6 + (t + 1) by omega]
theorem gon_rf {n o : Int} {f : Int → Int} (hf : Rf n o f) (h : 0 < f 3) (a : -300000 ≤ f 1 - f 4) (b : f 5 + 1 ≤ 100000) : Rf n o (gon f) := by
  have e := ahf_r (t := 1) hf (by omega)
  obtain ⟨q0, q1, q2, q3, q4, q5, q6⟩ := hf
  unfold Rf
  rw [gon_0, gon_1, gon_2, gon_3, gon_4, gon_5]
  refine ⟨e, ?_, q2, by omega, q4, ?_, fun t c d => ?_⟩
  · split <;> omega
  · split <;> omega
  · rw [gon_p c d]
    exact q6 (t + 1) (by omega) (by omega)
theorem rgc_r {r : Int} (hR : RgC l) (h1 : isR l r) : Rf (cs l) (l 4) (rb l r) := hR.2.2.2.2.2.2.2.2.2.2.2.1 r h1.1 h1.2
theorem rgc_o {o : Int} (hR : RgC l) (h1 : isO l o) : Of (cs l) (ob l o) := hR.2.2.2.2.2.2.2.2.2.2.2.2 o h1.1 h1.2
theorem epL_ok {T k : Int} (hR : RgC l) (h1 : isR l k) (hT : TBk T (k + 1) l) (h2 : T ≤ 99000) : RgC (epL l k) ∧ TBk T (k + 1) (epL l k) ∧ ∀ i, i < 104 → epL l k i = l i := by
  have gs := hR.2.2.2.1
  have gn := hR.2.2.1
  unfold epL
  by_cases c1 : epA l k
  · rw [if_pos c1]
    obtain ⟨q0, q1, q2, q4, q5, q6⟩ := rgc_o hR c1.1
    have e := oset_u (l := l) (o := rb l k 2) (v := ob l (rb l k 2) 2 + 1) (k := 2) (by omega) (by omega)
    rw [← e]
    refine ⟨rgc_oset hR c1.1 ⟨q0, q1, ?_, q4, fun t a b => ?_, fun t a b => ?_⟩, tbk_oset hT c1.1 (hT.2.2 _ c1.1.1 c1.1.2) gs, fun i hi => oset_o (by omega)⟩
    · show 0 ≤ ob l (rb l k 2) 2 + 1 ∧ ob l (rb l k 2) 2 + 1 ≤ ob l (rb l k 2) 1
      omega
    · rw [u1_ne (by omega)]; exact q5 t a b
    · rw [u1_ne (by omega)]; exact q6 t a b
  · rw [if_neg c1]
    by_cases c2 : epB l k
    · rw [if_pos c2]
      obtain ⟨q0, q1, q2, q4, q5, q6⟩ := rgc_o hR c2.1
      have hT2 := hT.1
      have e := oset_u (l := l) (o := rb l k 2) (v := l 2) (k := 4) (by omega) (by omega)
      rw [← e]
      have hR2 : RgC (oset l (rb l k 2) (u1 (ob l (rb l k 2)) 4 (l 2))) := by
        refine rgc_oset hR c2.1 ⟨q0, q1, q2, ?_, fun t a b => ?_, fun t a b => ?_⟩
        · show -1 ≤ l 2 ∧ l 2 ≤ 100000
          omega
        · rw [u1_ne (by omega)]; exact q5 t a b
        · rw [u1_ne (by omega)]; exact q6 t a b
      have hT3 : TBk T (k + 1) (oset l (rb l k 2) (u1 (ob l (rb l k 2)) 4 (l 2))) := tbk_oset hT c2.1 hT.1 gs
      generalize hm : oset l (rb l k 2) (u1 (ob l (rb l k 2)) 4 (l 2)) = m at *
      have em (i : Int) (hi : i < 104) : m i = l i := by rw [← hm]; exact oset_o (by omega)
      have h1' : isR m k := ⟨h1.1, by rw [em 3 (by omega)]; exact h1.2⟩
      have e2 := rset_u (l := m) (r := k) (v := -1) (k := 2) (by omega) (by omega)
      have go4 := hR2.2.2.2.2.1
      refine ⟨rgc_rf hR2 h1' (by omega) (by omega), ?_, fun i hi => (u1_ne (by omega)).trans (em i hi)⟩
      rw [← e2]
      exact tbk_rset2 (by rw [em 3 (by omega)]; exact gs) hT3 h1' rfl rfl
    · rw [if_neg c2]
      exact ⟨hR, hT, fun _ _ => rfl⟩
theorem tkL_ok {T k : Int} (hR : RgC l) (h1 : isR l k) (hT : TBk T k l) (h0 : 0 ≤ T) (h2 : T ≤ 99000) : RgC (tkL l k) ∧ TBk T (k + 1) (tkL l k) ∧ ∀ i, i < 104 → tkL l k i = l i := by
  obtain ⟨q0, q1, q2, q3, q4, q5, q6⟩ := id (rgc_r hR h1)
  obtain ⟨b1, b2⟩ := (hT.2.1 k h1.1 h1.2).2 (by omega)
  have g5 := hR.2.2.2.2.2.2.1
  unfold tkL
  by_cases c : 0 < rb l k 3
  · rw [if_pos c]
    have hR2 : RgC (tkm l k) := rgc_rset hR h1 (gon_rf (rgc_r hR h1) c (by omega) (by omega))
    have hT2 : TBk T (k + 1) (tkm l k) := by
      refine tbk_rset hR.2.2.2.1 hT h1 ?_ ?_
      · rw [gon_1]; split <;> omega
      · rw [gon_5]; split <;> omega
    have em (i : Int) (hi : i < 104) : tkm l k i = l i := rset_o (by omega)
    by_cases c2 : rb (tkm l k) k 3 = 0
    · rw [if_pos c2]
      obtain ⟨x, y, z⟩ := epL_ok hR2 ⟨h1.1, by rw [em 3 (by omega)]; exact h1.2⟩ hT2 h2
      exact ⟨x, y, fun i hi => (z i hi).trans (em i hi)⟩
    · rw [if_neg c2]
      exact ⟨hR2, hT2, em⟩
  · rw [if_neg c]
    by_cases c2 : l (8 + rb l k 0) = 2
    · rw [if_pos c2]
      refine ⟨rgc_rset hR h1 ⟨q0, ?_, q2, q3, q4, q5, fun t a b => ?_⟩, tbk_rset hR.2.2.2.1 hT h1 ?_ ?_, fun i hi => rset_o (by omega)⟩
      · show -300000 ≤ min 99 (rb l k 1 + l 5) ∧ min 99 (rb l k 1 + l 5) ≤ 99
        omega
      · rw [u1_ne (by omega)]
        exact q6 t a b
      · show -3 * (T + 1) ≤ min 99 (rb l k 1 + l 5)
        omega
      · show rb l k 5 ≤ T + 1
        omega
    · rw [if_neg c2]
      refine ⟨hR, ⟨hT.1, fun r a b => ⟨(hT.2.1 r a b).1, fun e => (hT.2.1 r a b).2 (by omega)⟩, hT.2.2⟩, fun _ _ => rfl⟩
theorem epV_r {l : Int → Int} {r : Int} : 0 ≤ epV l r ∧ epV l r ≤ 1 := by
  unfold epV
  split <;> omega
theorem rgc_now {x : Int} (hR : RgC l) (h : 0 ≤ x ∧ x ≤ 1000000) : RgC (u1 l 2 x) := by
  obtain ⟨g0, g1, g2, g3, g4, gc, g5, g6, g7, gk, gl, gr, go⟩ := hR
  have ec : cs (u1 l 2 x) = cs l := by unfold cs; rw [u1_ne (by omega), u1_ne (by omega)]
  have e (k : Int) (hk : 2 < k) : u1 l 2 x k = l k := u1_ne (by omega)
  unfold RgC
  rw [ec, u1_eq, e 3 (by omega), e 4 (by omega), e 5 (by omega), e 6 (by omega), e 7 (by omega), show u1 l 2 x 0 = l 0 from u1_ne (by omega), show u1 l 2 x 1 = l 1 from u1_ne (by omega)]
  refine ⟨g0, g1, h, g3, g4, gc, g5, g6, g7, fun k a b => by rw [e _ (by omega)]; exact gk k a b, fun k a b => by rw [e _ (by omega)]; exact gl k a b, fun r' a b => ?_, fun o' a b => ?_⟩
  · have er (k : Int) (hk : 0 ≤ k) : rb (u1 l 2 x) r' k = rb l r' k := e _ (by omega)
    unfold Rf
    rw [er 0 (by omega), er 1 (by omega), er 2 (by omega), er 3 (by omega), er 4 (by omega), er 5 (by omega)]
    obtain ⟨q0, q1, q2, q3, q4, q5, q6⟩ := gr r' a b
    exact ⟨q0, q1, q2, q3, q4, q5, fun t a b => by rw [er _ (by omega)]; exact q6 t a b⟩
  · have er (k : Int) (hk : 0 ≤ k) : ob (u1 l 2 x) o' k = ob l o' k := e _ (by omega)
    unfold Of
    rw [er 0 (by omega), er 1 (by omega), er 2 (by omega), er 4 (by omega)]
    obtain ⟨q0, q1, q2, q4, q5, q6⟩ := go o' a b
    exact ⟨q0, q1, q2, q4, fun t a b => by rw [er _ (by omega)]; exact q5 t a b, fun t a b => by rw [er _ (by omega)]; exact q6 t a b⟩
theorem S_X6_tick (hW : WH h w l p) (hR : RgC l) {T : Int} (hT : TBk T 0 (u1 l 2 (l 2 + 1))) (hT0 : 0 ≤ T) (hT1 : T ≤ 99000) : ∃ r_ h', q_cl E q_m_X6_tick [Value.ref w] h = some (r_, h') ∧ ((r_ = .inl (some (.int (zi (tkd (l 3).toNat 0 (u1 l 2 (l 2 + 1)) 0)))) ∧ RgC (tkr (l 3).toNat 0 (u1 l 2 (l 2 + 1))) ∧ TBk T (l 3) (tkr (l 3).toNat 0 (u1 l 2 (l 2 + 1)))) ∧ WH h' w (tkr (l 3).toNat 0 (u1 l 2 (l 2 + 1))) p ∧ Fr w 38 h h') := by
  suffices K : ∀ Q : q_R → q_H → Prop, (∀ r_ h', ((r_ = .inl (some (.int (zi (tkd (l 3).toNat 0 (u1 l 2 (l 2 + 1)) 0)))) ∧ RgC (tkr (l 3).toNat 0 (u1 l 2 (l 2 + 1))) ∧ TBk T (l 3) (tkr (l 3).toNat 0 (u1 l 2 (l 2 + 1)))) ∧ WH h' w (tkr (l 3).toNat 0 (u1 l 2 (l 2 + 1))) p ∧ Fr w 38 h h') → Q r_ h') → Xv E q_m_X6_tick 0 [Value.ref w, Value.null, Value.null, Value.null] [] h Q from K _ fun _ _ p => p
  intro Q hQ
  obtain ⟨g0, g1, g2, g3, g4, gc, g5, g6, g7, gk, gl, gr, go⟩ := id hR
  have hRn : RgC (u1 l 2 (l 2 + 1)) := by have := hT.1; rw [u1_eq] at this; exact rgc_now hR (by omega)
  refine xv (x_aload_n 1 d_X6_tick_0 rfl rfl) ?_
  refine xv (x_dup 2 d_X6_tick_1 rfl rfl) ?_
  refine xv (x_getfield 5 d_X6_tick_2 rfl f_6_52 (Nat.le_of_ble_eq_true rfl) (Nat.le_of_ble_eq_true rfl) (q_gf_of (wh_o hW) rfl)) ?_
  refine xv (x_iconst 6 d_X6_tick_5 rfl) ?_
  refine xv (x_iadd 7 d_X6_tick_6 rfl) ?_
  obtain ⟨h7, e7, w7, f7⟩ := wh_pf2 (v := (l 2) + 1) hW
  have F7 : Fr w 38 h h7 := fr_tr fr_rf (fr_in f7 (by omega) (by omega))
  refine xv (x_putfield 10 d_X6_tick_7 rfl f_6_52 (Nat.le_of_ble_eq_true rfl) e7 rfl rfl (fun e => absurd e (by decide))) ?_
  show Xv E q_m_X6_tick 10 [Value.ref w, Value.null, Value.null, Value.null] [] h7 Q
  refine xv (x_iconst 11 d_X6_tick_10 rfl) ?_
  refine xv (x_istore_n 12 d_X6_tick_11 rfl (Nat.le_of_ble_eq_true rfl)) ?_
  show Xv E q_m_X6_tick 12 [Value.ref w, Value.int (zi 0), Value.null, Value.null] [] h7 Q
  refine xv (x_iconst 13 d_X6_tick_12 rfl) ?_
  refine xv (x_istore_n 14 d_X6_tick_13 rfl (Nat.le_of_ble_eq_true rfl)) ?_
  show Xv E q_m_X6_tick 14 [Value.ref w, Value.int (zi 0), Value.int (zi 0), Value.null] [] h7 Q
  have L14 : ∀ (n : Nat) (d : Int) (k : Int) (lk : Int → Int) (H : q_H) (x3 : Value), (RgC lk) → (TBk T k lk) → (lk 3 = l 3) → (0 ≤ k) → (k ≤ l 3) → (0 ≤ d ∧ d ≤ k) → (WH H w lk p) → (Fr w 38 h H) → (tkr (l 3).toNat 0 (u1 l 2 (l 2 + 1)) = tkr (l 3 - k).toNat k lk) → (tkd (l 3).toNat 0 (u1 l 2 (l 2 + 1)) 0 = tkd (l 3 - k).toNat k lk d) → (l 3 - k).toNat = n → Xv E q_m_X6_tick 14 [Value.ref w, Value.int (zi d), Value.int (zi k), x3] [] H Q := by
    intro n
    induction n using Nat.strongRecOn with
    | _ n ih14 =>
      intro d k lk H x3 hR2 hT2 hl k0 k1 d0 hW2 hF2 hv hd em
      obtain ⟨g0, g1, g2, g3, g4, gc, g5, g6, g7, gk, gl, gr, go⟩ := id hR2
      refine xv (x_aload_n 15 d_X6_tick_14 rfl rfl) ?_
      refine xv (x_iload_n 16 d_X6_tick_15 rfl rfl) ?_
      refine xv (x_inv1 19 (as := [Value.int (zi k)]) d_X6_tick_16 rfl c_6_106 rfl (Nat.le_of_ble_eq_true rfl) (Nat.le_of_ble_eq_true rfl) (wh_o hW2) (Nat.le_of_ble_eq_true rfl) (Nat.le_of_ble_eq_true rfl) rfl (S_X6_isRobot hW2 hR2 (by omega) (by omega))) ?_
      show Xv E q_m_X6_tick 19 [Value.ref w, Value.int (zi d), Value.int (zi k), x3] [Value.int (zi (bI (isR lk k)))] H Q
      refine v_if_eq 108 22 d_X6_tick_19 rfl rfl (by have := bI_r (isR lk k); omega) (by have := bI_r (isR lk k); omega) (fun k19 => ?_) (fun k19 => ?_)
      · replace k19 := bI_0.mp k19
        refine xv (x_iload_n 109 d_X6_tick_108 rfl rfl) ?_
        refine xv_r (x_ireturn d_X6_tick_109 rfl rfl) ?_
        have ek : tkr (l 3).toNat 0 (u1 l 2 (l 2 + 1)) = lk := hv.trans (tkr_e (by omega))
        have ed : tkd (l 3).toNat 0 (u1 l 2 (l 2 + 1)) 0 = d := hd.trans (tkd_e (by omega))
        refine hQ _ _ ⟨⟨by rw [ed], by rw [ek]; exact hR2, by rw [ek, show l 3 = k by omega]; exact hT2⟩, by rw [ek]; exact hW2, hF2⟩
      · replace k19 := bI_n0.mp k19
        refine xv (x_iload_n 23 d_X6_tick_22 rfl rfl) ?_
        refine xv (x_bipush 25 d_X6_tick_23 rfl rfl) ?_
        refine v_icmp_ge 108 28 d_X6_tick_25 rfl rfl (by omega) (by omega) (by omega) (by omega) (fun k25 => ?_) (fun k25 => ?_)
        · refine xv (x_iload_n 109 d_X6_tick_108 rfl rfl) ?_
          refine xv_r (x_ireturn d_X6_tick_109 rfl rfl) ?_
          have ek : tkr (l 3).toNat 0 (u1 l 2 (l 2 + 1)) = lk := hv.trans (tkr_e (by omega))
          have ed : tkd (l 3).toNat 0 (u1 l 2 (l 2 + 1)) 0 = d := hd.trans (tkd_e (by omega))
          refine hQ _ _ ⟨⟨by rw [ed], by rw [ek]; exact hR2, by rw [ek, show l 3 = k by omega]; exact hT2⟩, by rw [ek]; exact hW2, hF2⟩
        · refine xv (x_aload_n 29 d_X6_tick_28 rfl rfl) ?_
          refine xv (x_getfield 32 d_X6_tick_29 rfl f_6_28 (Nat.le_of_ble_eq_true rfl) (Nat.le_of_ble_eq_true rfl) (q_gf_of (wh_o hW2) rfl)) ?_
          refine xv (x_iload_n 33 d_X6_tick_32 rfl rfl) ?_
          refine xv (x_aaload 34 d_X6_tick_33 rfl (wh_rs hW2 (by omega) (by omega))) ?_
          refine xv (x_astore_n 35 d_X6_tick_34 rfl (Nat.le_of_ble_eq_true rfl)) ?_
          show Xv E q_m_X6_tick 35 [Value.ref w, Value.int (zi d), Value.int (zi k), Value.ref (p k)] [] H Q
          refine xv (x_aload_n 36 d_X6_tick_35 rfl rfl) ?_
          refine xv (x_getfield 39 d_X6_tick_36 rfl f_6_158 (Nat.le_of_ble_eq_true rfl) (Nat.le_of_ble_eq_true rfl) (q_gf_of (wh_r hW2 (by omega) (by omega)).1 rfl)) ?_
          have q36 := gr k (by omega) (by omega)
          refine v_if_le 68 42 d_X6_tick_39 rfl rfl (by omega) (by omega) (fun k39 => ?_) (fun k39 => ?_)
          · refine xv (x_aload_n 69 d_X6_tick_68 rfl rfl) ?_
            refine xv (x_aload_n 70 d_X6_tick_69 rfl rfl) ?_
            refine xv (x_getfield 73 d_X6_tick_70 rfl f_6_168 (Nat.le_of_ble_eq_true rfl) (Nat.le_of_ble_eq_true rfl) (q_gf_of (wh_r hW2 (by omega) (by omega)).1 rfl)) ?_
            have q70 := gr k (by omega) (by omega)
            refine xv (x_inv1 76 (as := [Value.int (zi (rb lk k 0))]) d_X6_tick_73 rfl c_6_87 rfl (Nat.le_of_ble_eq_true rfl) (Nat.le_of_ble_eq_true rfl) (wh_o hW2) (Nat.le_of_ble_eq_true rfl) (Nat.le_of_ble_eq_true rfl) rfl (S_X6_isCell hW2 hR2 (by omega) (by omega))) ?_
            show Xv E q_m_X6_tick 76 [Value.ref w, Value.int (zi d), Value.int (zi k), Value.ref (p k)] [Value.int (zi (bI (isC lk (rb lk k 0))))] H Q
            refine v_if_eq 102 79 d_X6_tick_76 rfl rfl (by have := bI_r (isC lk (rb lk k 0)); omega) (by have := bI_r (isC lk (rb lk k 0)); omega) (fun k76 => ?_) (fun k76 => ?_)
            · replace k76 := bI_0.mp k76
              refine xv (x_iinc 105 d_X6_tick_102 rfl rfl) ?_
              show Xv E q_m_X6_tick 105 [Value.ref w, Value.int (zi d), Value.int (zi (k + 1)), Value.ref (p k)] [] H Q
              refine xv (x_goto 14 d_X6_tick_105 rfl) ?_
              have et : tkL lk k = lk := by unfold tkL; rw [if_neg (by omega), if_neg (by omega)]
              have ev : d + tkV lk k = d := by unfold tkV; rw [if_neg (by omega)]; omega
              obtain ⟨x1, x2, x3⟩ := tkL_ok hR2 ⟨k0, by omega⟩ hT2 hT0 hT1
              rw [et] at x1 x2 x3
              refine ih14 _ (by omega) _ (k + 1) _ _ _ x1 x2 ((x3 3 (by omega)).trans hl) (by omega) (by omega) (by omega) hW2 hF2 ?_ ?_ rfl
              · rw [hv, tkr_b (by omega), et]
              · rw [hd, tkd_b (by omega), et, ev]
            · replace k76 := bI_n0.mp k76
              refine xv (x_aload_n 80 d_X6_tick_79 rfl rfl) ?_
              refine xv (x_getfield 83 d_X6_tick_80 rfl f_6_18 (Nat.le_of_ble_eq_true rfl) (Nat.le_of_ble_eq_true rfl) (q_gf_of (wh_o hW2) rfl)) ?_
              refine xv (x_aload_n 84 d_X6_tick_83 rfl rfl) ?_
              refine xv (x_getfield 87 d_X6_tick_84 rfl f_6_168 (Nat.le_of_ble_eq_true rfl) (Nat.le_of_ble_eq_true rfl) (q_gf_of (wh_r hW2 (by omega) (by omega)).1 rfl)) ?_
              have q84 := gr k (by omega) (by omega)
              refine xv (x_iaload 88 d_X6_tick_87 rfl (ai_g (wh_k hW2) (by omega) (by omega) (by decide))) ?_
              have q87 := gk (rb lk k 0) (by omega) (by omega)
              refine xv (x_iconst 89 d_X6_tick_88 rfl) ?_
              refine v_icmp_ne 102 92 d_X6_tick_89 rfl rfl (by omega) (by omega) (by omega) (by omega) (fun k89 => ?_) (fun k89 => ?_)
              · refine xv (x_iinc 105 d_X6_tick_102 rfl rfl) ?_
                show Xv E q_m_X6_tick 105 [Value.ref w, Value.int (zi d), Value.int (zi (k + 1)), Value.ref (p k)] [] H Q
                refine xv (x_goto 14 d_X6_tick_105 rfl) ?_
                have et : tkL lk k = lk := by unfold tkL; rw [if_neg (by omega), if_neg (by omega)]
                have ev : d + tkV lk k = d := by unfold tkV; rw [if_neg (by omega)]; omega
                obtain ⟨x1, x2, x3⟩ := tkL_ok hR2 ⟨k0, by omega⟩ hT2 hT0 hT1
                rw [et] at x1 x2 x3
                refine ih14 _ (by omega) _ (k + 1) _ _ _ x1 x2 ((x3 3 (by omega)).trans hl) (by omega) (by omega) (by omega) hW2 hF2 ?_ ?_ rfl
                · rw [hv, tkr_b (by omega), et]
                · rw [hd, tkd_b (by omega), et, ev]
              · refine xv (x_aload_n 93 d_X6_tick_92 rfl rfl) ?_
                refine xv (x_aload_n 94 d_X6_tick_93 rfl rfl) ?_
                refine xv (x_getfield 97 d_X6_tick_94 rfl f_6_40 (Nat.le_of_ble_eq_true rfl) (Nat.le_of_ble_eq_true rfl) (q_gf_of (wh_o hW2) rfl)) ?_
                refine xv (x_iconst 98 d_X6_tick_97 rfl) ?_
                refine xv (x_iaload 99 d_X6_tick_98 rfl (ai_g (wh_s hW2) (by omega) (by omega) (by decide))) ?_
                obtain ⟨r99, h99, e99, z99, x99, y99⟩ := S_X5_charge (E := E) (wh_r (r := k) hW2 (by omega) (by omega)) (x := lk 5) (by omega) (by have := (gr k (by omega) (by omega)); omega)
                subst z99
                obtain ⟨w99, f99⟩ := wh_rw (r := k) hW2 (by omega) (by omega) x99 y99
                have F99 : Fr w 38 h h99 := fr_tr hF2 (fr_in f99 (by omega) (by omega))
                refine xv (x_inv0 102 (as := [Value.int (zi (lk 5))]) d_X6_tick_99 rfl c_6_171 rfl (Nat.le_of_ble_eq_true rfl) (Nat.le_of_ble_eq_true rfl) (wh_r hW2 (by omega) (by omega)).1 (Nat.le_of_ble_eq_true rfl) (Nat.le_of_ble_eq_true rfl) rfl e99) ?_
                show Xv E q_m_X6_tick 102 [Value.ref w, Value.int (zi d), Value.int (zi k), Value.ref (p k)] [] h99 Q
                refine xv (x_iinc 105 d_X6_tick_102 rfl rfl) ?_
                show Xv E q_m_X6_tick 105 [Value.ref w, Value.int (zi d), Value.int (zi (k + 1)), Value.ref (p k)] [] h99 Q
                refine xv (x_goto 14 d_X6_tick_105 rfl) ?_
                have et : tkL lk k = (rset lk k (u1 (rb lk k) 1 (min 99 (rb lk k 1 + (lk 5))))) := by unfold tkL; rw [if_neg (by omega), if_pos (by omega)]
                have ev : d + tkV lk k = d := by unfold tkV; rw [if_neg (by omega)]; omega
                obtain ⟨x1, x2, x3⟩ := tkL_ok hR2 ⟨k0, by omega⟩ hT2 hT0 hT1
                rw [et] at x1 x2 x3
                refine ih14 _ (by omega) _ (k + 1) _ _ _ x1 x2 ((x3 3 (by omega)).trans hl) (by omega) (by omega) (by omega) w99 F99 ?_ ?_ rfl
                · rw [hv, tkr_b (by omega), et]
                · rw [hd, tkd_b (by omega), et, ev]
          · refine xv (x_aload_n 43 d_X6_tick_42 rfl rfl) ?_
            obtain ⟨r43, h43, e43, z43, x43, y43⟩ := S_X5_goOn (E := E) (wh_r (r := k) hW2 (by omega) (by omega)) (gr k (by omega) (by omega)) (by omega) (by omega)
            subst z43
            obtain ⟨w43, f43⟩ := wh_rw (r := k) hW2 (by omega) (by omega) x43 y43
            have F43 : Fr w 38 h h43 := fr_tr hF2 (fr_in f43 (by omega) (by omega))
            refine xv (x_inv0 46 (as := []) d_X6_tick_43 rfl c_6_161 rfl (Nat.le_of_ble_eq_true rfl) (Nat.le_of_ble_eq_true rfl) (wh_r hW2 (by omega) (by omega)).1 (Nat.le_of_ble_eq_true rfl) (Nat.le_of_ble_eq_true rfl) rfl e43) ?_
            show Xv E q_m_X6_tick 46 [Value.ref w, Value.int (zi d), Value.int (zi k), Value.ref (p k)] [] h43 Q
            refine xv (x_iload_n 47 d_X6_tick_46 rfl rfl) ?_
            refine xv (x_aload_n 48 d_X6_tick_47 rfl rfl) ?_
            refine xv (x_getfield 51 d_X6_tick_48 rfl f_6_158 (Nat.le_of_ble_eq_true rfl) (Nat.le_of_ble_eq_true rfl) (q_gf_of (wh_r w43 (by omega) (by omega)).1 rfl)) ?_
            have q48 : rb (rset lk k (gon (rb lk k))) k 3 = rb lk k 3 - 1 := rset_eq (by omega) (by omega)
            refine v_if_ne 62 54 d_X6_tick_51 rfl rfl (by omega) (by omega) (fun k51 => ?_) (fun k51 => ?_)
            · refine xv (x_iconst 63 d_X6_tick_62 rfl) ?_
              refine xv (x_iadd 64 d_X6_tick_63 rfl) ?_
              refine xv (x_istore_n 65 d_X6_tick_64 rfl (Nat.le_of_ble_eq_true rfl)) ?_
              show Xv E q_m_X6_tick 65 [Value.ref w, Value.int (zi (d + 0)), Value.int (zi k), Value.ref (p k)] [] h43 Q
              refine xv (x_goto 102 d_X6_tick_65 rfl) ?_
              refine xv (x_iinc 105 d_X6_tick_102 rfl rfl) ?_
              show Xv E q_m_X6_tick 105 [Value.ref w, Value.int (zi (d + 0)), Value.int (zi (k + 1)), Value.ref (p k)] [] h43 Q
              refine xv (x_goto 14 d_X6_tick_105 rfl) ?_
              have et : tkL lk k = (rset lk k (gon (rb lk k))) := by unfold tkL; rw [if_pos (by omega), if_neg (by rw [show rb (tkm lk k) k 3 = rb lk k 3 - 1 from rset_eq (by omega) (by omega)]; omega)]; rfl
              have ev : d + tkV lk k = d + 0 := by unfold tkV; rw [if_neg (by rw [show rb (tkm lk k) k 3 = rb lk k 3 - 1 from rset_eq (by omega) (by omega)]; omega)]
              obtain ⟨x1, x2, x3⟩ := tkL_ok hR2 ⟨k0, by omega⟩ hT2 hT0 hT1
              rw [et] at x1 x2 x3
              refine ih14 _ (by omega) _ (k + 1) _ _ _ x1 x2 ((x3 3 (by omega)).trans hl) (by omega) (by omega) (by omega) w43 F43 ?_ ?_ rfl
              · rw [hv, tkr_b (by omega), et]
              · rw [hd, tkd_b (by omega), et, ev]
            · have k51m : rb (tkm lk k) k 3 = 0 := k51
              have hR3 : RgC (tkm lk k) := rgc_rset hR2 ⟨k0, by omega⟩ (gon_rf (rgc_r hR2 ⟨k0, by omega⟩) (by omega) (by have := (hT2.2.1 k k0 (by omega)).2 (by omega); have := gr k (by omega) (by omega); omega) (by have := (hT2.2.1 k k0 (by omega)).2 (by omega); omega))
              refine xv (x_aload_n 55 d_X6_tick_54 rfl rfl) ?_
              refine xv (x_aload_n 56 d_X6_tick_55 rfl rfl) ?_
              obtain ⟨r56, h56, e56, z56, w56, f56⟩ := S_X6_endPlan (E := E) w43 hR3 (r := k) ⟨k0, by have e : rset lk k (gon (rb lk k)) 3 = lk 3 := rset_o (by omega); omega⟩
              subst z56
              have q56 := @epV_r (tkm lk k) k
              have F56 : Fr w 38 h h56 := fr_tr F43 (fr_in f56 (by omega) (by omega))
              refine xv (x_inv1 59 (as := [Value.ref (p k)]) d_X6_tick_56 rfl c_6_164 rfl (Nat.le_of_ble_eq_true rfl) (Nat.le_of_ble_eq_true rfl) (wh_o w43) (Nat.le_of_ble_eq_true rfl) (Nat.le_of_ble_eq_true rfl) rfl e56) ?_
              show Xv E q_m_X6_tick 59 [Value.ref w, Value.int (zi d), Value.int (zi k), Value.ref (p k)] [Value.int (zi (epV (tkm lk k) k)), Value.int (zi d)] h56 Q
              refine xv (x_goto 63 d_X6_tick_59 rfl) ?_
              refine xv (x_iadd 64 d_X6_tick_63 rfl) ?_
              refine xv (x_istore_n 65 d_X6_tick_64 rfl (Nat.le_of_ble_eq_true rfl)) ?_
              show Xv E q_m_X6_tick 65 [Value.ref w, Value.int (zi (d + (epV (tkm lk k) k))), Value.int (zi k), Value.ref (p k)] [] h56 Q
              refine xv (x_goto 102 d_X6_tick_65 rfl) ?_
              refine xv (x_iinc 105 d_X6_tick_102 rfl rfl) ?_
              show Xv E q_m_X6_tick 105 [Value.ref w, Value.int (zi (d + (epV (tkm lk k) k))), Value.int (zi (k + 1)), Value.ref (p k)] [] h56 Q
              refine xv (x_goto 14 d_X6_tick_105 rfl) ?_
              have et : tkL lk k = (epL (tkm lk k) k) := by unfold tkL; rw [if_pos (by omega), if_pos (by omega)]
              have ev : d + tkV lk k = d + (epV (tkm lk k) k) := by unfold tkV; rw [if_pos (by omega)]
              obtain ⟨x1, x2, x3⟩ := tkL_ok hR2 ⟨k0, by omega⟩ hT2 hT0 hT1
              rw [et] at x1 x2 x3
              refine ih14 _ (by omega) _ (k + 1) _ _ _ x1 x2 ((x3 3 (by omega)).trans hl) (by omega) (by omega) (by omega) w56 F56 ?_ ?_ rfl
              · rw [hv, tkr_b (by omega), et]
              · rw [hd, tkd_b (by omega), et, ev]
  exact L14 _ 0 0 _ _ _ hRn hT (u1_ne (by omega)) (by omega) (by omega) (by omega) w7 F7 (by rw [Int.sub_zero]) (by rw [Int.sub_zero]) rfl
end CK
