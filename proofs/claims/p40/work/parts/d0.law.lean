/-! the object as the law has it; the law's helpers (printed by program) -/
/-- from h0 to h: the object's own places may be others, k exceptions at most were made -/
def Fy (x : Nat) (h0 : q_H) (k : Int) (h : q_H) : Prop := (∀ a, a < x ∨ x + 444 ≤ a → h.1 a = h0.1 a) ∧ ∃ j : Nat, (j : Int) ≤ k ∧ h.2.1 = h0.2.1.map (· + j) ∧ h.2.2.1 = h0.2.2.1 + j ∧ h.2.2.2 = h0.2.2.2 + 6 * j
section FYX
variable {E : q_E} {M M' : q_M} {h h' h0 h1 : q_H} {x N b : Nat} {l ls c : Int → Int} {kl : Int → Int → Int} {nx ct n hs fa kr kd_ k k' v y z : Int} {vs : List Value} {e : String} {o : Sum String Int} {fs : List Value}
theorem fy_rf (hk : 0 ≤ k) : Fy x h k h := ⟨fun _ _ => rfl, 0, hk, by cases h.2.1 <;> rfl, rfl, rfl⟩
theorem fy_tr (A : Fy x h0 k h) (B : Fy x h k' h') : Fy x h0 (k + k') h' := by
  obtain ⟨a1, j, a2, a3, a4, a5⟩ := A
  obtain ⟨b1, i, b2, b3, b4, b5⟩ := B
  refine ⟨fun a q => (b1 a q).trans (a1 a q), j + i, by omega, ?_, by omega, by omega⟩
  rw [b3, a3]
  cases h0.2.1 with
  | none => rfl
  | some t => exact congrArg some (by show t + j + i = t + (j + i); omega)
theorem fy_mo (A : Fy x h0 k h) (hk : k ≤ k') : Fy x h0 k' h := by
  obtain ⟨a1, j, a2, a3⟩ := A
  exact ⟨a1, j, by omega, a3⟩
theorem fy_fr (F : Fr x 444 h h') : Fy x h 0 h' := by
  obtain ⟨a1, a2⟩ := F
  refine ⟨a2, 0, Int.le_refl 0, ?_, ?_, ?_⟩
  · rw [a1]; cases h.2.1 <;> rfl
  · rw [a1]; rfl
  · rw [a1]; rfl
theorem fy_th (F : Fr x 444 h h') : Fy x h 1 (thr_ h') := by
  obtain ⟨a1, a2⟩ := F
  refine ⟨a2, 1, Int.le_refl 1, ?_, ?_, ?_⟩
  · show h'.2.1.map (· + 1) = _; rw [a1]
  · show h'.2.2.1 + 1 = _; rw [a1]
  · show h'.2.2.2 + 6 = _; rw [a1]
theorem fy_lo (A : Fy x h0 k h) (hL : Lo h0 N) (hN : N ≤ x) : Lo h N := fun a ha => (A.1 a (Or.inl (by omega))).trans (hL a ha)
/-- the object is as told, k exceptions at most since h0 -/
def CX (x : Nat) (l ls : Int → Int) (nx ct : Int) (kl : Int → Int → Int) (n : Int) (c : Int → Int) (hs fa kr kd_ : Int) (h0 : q_H) (k : Int) (h : q_H) : Prop := CA h x l ls nx ct kl n c hs fa kr kd_ ∧ Fy x h0 k h
theorem cx_o (C : CX x l ls nx ct kl n c hs fa kr kd_ h0 k h) : ∃ fs, h.1 x = some (.inr (7, fs)) := ⟨_, C.1.1⟩
theorem cx_mo (C : CX x l ls nx ct kl n c hs fa kr kd_ h0 k h) (hk : k ≤ k') : CX x l ls nx ct kl n c hs fa kr kd_ h0 k' h := ⟨C.1, fy_mo C.2 hk⟩
theorem cx_rd (C : CX x l ls nx ct kl n c hs fa kr kd_ h0 k h) (H : ∃ r_ h', q_cl E M vs h = some (r_, h') ∧ RDx h x l ls nx ct kl n c hs fa kr kd_ o r_ h') (ho : o = .inr v) : ∃ h', q_cl E M vs h = some (.inl (some (.int (zi v))), h') ∧ CX x l ls nx ct kl n c hs fa kr kd_ h0 k h' := by
  obtain ⟨r, h', e1, g, hC, hF, hD⟩ := H
  rw [ho] at hD
  obtain ⟨d1, d2⟩ := hD
  rw [d1, d2] at e1
  exact ⟨g, e1, hC, fy_mo (fy_tr C.2 (fy_fr hF)) (by omega)⟩
theorem cx_rx (C : CX x l ls nx ct kl n c hs fa kr kd_ h0 k h) (H : ∃ r_ h', q_cl E M vs h = some (r_, h') ∧ RDx h x l ls nx ct kl n c hs fa kr kd_ o r_ h') (ho : o = .inl e) : ∃ h', q_cl E M vs h = some (.inr e, h') ∧ CX x l ls nx ct kl n c hs fa kr kd_ h0 (k + 1) h' := by
  obtain ⟨r, h', e1, g, hC, hF, hD⟩ := H
  rw [ho] at hD
  obtain ⟨d1, d2⟩ := hD
  rw [d1, d2] at e1
  exact ⟨thr_ g, e1, hC, fy_tr C.2 (fy_th hF)⟩
/-- a helper of the law: what the object's method returns goes through, -1 or -2 for what it throws -/
def wr1 (xs : List (String × Int)) (o : Sum String Int) : Int := match o with
  | .inr v => v
  | .inl e => (xs.find? fun q => q.1 == e).elim 0 fun q => q.2
end FYX
section HDL
variable {E : q_E} {M M' : q_M} {pc pc' hp : Nat} {ls ls' st : List Value} {h h' : q_H} {e : String}
theorem x_callH {c : q_M × Nat × List Value × List Value} (hs : q_step E M pc ls st h = some (.inr (.inl c))) (hj : ¬ c.2.1 = 2) (hc : q_cl E c.1 c.2.2.1 h = some (.inr e, h')) (hh : q_hd M e pc (q_hnd M) = some (some hp)) (ht : q_hst M hp ls = some (pc', ls')) : q_ex E M pc ls st h = q_ex E M pc' ls' [] h' := by
  rw [q_ex_step, hs]
  show q_bk (q_ex E) M pc ls c.2.1 c.2.2.2 (q_ex E c.1 0 (q_ent c.1 c.2.2.1) [] h) = _
  rw [show q_ex E c.1 0 (q_ent c.1 c.2.2.1) [] h = some (.inr e, h') from hc]
  unfold q_bk
  simp only [hh, ht, if_neg hj]
theorem x_invH (pc' : Nat) {ix n b : Nat} {ps : Nat × Nat × Nat × Nat} {as rest fs : List Value} (hd : decode M.2.1 pc = .ok (.invokevirtual ix, 3)) (hf : q_lk (q_cal (q_own M)) ix = some (1, n, M', ps)) (hn : as.length = n) (ho : q_own M' < 9) (hg : q_hgt M' < q_hgt M) (hb : h.1 b = some (.inr (q_own M', fs))) (hcat : q_cat rest ≤ 8) (hl : (q_exp (.ref b :: as)).length ≤ M'.2.2.1)
    (hst : st = as.reverse ++ .ref b :: rest) (hc : q_cl E M' (.ref b :: as) h = some (.inr e, h')) (hh : q_hd M e pc (q_hnd M) = some (some hp)) (ht : q_hst M hp ls = some (pc', ls')) : q_ex E M pc ls st h = q_ex E M pc' ls' [] h' := by
  subst hst; subst hn
  refine x_callH (c := (M', 1, .ref b :: as, rest)) ?_ (by show ¬ (1 : Nat) = 2; decide) hc hh ht
  rw [x_st hd]
  simp only [q_stepI, hf]
  rw [if_pos ⟨trivial, trivial⟩]
  have e1 : (as.reverse ++ .ref b :: rest).take as.length = as.reverse := by rw [← List.length_reverse, List.take_left]
  have e2 : (as.reverse ++ .ref b :: rest).drop as.length = .ref b :: rest := by rw [← List.length_reverse, List.drop_left]
  unfold q_call
  rw [if_pos ⟨hg, by simp⟩]
  simp only [e1, e2, List.reverse_reverse, hb]
  rw [if_pos ⟨hcat, hl⟩, if_pos ⟨(q_rc_lt _ ho).symm, by omega⟩]
theorem hst_a {k : Nat} (hd : decode M.2.1 hp = .ok (.astore k, 2)) (hk : k < ls.length) : q_hst M hp ls = some (hp + 2, q_st1 ls k .null) := by
  unfold q_hst
  rw [hd]
  exact if_pos hk
theorem hst_n {k : Fin 4} (hd : decode M.2.1 hp = .ok (.astore_n k, 1)) (hk : (k : Nat) < ls.length) : q_hst M hp ls = some (hp + 1, q_st1 ls (k : Nat) .null) := by
  unfold q_hst
  rw [hd]
  exact if_pos hk
end HDL
section WRP
variable {E : q_E} {h h' : q_H} {x : Nat} {p0 p1 p2 p3 : Value} {v : Int} {fs : List Value}
theorem V_append_r {p0 : Int} (ho : h.1 x = some (.inr (7, fs))) (hc : q_cl E q_m_X7_append [.ref x, .int (zi p0)] h = some (.inl (some (.int (zi v))), h')) : q_cl E q_m_L_append [.ref x, .int (zi p0)] h = some (.inl (some (.int (zi v))), h') := by
  suffices K : ∀ Q : q_R → q_H → Prop, Q (.inl (some (Value.int (zi v)))) h' → Xv E q_m_L_append 0 [Value.ref x, .int (zi p0), .null] [] h Q by
    obtain ⟨r_, g_, a_, b_, c_⟩ := K (fun r_ g_ => r_ = .inl (some (Value.int (zi v))) ∧ g_ = h') ⟨rfl, rfl⟩
    subst b_; subst c_; exact a_
  intro Q hQ
  refine xv (x_aload_n 1 d_L_append_0 rfl rfl) ?_
  refine xv (x_iload_n 2 d_L_append_1 rfl rfl) ?_
  refine xv (x_inv1 5 (as := [.int (zi p0)]) d_L_append_2 rfl c_9_8 rfl (Nat.le_of_ble_eq_true rfl) (Nat.le_of_ble_eq_true rfl) ho (Nat.le_of_ble_eq_true rfl) (Nat.le_of_ble_eq_true rfl) rfl hc) ?_
  refine xv_r (x_ireturn d_L_append_5 rfl rfl) ?_
  exact hQ
theorem V_append_xIS {p0 : Int} (ho : h.1 x = some (.inr (7, fs))) (hc : q_cl E q_m_X7_append [.ref x, .int (zi p0)] h = some (.inr xIS, h')) : q_cl E q_m_L_append [.ref x, .int (zi p0)] h = some (.inl (some (.int (zi (-1)))), h') := by
  suffices K : ∀ Q : q_R → q_H → Prop, Q (.inl (some (Value.int (zi (-1))))) h' → Xv E q_m_L_append 0 [Value.ref x, .int (zi p0), .null] [] h Q by
    obtain ⟨r_, g_, a_, b_, c_⟩ := K (fun r_ g_ => r_ = .inl (some (Value.int (zi (-1)))) ∧ g_ = h') ⟨rfl, rfl⟩
    subst b_; subst c_; exact a_
  intro Q hQ
  refine xv (x_aload_n 1 d_L_append_0 rfl rfl) ?_
  refine xv (x_iload_n 2 d_L_append_1 rfl rfl) ?_
  refine xv (x_invH 7 (as := [.int (zi p0)]) (rest := []) (hp := 6) d_L_append_2 c_9_8 rfl (Nat.le_of_ble_eq_true rfl) (Nat.le_of_ble_eq_true rfl) ho (Nat.le_of_ble_eq_true rfl) (Nat.le_of_ble_eq_true rfl) rfl hc (by decide +kernel) (hst_n d_L_append_6 (Nat.le_of_ble_eq_true rfl))) ?_
  refine xv (x_iconst 8 d_L_append_7 rfl) ?_
  refine xv_r (x_ireturn d_L_append_8 rfl rfl) ?_
  exact hQ
theorem V_layout_r (ho : h.1 x = some (.inr (7, fs))) (hc : q_cl E q_m_X7_layout [.ref x] h = some (.inl (some (.int (zi v))), h')) : q_cl E q_m_L_layout [.ref x] h = some (.inl (some (.int (zi v))), h') := by
  suffices K : ∀ Q : q_R → q_H → Prop, Q (.inl (some (Value.int (zi v)))) h' → Xv E q_m_L_layout 0 [Value.ref x, .null] [] h Q by
    obtain ⟨r_, g_, a_, b_, c_⟩ := K (fun r_ g_ => r_ = .inl (some (Value.int (zi v))) ∧ g_ = h') ⟨rfl, rfl⟩
    subst b_; subst c_; exact a_
  intro Q hQ
  refine xv (x_aload_n 1 d_L_layout_0 rfl rfl) ?_
  refine xv (x_inv1 4 (as := []) d_L_layout_1 rfl c_9_16 rfl (Nat.le_of_ble_eq_true rfl) (Nat.le_of_ble_eq_true rfl) ho (Nat.le_of_ble_eq_true rfl) (Nat.le_of_ble_eq_true rfl) rfl hc) ?_
  refine xv_r (x_ireturn d_L_layout_4 rfl rfl) ?_
  exact hQ
theorem V_layout_xIA (ho : h.1 x = some (.inr (7, fs))) (hc : q_cl E q_m_X7_layout [.ref x] h = some (.inr xIA, h')) : q_cl E q_m_L_layout [.ref x] h = some (.inl (some (.int (zi (-1)))), h') := by
  suffices K : ∀ Q : q_R → q_H → Prop, Q (.inl (some (Value.int (zi (-1))))) h' → Xv E q_m_L_layout 0 [Value.ref x, .null] [] h Q by
    obtain ⟨r_, g_, a_, b_, c_⟩ := K (fun r_ g_ => r_ = .inl (some (Value.int (zi (-1)))) ∧ g_ = h') ⟨rfl, rfl⟩
    subst b_; subst c_; exact a_
  intro Q hQ
  refine xv (x_aload_n 1 d_L_layout_0 rfl rfl) ?_
  refine xv (x_invH 6 (as := []) (rest := []) (hp := 5) d_L_layout_1 c_9_16 rfl (Nat.le_of_ble_eq_true rfl) (Nat.le_of_ble_eq_true rfl) ho (Nat.le_of_ble_eq_true rfl) (Nat.le_of_ble_eq_true rfl) rfl hc (by decide +kernel) (hst_n d_L_layout_5 (Nat.le_of_ble_eq_true rfl))) ?_
  refine xv (x_iconst 7 d_L_layout_6 rfl) ?_
  refine xv_r (x_ireturn d_L_layout_7 rfl rfl) ?_
  exact hQ
theorem V_add_r {p0 : Int} {p1 : Int} (ho : h.1 x = some (.inr (7, fs))) (hc : q_cl E q_m_X7_add [.ref x, .int (zi p0), .int (zi p1)] h = some (.inl (some (.int (zi v))), h')) : q_cl E q_m_L_add [.ref x, .int (zi p0), .int (zi p1)] h = some (.inl (some (.int (zi v))), h') := by
  suffices K : ∀ Q : q_R → q_H → Prop, Q (.inl (some (Value.int (zi v)))) h' → Xv E q_m_L_add 0 [Value.ref x, .int (zi p0), .int (zi p1), .null] [] h Q by
    obtain ⟨r_, g_, a_, b_, c_⟩ := K (fun r_ g_ => r_ = .inl (some (Value.int (zi v))) ∧ g_ = h') ⟨rfl, rfl⟩
    subst b_; subst c_; exact a_
  intro Q hQ
  refine xv (x_aload_n 1 d_L_add_0 rfl rfl) ?_
  refine xv (x_iload_n 2 d_L_add_1 rfl rfl) ?_
  refine xv (x_iload_n 3 d_L_add_2 rfl rfl) ?_
  refine xv (x_inv1 6 (as := [.int (zi p0), .int (zi p1)]) d_L_add_3 rfl c_9_39 rfl (Nat.le_of_ble_eq_true rfl) (Nat.le_of_ble_eq_true rfl) ho (Nat.le_of_ble_eq_true rfl) (Nat.le_of_ble_eq_true rfl) rfl hc) ?_
  refine xv_r (x_ireturn d_L_add_6 rfl rfl) ?_
  exact hQ
theorem V_add_xUO {p0 : Int} {p1 : Int} (ho : h.1 x = some (.inr (7, fs))) (hc : q_cl E q_m_X7_add [.ref x, .int (zi p0), .int (zi p1)] h = some (.inr xUO, h')) : q_cl E q_m_L_add [.ref x, .int (zi p0), .int (zi p1)] h = some (.inl (some (.int (zi (-1)))), h') := by
  suffices K : ∀ Q : q_R → q_H → Prop, Q (.inl (some (Value.int (zi (-1))))) h' → Xv E q_m_L_add 0 [Value.ref x, .int (zi p0), .int (zi p1), .null] [] h Q by
    obtain ⟨r_, g_, a_, b_, c_⟩ := K (fun r_ g_ => r_ = .inl (some (Value.int (zi (-1)))) ∧ g_ = h') ⟨rfl, rfl⟩
    subst b_; subst c_; exact a_
  intro Q hQ
  refine xv (x_aload_n 1 d_L_add_0 rfl rfl) ?_
  refine xv (x_iload_n 2 d_L_add_1 rfl rfl) ?_
  refine xv (x_iload_n 3 d_L_add_2 rfl rfl) ?_
  refine xv (x_invH 8 (as := [.int (zi p0), .int (zi p1)]) (rest := []) (hp := 7) d_L_add_3 c_9_39 rfl (Nat.le_of_ble_eq_true rfl) (Nat.le_of_ble_eq_true rfl) ho (Nat.le_of_ble_eq_true rfl) (Nat.le_of_ble_eq_true rfl) rfl hc (by decide +kernel) (hst_n d_L_add_7 (Nat.le_of_ble_eq_true rfl))) ?_
  refine xv (x_iconst 9 d_L_add_8 rfl) ?_
  refine xv_r (x_ireturn d_L_add_9 rfl rfl) ?_
  exact hQ
theorem V_takeOff_r {p0 : Int} (ho : h.1 x = some (.inr (7, fs))) (hc : q_cl E q_m_X7_takeOff [.ref x, .int (zi p0)] h = some (.inl (some (.int (zi v))), h')) : q_cl E q_m_L_takeOff [.ref x, .int (zi p0)] h = some (.inl (some (.int (zi v))), h') := by
  suffices K : ∀ Q : q_R → q_H → Prop, Q (.inl (some (Value.int (zi v)))) h' → Xv E q_m_L_takeOff 0 [Value.ref x, .int (zi p0), .null] [] h Q by
    obtain ⟨r_, g_, a_, b_, c_⟩ := K (fun r_ g_ => r_ = .inl (some (Value.int (zi v))) ∧ g_ = h') ⟨rfl, rfl⟩
    subst b_; subst c_; exact a_
  intro Q hQ
  refine xv (x_aload_n 1 d_L_takeOff_0 rfl rfl) ?_
  refine xv (x_iload_n 2 d_L_takeOff_1 rfl rfl) ?_
  refine xv (x_inv1 5 (as := [.int (zi p0)]) d_L_takeOff_2 rfl c_9_45 rfl (Nat.le_of_ble_eq_true rfl) (Nat.le_of_ble_eq_true rfl) ho (Nat.le_of_ble_eq_true rfl) (Nat.le_of_ble_eq_true rfl) rfl hc) ?_
  refine xv_r (x_ireturn d_L_takeOff_5 rfl rfl) ?_
  exact hQ
theorem V_takeOff_xUO {p0 : Int} (ho : h.1 x = some (.inr (7, fs))) (hc : q_cl E q_m_X7_takeOff [.ref x, .int (zi p0)] h = some (.inr xUO, h')) : q_cl E q_m_L_takeOff [.ref x, .int (zi p0)] h = some (.inl (some (.int (zi (-1)))), h') := by
  suffices K : ∀ Q : q_R → q_H → Prop, Q (.inl (some (Value.int (zi (-1))))) h' → Xv E q_m_L_takeOff 0 [Value.ref x, .int (zi p0), .null] [] h Q by
    obtain ⟨r_, g_, a_, b_, c_⟩ := K (fun r_ g_ => r_ = .inl (some (Value.int (zi (-1)))) ∧ g_ = h') ⟨rfl, rfl⟩
    subst b_; subst c_; exact a_
  intro Q hQ
  refine xv (x_aload_n 1 d_L_takeOff_0 rfl rfl) ?_
  refine xv (x_iload_n 2 d_L_takeOff_1 rfl rfl) ?_
  refine xv (x_invH 7 (as := [.int (zi p0)]) (rest := []) (hp := 6) d_L_takeOff_2 c_9_45 rfl (Nat.le_of_ble_eq_true rfl) (Nat.le_of_ble_eq_true rfl) ho (Nat.le_of_ble_eq_true rfl) (Nat.le_of_ble_eq_true rfl) rfl hc (by decide +kernel) (hst_n d_L_takeOff_6 (Nat.le_of_ble_eq_true rfl))) ?_
  refine xv (x_iconst 8 d_L_takeOff_7 rfl) ?_
  refine xv_r (x_ireturn d_L_takeOff_8 rfl rfl) ?_
  exact hQ
theorem V_order_r {p0 : Int} {p1 : Int} {p2 : Int} {p3 : Int} (ho : h.1 x = some (.inr (7, fs))) (hc : q_cl E q_m_X7_order [.ref x, .int (zi p0), .int (zi p1), .int (zi p2), .int (zi p3)] h = some (.inl (some (.int (zi v))), h')) : q_cl E q_m_L_order [.ref x, .int (zi p0), .int (zi p1), .int (zi p2), .int (zi p3)] h = some (.inl (some (.int (zi v))), h') := by
  suffices K : ∀ Q : q_R → q_H → Prop, Q (.inl (some (Value.int (zi v)))) h' → Xv E q_m_L_order 0 [Value.ref x, .int (zi p0), .int (zi p1), .int (zi p2), .int (zi p3), .null] [] h Q by
    obtain ⟨r_, g_, a_, b_, c_⟩ := K (fun r_ g_ => r_ = .inl (some (Value.int (zi v))) ∧ g_ = h') ⟨rfl, rfl⟩
    subst b_; subst c_; exact a_
  intro Q hQ
  refine xv (x_aload_n 1 d_L_order_0 rfl rfl) ?_
  refine xv (x_iload_n 2 d_L_order_1 rfl rfl) ?_
  refine xv (x_iload_n 3 d_L_order_2 rfl rfl) ?_
  refine xv (x_iload_n 4 d_L_order_3 rfl rfl) ?_
  refine xv (x_iload 6 d_L_order_4 rfl rfl) ?_
  refine xv (x_inv1 9 (as := [.int (zi p0), .int (zi p1), .int (zi p2), .int (zi p3)]) d_L_order_6 rfl c_9_49 rfl (Nat.le_of_ble_eq_true rfl) (Nat.le_of_ble_eq_true rfl) ho (Nat.le_of_ble_eq_true rfl) (Nat.le_of_ble_eq_true rfl) rfl hc) ?_
  refine xv_r (x_ireturn d_L_order_9 rfl rfl) ?_
  exact hQ
theorem V_order_xUO {p0 : Int} {p1 : Int} {p2 : Int} {p3 : Int} (ho : h.1 x = some (.inr (7, fs))) (hc : q_cl E q_m_X7_order [.ref x, .int (zi p0), .int (zi p1), .int (zi p2), .int (zi p3)] h = some (.inr xUO, h')) : q_cl E q_m_L_order [.ref x, .int (zi p0), .int (zi p1), .int (zi p2), .int (zi p3)] h = some (.inl (some (.int (zi (-1)))), h') := by
  suffices K : ∀ Q : q_R → q_H → Prop, Q (.inl (some (Value.int (zi (-1))))) h' → Xv E q_m_L_order 0 [Value.ref x, .int (zi p0), .int (zi p1), .int (zi p2), .int (zi p3), .null] [] h Q by
    obtain ⟨r_, g_, a_, b_, c_⟩ := K (fun r_ g_ => r_ = .inl (some (Value.int (zi (-1)))) ∧ g_ = h') ⟨rfl, rfl⟩
    subst b_; subst c_; exact a_
  intro Q hQ
  refine xv (x_aload_n 1 d_L_order_0 rfl rfl) ?_
  refine xv (x_iload_n 2 d_L_order_1 rfl rfl) ?_
  refine xv (x_iload_n 3 d_L_order_2 rfl rfl) ?_
  refine xv (x_iload_n 4 d_L_order_3 rfl rfl) ?_
  refine xv (x_iload 6 d_L_order_4 rfl rfl) ?_
  refine xv (x_invH 12 (as := [.int (zi p0), .int (zi p1), .int (zi p2), .int (zi p3)]) (rest := []) (hp := 10) d_L_order_6 c_9_49 rfl (Nat.le_of_ble_eq_true rfl) (Nat.le_of_ble_eq_true rfl) ho (Nat.le_of_ble_eq_true rfl) (Nat.le_of_ble_eq_true rfl) rfl hc (by decide +kernel) (hst_a d_L_order_10 (Nat.le_of_ble_eq_true rfl))) ?_
  refine xv (x_iconst 13 d_L_order_12 rfl) ?_
  refine xv_r (x_ireturn d_L_order_13 rfl rfl) ?_
  exact hQ
theorem V_assign_r {p0 : Int} {p1 : Int} (ho : h.1 x = some (.inr (7, fs))) (hc : q_cl E q_m_X7_assign [.ref x, .int (zi p0), .int (zi p1)] h = some (.inl (some (.int (zi v))), h')) : q_cl E q_m_L_assign [.ref x, .int (zi p0), .int (zi p1)] h = some (.inl (some (.int (zi v))), h') := by
  suffices K : ∀ Q : q_R → q_H → Prop, Q (.inl (some (Value.int (zi v)))) h' → Xv E q_m_L_assign 0 [Value.ref x, .int (zi p0), .int (zi p1), .null] [] h Q by
    obtain ⟨r_, g_, a_, b_, c_⟩ := K (fun r_ g_ => r_ = .inl (some (Value.int (zi v))) ∧ g_ = h') ⟨rfl, rfl⟩
    subst b_; subst c_; exact a_
  intro Q hQ
  refine xv (x_aload_n 1 d_L_assign_0 rfl rfl) ?_
  refine xv (x_iload_n 2 d_L_assign_1 rfl rfl) ?_
  refine xv (x_iload_n 3 d_L_assign_2 rfl rfl) ?_
  refine xv (x_inv1 6 (as := [.int (zi p0), .int (zi p1)]) d_L_assign_3 rfl c_9_53 rfl (Nat.le_of_ble_eq_true rfl) (Nat.le_of_ble_eq_true rfl) ho (Nat.le_of_ble_eq_true rfl) (Nat.le_of_ble_eq_true rfl) rfl hc) ?_
  refine xv_r (x_ireturn d_L_assign_6 rfl rfl) ?_
  exact hQ
theorem V_assign_xUO {p0 : Int} {p1 : Int} (ho : h.1 x = some (.inr (7, fs))) (hc : q_cl E q_m_X7_assign [.ref x, .int (zi p0), .int (zi p1)] h = some (.inr xUO, h')) : q_cl E q_m_L_assign [.ref x, .int (zi p0), .int (zi p1)] h = some (.inl (some (.int (zi (-1)))), h') := by
  suffices K : ∀ Q : q_R → q_H → Prop, Q (.inl (some (Value.int (zi (-1))))) h' → Xv E q_m_L_assign 0 [Value.ref x, .int (zi p0), .int (zi p1), .null] [] h Q by
    obtain ⟨r_, g_, a_, b_, c_⟩ := K (fun r_ g_ => r_ = .inl (some (Value.int (zi (-1)))) ∧ g_ = h') ⟨rfl, rfl⟩
    subst b_; subst c_; exact a_
  intro Q hQ
  refine xv (x_aload_n 1 d_L_assign_0 rfl rfl) ?_
  refine xv (x_iload_n 2 d_L_assign_1 rfl rfl) ?_
  refine xv (x_iload_n 3 d_L_assign_2 rfl rfl) ?_
  refine xv (x_invH 8 (as := [.int (zi p0), .int (zi p1)]) (rest := []) (hp := 7) d_L_assign_3 c_9_53 rfl (Nat.le_of_ble_eq_true rfl) (Nat.le_of_ble_eq_true rfl) ho (Nat.le_of_ble_eq_true rfl) (Nat.le_of_ble_eq_true rfl) rfl hc (by decide +kernel) (hst_n d_L_assign_7 (Nat.le_of_ble_eq_true rfl))) ?_
  refine xv (x_iconst 9 d_L_assign_8 rfl) ?_
  refine xv_r (x_ireturn d_L_assign_9 rfl rfl) ?_
  exact hQ
theorem V_release_r {p0 : Int} (ho : h.1 x = some (.inr (7, fs))) (hc : q_cl E q_m_X7_release [.ref x, .int (zi p0)] h = some (.inl (some (.int (zi v))), h')) : q_cl E q_m_L_release [.ref x, .int (zi p0)] h = some (.inl (some (.int (zi v))), h') := by
  suffices K : ∀ Q : q_R → q_H → Prop, Q (.inl (some (Value.int (zi v)))) h' → Xv E q_m_L_release 0 [Value.ref x, .int (zi p0), .null] [] h Q by
    obtain ⟨r_, g_, a_, b_, c_⟩ := K (fun r_ g_ => r_ = .inl (some (Value.int (zi v))) ∧ g_ = h') ⟨rfl, rfl⟩
    subst b_; subst c_; exact a_
  intro Q hQ
  refine xv (x_aload_n 1 d_L_release_0 rfl rfl) ?_
  refine xv (x_iload_n 2 d_L_release_1 rfl rfl) ?_
  refine xv (x_inv1 5 (as := [.int (zi p0)]) d_L_release_2 rfl c_9_56 rfl (Nat.le_of_ble_eq_true rfl) (Nat.le_of_ble_eq_true rfl) ho (Nat.le_of_ble_eq_true rfl) (Nat.le_of_ble_eq_true rfl) rfl hc) ?_
  refine xv_r (x_ireturn d_L_release_5 rfl rfl) ?_
  exact hQ
theorem V_release_xUO {p0 : Int} (ho : h.1 x = some (.inr (7, fs))) (hc : q_cl E q_m_X7_release [.ref x, .int (zi p0)] h = some (.inr xUO, h')) : q_cl E q_m_L_release [.ref x, .int (zi p0)] h = some (.inl (some (.int (zi (-2)))), h') := by
  suffices K : ∀ Q : q_R → q_H → Prop, Q (.inl (some (Value.int (zi (-2))))) h' → Xv E q_m_L_release 0 [Value.ref x, .int (zi p0), .null] [] h Q by
    obtain ⟨r_, g_, a_, b_, c_⟩ := K (fun r_ g_ => r_ = .inl (some (Value.int (zi (-2)))) ∧ g_ = h') ⟨rfl, rfl⟩
    subst b_; subst c_; exact a_
  intro Q hQ
  refine xv (x_aload_n 1 d_L_release_0 rfl rfl) ?_
  refine xv (x_iload_n 2 d_L_release_1 rfl rfl) ?_
  refine xv (x_invH 7 (as := [.int (zi p0)]) (rest := []) (hp := 6) d_L_release_2 c_9_56 rfl (Nat.le_of_ble_eq_true rfl) (Nat.le_of_ble_eq_true rfl) ho (Nat.le_of_ble_eq_true rfl) (Nat.le_of_ble_eq_true rfl) rfl hc (by decide +kernel) (hst_n d_L_release_6 (Nat.le_of_ble_eq_true rfl))) ?_
  refine xv (x_bipush 9 d_L_release_7 rfl rfl) ?_
  refine xv_r (x_ireturn d_L_release_9 rfl rfl) ?_
  exact hQ
theorem V_close_r {p0 : Int} (ho : h.1 x = some (.inr (7, fs))) (hc : q_cl E q_m_X7_close [.ref x, .int (zi p0)] h = some (.inl (some (.int (zi v))), h')) : q_cl E q_m_L_close [.ref x, .int (zi p0)] h = some (.inl (some (.int (zi v))), h') := by
  suffices K : ∀ Q : q_R → q_H → Prop, Q (.inl (some (Value.int (zi v)))) h' → Xv E q_m_L_close 0 [Value.ref x, .int (zi p0), .null] [] h Q by
    obtain ⟨r_, g_, a_, b_, c_⟩ := K (fun r_ g_ => r_ = .inl (some (Value.int (zi v))) ∧ g_ = h') ⟨rfl, rfl⟩
    subst b_; subst c_; exact a_
  intro Q hQ
  refine xv (x_aload_n 1 d_L_close_0 rfl rfl) ?_
  refine xv (x_iload_n 2 d_L_close_1 rfl rfl) ?_
  refine xv (x_inv1 5 (as := [.int (zi p0)]) d_L_close_2 rfl c_9_59 rfl (Nat.le_of_ble_eq_true rfl) (Nat.le_of_ble_eq_true rfl) ho (Nat.le_of_ble_eq_true rfl) (Nat.le_of_ble_eq_true rfl) rfl hc) ?_
  refine xv_r (x_ireturn d_L_close_5 rfl rfl) ?_
  exact hQ
theorem V_close_xUO {p0 : Int} (ho : h.1 x = some (.inr (7, fs))) (hc : q_cl E q_m_X7_close [.ref x, .int (zi p0)] h = some (.inr xUO, h')) : q_cl E q_m_L_close [.ref x, .int (zi p0)] h = some (.inl (some (.int (zi (-1)))), h') := by
  suffices K : ∀ Q : q_R → q_H → Prop, Q (.inl (some (Value.int (zi (-1))))) h' → Xv E q_m_L_close 0 [Value.ref x, .int (zi p0), .null] [] h Q by
    obtain ⟨r_, g_, a_, b_, c_⟩ := K (fun r_ g_ => r_ = .inl (some (Value.int (zi (-1)))) ∧ g_ = h') ⟨rfl, rfl⟩
    subst b_; subst c_; exact a_
  intro Q hQ
  refine xv (x_aload_n 1 d_L_close_0 rfl rfl) ?_
  refine xv (x_iload_n 2 d_L_close_1 rfl rfl) ?_
  refine xv (x_invH 7 (as := [.int (zi p0)]) (rest := []) (hp := 6) d_L_close_2 c_9_59 rfl (Nat.le_of_ble_eq_true rfl) (Nat.le_of_ble_eq_true rfl) ho (Nat.le_of_ble_eq_true rfl) (Nat.le_of_ble_eq_true rfl) rfl hc (by decide +kernel) (hst_n d_L_close_6 (Nat.le_of_ble_eq_true rfl))) ?_
  refine xv (x_iconst 8 d_L_close_7 rfl) ?_
  refine xv_r (x_ireturn d_L_close_8 rfl rfl) ?_
  exact hQ
theorem V_open_r {p0 : Int} (ho : h.1 x = some (.inr (7, fs))) (hc : q_cl E q_m_X7_open [.ref x, .int (zi p0)] h = some (.inl (some (.int (zi v))), h')) : q_cl E q_m_L_open [.ref x, .int (zi p0)] h = some (.inl (some (.int (zi v))), h') := by
  suffices K : ∀ Q : q_R → q_H → Prop, Q (.inl (some (Value.int (zi v)))) h' → Xv E q_m_L_open 0 [Value.ref x, .int (zi p0), .null] [] h Q by
    obtain ⟨r_, g_, a_, b_, c_⟩ := K (fun r_ g_ => r_ = .inl (some (Value.int (zi v))) ∧ g_ = h') ⟨rfl, rfl⟩
    subst b_; subst c_; exact a_
  intro Q hQ
  refine xv (x_aload_n 1 d_L_open_0 rfl rfl) ?_
  refine xv (x_iload_n 2 d_L_open_1 rfl rfl) ?_
  refine xv (x_inv1 5 (as := [.int (zi p0)]) d_L_open_2 rfl c_9_62 rfl (Nat.le_of_ble_eq_true rfl) (Nat.le_of_ble_eq_true rfl) ho (Nat.le_of_ble_eq_true rfl) (Nat.le_of_ble_eq_true rfl) rfl hc) ?_
  refine xv_r (x_ireturn d_L_open_5 rfl rfl) ?_
  exact hQ
theorem V_open_xUO {p0 : Int} (ho : h.1 x = some (.inr (7, fs))) (hc : q_cl E q_m_X7_open [.ref x, .int (zi p0)] h = some (.inr xUO, h')) : q_cl E q_m_L_open [.ref x, .int (zi p0)] h = some (.inl (some (.int (zi (-1)))), h') := by
  suffices K : ∀ Q : q_R → q_H → Prop, Q (.inl (some (Value.int (zi (-1))))) h' → Xv E q_m_L_open 0 [Value.ref x, .int (zi p0), .null] [] h Q by
    obtain ⟨r_, g_, a_, b_, c_⟩ := K (fun r_ g_ => r_ = .inl (some (Value.int (zi (-1)))) ∧ g_ = h') ⟨rfl, rfl⟩
    subst b_; subst c_; exact a_
  intro Q hQ
  refine xv (x_aload_n 1 d_L_open_0 rfl rfl) ?_
  refine xv (x_iload_n 2 d_L_open_1 rfl rfl) ?_
  refine xv (x_invH 7 (as := [.int (zi p0)]) (rest := []) (hp := 6) d_L_open_2 c_9_62 rfl (Nat.le_of_ble_eq_true rfl) (Nat.le_of_ble_eq_true rfl) ho (Nat.le_of_ble_eq_true rfl) (Nat.le_of_ble_eq_true rfl) rfl hc (by decide +kernel) (hst_n d_L_open_6 (Nat.le_of_ble_eq_true rfl))) ?_
  refine xv (x_iconst 8 d_L_open_7 rfl) ?_
  refine xv_r (x_ireturn d_L_open_8 rfl rfl) ?_
  exact hQ
theorem V_set_r {p0 : Int} {p1 : Int} (ho : h.1 x = some (.inr (7, fs))) (hc : q_cl E q_m_X7_set [.ref x, .int (zi p0), .int (zi p1)] h = some (.inl (some (.int (zi v))), h')) : q_cl E q_m_L_set [.ref x, .int (zi p0), .int (zi p1)] h = some (.inl (some (.int (zi v))), h') := by
  suffices K : ∀ Q : q_R → q_H → Prop, Q (.inl (some (Value.int (zi v)))) h' → Xv E q_m_L_set 0 [Value.ref x, .int (zi p0), .int (zi p1), .null] [] h Q by
    obtain ⟨r_, g_, a_, b_, c_⟩ := K (fun r_ g_ => r_ = .inl (some (Value.int (zi v))) ∧ g_ = h') ⟨rfl, rfl⟩
    subst b_; subst c_; exact a_
  intro Q hQ
  refine xv (x_aload_n 1 d_L_set_0 rfl rfl) ?_
  refine xv (x_iload_n 2 d_L_set_1 rfl rfl) ?_
  refine xv (x_iload_n 3 d_L_set_2 rfl rfl) ?_
  refine xv (x_inv1 6 (as := [.int (zi p0), .int (zi p1)]) d_L_set_3 rfl c_9_65 rfl (Nat.le_of_ble_eq_true rfl) (Nat.le_of_ble_eq_true rfl) ho (Nat.le_of_ble_eq_true rfl) (Nat.le_of_ble_eq_true rfl) rfl hc) ?_
  refine xv_r (x_ireturn d_L_set_6 rfl rfl) ?_
  exact hQ
theorem V_set_xUO {p0 : Int} {p1 : Int} (ho : h.1 x = some (.inr (7, fs))) (hc : q_cl E q_m_X7_set [.ref x, .int (zi p0), .int (zi p1)] h = some (.inr xUO, h')) : q_cl E q_m_L_set [.ref x, .int (zi p0), .int (zi p1)] h = some (.inl (some (.int (zi (-1)))), h') := by
  suffices K : ∀ Q : q_R → q_H → Prop, Q (.inl (some (Value.int (zi (-1))))) h' → Xv E q_m_L_set 0 [Value.ref x, .int (zi p0), .int (zi p1), .null] [] h Q by
    obtain ⟨r_, g_, a_, b_, c_⟩ := K (fun r_ g_ => r_ = .inl (some (Value.int (zi (-1)))) ∧ g_ = h') ⟨rfl, rfl⟩
    subst b_; subst c_; exact a_
  intro Q hQ
  refine xv (x_aload_n 1 d_L_set_0 rfl rfl) ?_
  refine xv (x_iload_n 2 d_L_set_1 rfl rfl) ?_
  refine xv (x_iload_n 3 d_L_set_2 rfl rfl) ?_
  refine xv (x_invH 8 (as := [.int (zi p0), .int (zi p1)]) (rest := []) (hp := 7) d_L_set_3 c_9_65 rfl (Nat.le_of_ble_eq_true rfl) (Nat.le_of_ble_eq_true rfl) ho (Nat.le_of_ble_eq_true rfl) (Nat.le_of_ble_eq_true rfl) rfl hc (by decide +kernel) (hst_n d_L_set_7 (Nat.le_of_ble_eq_true rfl))) ?_
  refine xv (x_iconst 9 d_L_set_8 rfl) ?_
  refine xv_r (x_ireturn d_L_set_9 rfl rfl) ?_
  exact hQ
theorem V_plan_r {p0 : Int} {p1 : Int} (ho : h.1 x = some (.inr (7, fs))) (hc : q_cl E q_m_X7_plan [.ref x, .int (zi p0), .int (zi p1)] h = some (.inl (some (.int (zi v))), h')) : q_cl E q_m_L_plan [.ref x, .int (zi p0), .int (zi p1)] h = some (.inl (some (.int (zi v))), h') := by
  suffices K : ∀ Q : q_R → q_H → Prop, Q (.inl (some (Value.int (zi v)))) h' → Xv E q_m_L_plan 0 [Value.ref x, .int (zi p0), .int (zi p1), .null] [] h Q by
    obtain ⟨r_, g_, a_, b_, c_⟩ := K (fun r_ g_ => r_ = .inl (some (Value.int (zi v))) ∧ g_ = h') ⟨rfl, rfl⟩
    subst b_; subst c_; exact a_
  intro Q hQ
  refine xv (x_aload_n 1 d_L_plan_0 rfl rfl) ?_
  refine xv (x_iload_n 2 d_L_plan_1 rfl rfl) ?_
  refine xv (x_iload_n 3 d_L_plan_2 rfl rfl) ?_
  refine xv (x_inv1 6 (as := [.int (zi p0), .int (zi p1)]) d_L_plan_3 rfl c_9_68 rfl (Nat.le_of_ble_eq_true rfl) (Nat.le_of_ble_eq_true rfl) ho (Nat.le_of_ble_eq_true rfl) (Nat.le_of_ble_eq_true rfl) rfl hc) ?_
  refine xv_r (x_ireturn d_L_plan_6 rfl rfl) ?_
  exact hQ
theorem V_plan_xUO {p0 : Int} {p1 : Int} (ho : h.1 x = some (.inr (7, fs))) (hc : q_cl E q_m_X7_plan [.ref x, .int (zi p0), .int (zi p1)] h = some (.inr xUO, h')) : q_cl E q_m_L_plan [.ref x, .int (zi p0), .int (zi p1)] h = some (.inl (some (.int (zi (-1)))), h') := by
  suffices K : ∀ Q : q_R → q_H → Prop, Q (.inl (some (Value.int (zi (-1))))) h' → Xv E q_m_L_plan 0 [Value.ref x, .int (zi p0), .int (zi p1), .null] [] h Q by
    obtain ⟨r_, g_, a_, b_, c_⟩ := K (fun r_ g_ => r_ = .inl (some (Value.int (zi (-1)))) ∧ g_ = h') ⟨rfl, rfl⟩
    subst b_; subst c_; exact a_
  intro Q hQ
  refine xv (x_aload_n 1 d_L_plan_0 rfl rfl) ?_
  refine xv (x_iload_n 2 d_L_plan_1 rfl rfl) ?_
  refine xv (x_iload_n 3 d_L_plan_2 rfl rfl) ?_
  refine xv (x_invH 8 (as := [.int (zi p0), .int (zi p1)]) (rest := []) (hp := 7) d_L_plan_3 c_9_68 rfl (Nat.le_of_ble_eq_true rfl) (Nat.le_of_ble_eq_true rfl) ho (Nat.le_of_ble_eq_true rfl) (Nat.le_of_ble_eq_true rfl) rfl hc (by decide +kernel) (hst_n d_L_plan_7 (Nat.le_of_ble_eq_true rfl))) ?_
  refine xv (x_iconst 9 d_L_plan_8 rfl) ?_
  refine xv_r (x_ireturn d_L_plan_9 rfl rfl) ?_
  exact hQ
theorem V_cancel_r {p0 : Int} (ho : h.1 x = some (.inr (7, fs))) (hc : q_cl E q_m_X7_cancel [.ref x, .int (zi p0)] h = some (.inl (some (.int (zi v))), h')) : q_cl E q_m_L_cancel [.ref x, .int (zi p0)] h = some (.inl (some (.int (zi v))), h') := by
  suffices K : ∀ Q : q_R → q_H → Prop, Q (.inl (some (Value.int (zi v)))) h' → Xv E q_m_L_cancel 0 [Value.ref x, .int (zi p0), .null] [] h Q by
    obtain ⟨r_, g_, a_, b_, c_⟩ := K (fun r_ g_ => r_ = .inl (some (Value.int (zi v))) ∧ g_ = h') ⟨rfl, rfl⟩
    subst b_; subst c_; exact a_
  intro Q hQ
  refine xv (x_aload_n 1 d_L_cancel_0 rfl rfl) ?_
  refine xv (x_iload_n 2 d_L_cancel_1 rfl rfl) ?_
  refine xv (x_inv1 5 (as := [.int (zi p0)]) d_L_cancel_2 rfl c_9_71 rfl (Nat.le_of_ble_eq_true rfl) (Nat.le_of_ble_eq_true rfl) ho (Nat.le_of_ble_eq_true rfl) (Nat.le_of_ble_eq_true rfl) rfl hc) ?_
  refine xv_r (x_ireturn d_L_cancel_5 rfl rfl) ?_
  exact hQ
theorem V_cancel_xUO {p0 : Int} (ho : h.1 x = some (.inr (7, fs))) (hc : q_cl E q_m_X7_cancel [.ref x, .int (zi p0)] h = some (.inr xUO, h')) : q_cl E q_m_L_cancel [.ref x, .int (zi p0)] h = some (.inl (some (.int (zi (-1)))), h') := by
  suffices K : ∀ Q : q_R → q_H → Prop, Q (.inl (some (Value.int (zi (-1))))) h' → Xv E q_m_L_cancel 0 [Value.ref x, .int (zi p0), .null] [] h Q by
    obtain ⟨r_, g_, a_, b_, c_⟩ := K (fun r_ g_ => r_ = .inl (some (Value.int (zi (-1)))) ∧ g_ = h') ⟨rfl, rfl⟩
    subst b_; subst c_; exact a_
  intro Q hQ
  refine xv (x_aload_n 1 d_L_cancel_0 rfl rfl) ?_
  refine xv (x_iload_n 2 d_L_cancel_1 rfl rfl) ?_
  refine xv (x_invH 7 (as := [.int (zi p0)]) (rest := []) (hp := 6) d_L_cancel_2 c_9_71 rfl (Nat.le_of_ble_eq_true rfl) (Nat.le_of_ble_eq_true rfl) ho (Nat.le_of_ble_eq_true rfl) (Nat.le_of_ble_eq_true rfl) rfl hc (by decide +kernel) (hst_n d_L_cancel_6 (Nat.le_of_ble_eq_true rfl))) ?_
  refine xv (x_iconst 8 d_L_cancel_7 rfl) ?_
  refine xv_r (x_ireturn d_L_cancel_8 rfl rfl) ?_
  exact hQ
theorem V_pass_r {p0 : Int} (ho : h.1 x = some (.inr (7, fs))) (hc : q_cl E q_m_X7_pass [.ref x, .int (zi p0)] h = some (.inl (some (.int (zi v))), h')) : q_cl E q_m_L_pass [.ref x, .int (zi p0)] h = some (.inl (some (.int (zi v))), h') := by
  suffices K : ∀ Q : q_R → q_H → Prop, Q (.inl (some (Value.int (zi v)))) h' → Xv E q_m_L_pass 0 [Value.ref x, .int (zi p0), .null] [] h Q by
    obtain ⟨r_, g_, a_, b_, c_⟩ := K (fun r_ g_ => r_ = .inl (some (Value.int (zi v))) ∧ g_ = h') ⟨rfl, rfl⟩
    subst b_; subst c_; exact a_
  intro Q hQ
  refine xv (x_aload_n 1 d_L_pass_0 rfl rfl) ?_
  refine xv (x_iload_n 2 d_L_pass_1 rfl rfl) ?_
  refine xv (x_inv1 5 (as := [.int (zi p0)]) d_L_pass_2 rfl c_9_74 rfl (Nat.le_of_ble_eq_true rfl) (Nat.le_of_ble_eq_true rfl) ho (Nat.le_of_ble_eq_true rfl) (Nat.le_of_ble_eq_true rfl) rfl hc) ?_
  refine xv_r (x_ireturn d_L_pass_5 rfl rfl) ?_
  exact hQ
theorem V_pass_xUO {p0 : Int} (ho : h.1 x = some (.inr (7, fs))) (hc : q_cl E q_m_X7_pass [.ref x, .int (zi p0)] h = some (.inr xUO, h')) : q_cl E q_m_L_pass [.ref x, .int (zi p0)] h = some (.inl (some (.int (zi (-1)))), h') := by
  suffices K : ∀ Q : q_R → q_H → Prop, Q (.inl (some (Value.int (zi (-1))))) h' → Xv E q_m_L_pass 0 [Value.ref x, .int (zi p0), .null] [] h Q by
    obtain ⟨r_, g_, a_, b_, c_⟩ := K (fun r_ g_ => r_ = .inl (some (Value.int (zi (-1)))) ∧ g_ = h') ⟨rfl, rfl⟩
    subst b_; subst c_; exact a_
  intro Q hQ
  refine xv (x_aload_n 1 d_L_pass_0 rfl rfl) ?_
  refine xv (x_iload_n 2 d_L_pass_1 rfl rfl) ?_
  refine xv (x_invH 7 (as := [.int (zi p0)]) (rest := []) (hp := 6) d_L_pass_2 c_9_74 rfl (Nat.le_of_ble_eq_true rfl) (Nat.le_of_ble_eq_true rfl) ho (Nat.le_of_ble_eq_true rfl) (Nat.le_of_ble_eq_true rfl) rfl hc (by decide +kernel) (hst_n d_L_pass_6 (Nat.le_of_ble_eq_true rfl))) ?_
  refine xv (x_iconst 8 d_L_pass_7 rfl) ?_
  refine xv_r (x_ireturn d_L_pass_8 rfl rfl) ?_
  exact hQ
theorem V_distance_r {p0 : Int} {p1 : Int} (ho : h.1 x = some (.inr (7, fs))) (hc : q_cl E q_m_X7_distance [.ref x, .int (zi p0), .int (zi p1)] h = some (.inl (some (.int (zi v))), h')) : q_cl E q_m_L_distance [.ref x, .int (zi p0), .int (zi p1)] h = some (.inl (some (.int (zi v))), h') := by
  suffices K : ∀ Q : q_R → q_H → Prop, Q (.inl (some (Value.int (zi v)))) h' → Xv E q_m_L_distance 0 [Value.ref x, .int (zi p0), .int (zi p1), .null] [] h Q by
    obtain ⟨r_, g_, a_, b_, c_⟩ := K (fun r_ g_ => r_ = .inl (some (Value.int (zi v))) ∧ g_ = h') ⟨rfl, rfl⟩
    subst b_; subst c_; exact a_
  intro Q hQ
  refine xv (x_aload_n 1 d_L_distance_0 rfl rfl) ?_
  refine xv (x_iload_n 2 d_L_distance_1 rfl rfl) ?_
  refine xv (x_iload_n 3 d_L_distance_2 rfl rfl) ?_
  refine xv (x_inv1 6 (as := [.int (zi p0), .int (zi p1)]) d_L_distance_3 rfl c_9_77 rfl (Nat.le_of_ble_eq_true rfl) (Nat.le_of_ble_eq_true rfl) ho (Nat.le_of_ble_eq_true rfl) (Nat.le_of_ble_eq_true rfl) rfl hc) ?_
  refine xv_r (x_ireturn d_L_distance_6 rfl rfl) ?_
  exact hQ
theorem V_distance_xIO {p0 : Int} {p1 : Int} (ho : h.1 x = some (.inr (7, fs))) (hc : q_cl E q_m_X7_distance [.ref x, .int (zi p0), .int (zi p1)] h = some (.inr xIO, h')) : q_cl E q_m_L_distance [.ref x, .int (zi p0), .int (zi p1)] h = some (.inl (some (.int (zi (-1)))), h') := by
  suffices K : ∀ Q : q_R → q_H → Prop, Q (.inl (some (Value.int (zi (-1))))) h' → Xv E q_m_L_distance 0 [Value.ref x, .int (zi p0), .int (zi p1), .null] [] h Q by
    obtain ⟨r_, g_, a_, b_, c_⟩ := K (fun r_ g_ => r_ = .inl (some (Value.int (zi (-1)))) ∧ g_ = h') ⟨rfl, rfl⟩
    subst b_; subst c_; exact a_
  intro Q hQ
  refine xv (x_aload_n 1 d_L_distance_0 rfl rfl) ?_
  refine xv (x_iload_n 2 d_L_distance_1 rfl rfl) ?_
  refine xv (x_iload_n 3 d_L_distance_2 rfl rfl) ?_
  refine xv (x_invH 8 (as := [.int (zi p0), .int (zi p1)]) (rest := []) (hp := 7) d_L_distance_3 c_9_77 rfl (Nat.le_of_ble_eq_true rfl) (Nat.le_of_ble_eq_true rfl) ho (Nat.le_of_ble_eq_true rfl) (Nat.le_of_ble_eq_true rfl) rfl hc (by decide +kernel) (hst_n d_L_distance_7 (Nat.le_of_ble_eq_true rfl))) ?_
  refine xv (x_iconst 9 d_L_distance_8 rfl) ?_
  refine xv_r (x_ireturn d_L_distance_9 rfl rfl) ?_
  exact hQ
theorem V_distance_xNS {p0 : Int} {p1 : Int} (ho : h.1 x = some (.inr (7, fs))) (hc : q_cl E q_m_X7_distance [.ref x, .int (zi p0), .int (zi p1)] h = some (.inr xNS, h')) : q_cl E q_m_L_distance [.ref x, .int (zi p0), .int (zi p1)] h = some (.inl (some (.int (zi (-2)))), h') := by
  suffices K : ∀ Q : q_R → q_H → Prop, Q (.inl (some (Value.int (zi (-2))))) h' → Xv E q_m_L_distance 0 [Value.ref x, .int (zi p0), .int (zi p1), .null] [] h Q by
    obtain ⟨r_, g_, a_, b_, c_⟩ := K (fun r_ g_ => r_ = .inl (some (Value.int (zi (-2)))) ∧ g_ = h') ⟨rfl, rfl⟩
    subst b_; subst c_; exact a_
  intro Q hQ
  refine xv (x_aload_n 1 d_L_distance_0 rfl rfl) ?_
  refine xv (x_iload_n 2 d_L_distance_1 rfl rfl) ?_
  refine xv (x_iload_n 3 d_L_distance_2 rfl rfl) ?_
  refine xv (x_invH 11 (as := [.int (zi p0), .int (zi p1)]) (rest := []) (hp := 10) d_L_distance_3 c_9_77 rfl (Nat.le_of_ble_eq_true rfl) (Nat.le_of_ble_eq_true rfl) ho (Nat.le_of_ble_eq_true rfl) (Nat.le_of_ble_eq_true rfl) rfl hc (by decide +kernel) (hst_n d_L_distance_10 (Nat.le_of_ble_eq_true rfl))) ?_
  refine xv (x_bipush 13 d_L_distance_11 rfl rfl) ?_
  refine xv_r (x_ireturn d_L_distance_13 rfl rfl) ?_
  exact hQ
theorem V_distanceAgain_r {p0 : Int} {p1 : Int} (ho : h.1 x = some (.inr (7, fs))) (hc : q_cl E q_m_X7_distanceAgain [.ref x, .int (zi p0), .int (zi p1)] h = some (.inl (some (.int (zi v))), h')) : q_cl E q_m_L_distanceAgain [.ref x, .int (zi p0), .int (zi p1)] h = some (.inl (some (.int (zi v))), h') := by
  suffices K : ∀ Q : q_R → q_H → Prop, Q (.inl (some (Value.int (zi v)))) h' → Xv E q_m_L_distanceAgain 0 [Value.ref x, .int (zi p0), .int (zi p1), .null] [] h Q by
    obtain ⟨r_, g_, a_, b_, c_⟩ := K (fun r_ g_ => r_ = .inl (some (Value.int (zi v))) ∧ g_ = h') ⟨rfl, rfl⟩
    subst b_; subst c_; exact a_
  intro Q hQ
  refine xv (x_aload_n 1 d_L_distanceAgain_0 rfl rfl) ?_
  refine xv (x_iload_n 2 d_L_distanceAgain_1 rfl rfl) ?_
  refine xv (x_iload_n 3 d_L_distanceAgain_2 rfl rfl) ?_
  refine xv (x_inv1 6 (as := [.int (zi p0), .int (zi p1)]) d_L_distanceAgain_3 rfl c_9_84 rfl (Nat.le_of_ble_eq_true rfl) (Nat.le_of_ble_eq_true rfl) ho (Nat.le_of_ble_eq_true rfl) (Nat.le_of_ble_eq_true rfl) rfl hc) ?_
  refine xv_r (x_ireturn d_L_distanceAgain_6 rfl rfl) ?_
  exact hQ
theorem V_distanceAgain_xIO {p0 : Int} {p1 : Int} (ho : h.1 x = some (.inr (7, fs))) (hc : q_cl E q_m_X7_distanceAgain [.ref x, .int (zi p0), .int (zi p1)] h = some (.inr xIO, h')) : q_cl E q_m_L_distanceAgain [.ref x, .int (zi p0), .int (zi p1)] h = some (.inl (some (.int (zi (-1)))), h') := by
  suffices K : ∀ Q : q_R → q_H → Prop, Q (.inl (some (Value.int (zi (-1))))) h' → Xv E q_m_L_distanceAgain 0 [Value.ref x, .int (zi p0), .int (zi p1), .null] [] h Q by
    obtain ⟨r_, g_, a_, b_, c_⟩ := K (fun r_ g_ => r_ = .inl (some (Value.int (zi (-1)))) ∧ g_ = h') ⟨rfl, rfl⟩
    subst b_; subst c_; exact a_
  intro Q hQ
  refine xv (x_aload_n 1 d_L_distanceAgain_0 rfl rfl) ?_
  refine xv (x_iload_n 2 d_L_distanceAgain_1 rfl rfl) ?_
  refine xv (x_iload_n 3 d_L_distanceAgain_2 rfl rfl) ?_
  refine xv (x_invH 8 (as := [.int (zi p0), .int (zi p1)]) (rest := []) (hp := 7) d_L_distanceAgain_3 c_9_84 rfl (Nat.le_of_ble_eq_true rfl) (Nat.le_of_ble_eq_true rfl) ho (Nat.le_of_ble_eq_true rfl) (Nat.le_of_ble_eq_true rfl) rfl hc (by decide +kernel) (hst_n d_L_distanceAgain_7 (Nat.le_of_ble_eq_true rfl))) ?_
  refine xv (x_iconst 9 d_L_distanceAgain_8 rfl) ?_
  refine xv_r (x_ireturn d_L_distanceAgain_9 rfl rfl) ?_
  exact hQ
theorem V_distanceAgain_xNS {p0 : Int} {p1 : Int} (ho : h.1 x = some (.inr (7, fs))) (hc : q_cl E q_m_X7_distanceAgain [.ref x, .int (zi p0), .int (zi p1)] h = some (.inr xNS, h')) : q_cl E q_m_L_distanceAgain [.ref x, .int (zi p0), .int (zi p1)] h = some (.inl (some (.int (zi (-2)))), h') := by
  suffices K : ∀ Q : q_R → q_H → Prop, Q (.inl (some (Value.int (zi (-2))))) h' → Xv E q_m_L_distanceAgain 0 [Value.ref x, .int (zi p0), .int (zi p1), .null] [] h Q by
    obtain ⟨r_, g_, a_, b_, c_⟩ := K (fun r_ g_ => r_ = .inl (some (Value.int (zi (-2)))) ∧ g_ = h') ⟨rfl, rfl⟩
    subst b_; subst c_; exact a_
  intro Q hQ
  refine xv (x_aload_n 1 d_L_distanceAgain_0 rfl rfl) ?_
  refine xv (x_iload_n 2 d_L_distanceAgain_1 rfl rfl) ?_
  refine xv (x_iload_n 3 d_L_distanceAgain_2 rfl rfl) ?_
  refine xv (x_invH 11 (as := [.int (zi p0), .int (zi p1)]) (rest := []) (hp := 10) d_L_distanceAgain_3 c_9_84 rfl (Nat.le_of_ble_eq_true rfl) (Nat.le_of_ble_eq_true rfl) ho (Nat.le_of_ble_eq_true rfl) (Nat.le_of_ble_eq_true rfl) rfl hc (by decide +kernel) (hst_n d_L_distanceAgain_10 (Nat.le_of_ble_eq_true rfl))) ?_
  refine xv (x_bipush 13 d_L_distanceAgain_11 rfl rfl) ?_
  refine xv_r (x_ireturn d_L_distanceAgain_13 rfl rfl) ?_
  exact hQ
theorem V_arrival_r {p0 : Int} {p1 : Int} (ho : h.1 x = some (.inr (7, fs))) (hc : q_cl E q_m_X7_arrival [.ref x, .int (zi p0), .int (zi p1)] h = some (.inl (some (.int (zi v))), h')) : q_cl E q_m_L_arrival [.ref x, .int (zi p0), .int (zi p1)] h = some (.inl (some (.int (zi v))), h') := by
  suffices K : ∀ Q : q_R → q_H → Prop, Q (.inl (some (Value.int (zi v)))) h' → Xv E q_m_L_arrival 0 [Value.ref x, .int (zi p0), .int (zi p1), .null] [] h Q by
    obtain ⟨r_, g_, a_, b_, c_⟩ := K (fun r_ g_ => r_ = .inl (some (Value.int (zi v))) ∧ g_ = h') ⟨rfl, rfl⟩
    subst b_; subst c_; exact a_
  intro Q hQ
  refine xv (x_aload_n 1 d_L_arrival_0 rfl rfl) ?_
  refine xv (x_iload_n 2 d_L_arrival_1 rfl rfl) ?_
  refine xv (x_iload_n 3 d_L_arrival_2 rfl rfl) ?_
  refine xv (x_inv1 6 (as := [.int (zi p0), .int (zi p1)]) d_L_arrival_3 rfl c_9_87 rfl (Nat.le_of_ble_eq_true rfl) (Nat.le_of_ble_eq_true rfl) ho (Nat.le_of_ble_eq_true rfl) (Nat.le_of_ble_eq_true rfl) rfl hc) ?_
  refine xv_r (x_ireturn d_L_arrival_6 rfl rfl) ?_
  exact hQ
theorem V_arrival_xIO {p0 : Int} {p1 : Int} (ho : h.1 x = some (.inr (7, fs))) (hc : q_cl E q_m_X7_arrival [.ref x, .int (zi p0), .int (zi p1)] h = some (.inr xIO, h')) : q_cl E q_m_L_arrival [.ref x, .int (zi p0), .int (zi p1)] h = some (.inl (some (.int (zi (-1)))), h') := by
  suffices K : ∀ Q : q_R → q_H → Prop, Q (.inl (some (Value.int (zi (-1))))) h' → Xv E q_m_L_arrival 0 [Value.ref x, .int (zi p0), .int (zi p1), .null] [] h Q by
    obtain ⟨r_, g_, a_, b_, c_⟩ := K (fun r_ g_ => r_ = .inl (some (Value.int (zi (-1)))) ∧ g_ = h') ⟨rfl, rfl⟩
    subst b_; subst c_; exact a_
  intro Q hQ
  refine xv (x_aload_n 1 d_L_arrival_0 rfl rfl) ?_
  refine xv (x_iload_n 2 d_L_arrival_1 rfl rfl) ?_
  refine xv (x_iload_n 3 d_L_arrival_2 rfl rfl) ?_
  refine xv (x_invH 8 (as := [.int (zi p0), .int (zi p1)]) (rest := []) (hp := 7) d_L_arrival_3 c_9_87 rfl (Nat.le_of_ble_eq_true rfl) (Nat.le_of_ble_eq_true rfl) ho (Nat.le_of_ble_eq_true rfl) (Nat.le_of_ble_eq_true rfl) rfl hc (by decide +kernel) (hst_n d_L_arrival_7 (Nat.le_of_ble_eq_true rfl))) ?_
  refine xv (x_iconst 9 d_L_arrival_8 rfl) ?_
  refine xv_r (x_ireturn d_L_arrival_9 rfl rfl) ?_
  exact hQ
theorem V_arrival_xNS {p0 : Int} {p1 : Int} (ho : h.1 x = some (.inr (7, fs))) (hc : q_cl E q_m_X7_arrival [.ref x, .int (zi p0), .int (zi p1)] h = some (.inr xNS, h')) : q_cl E q_m_L_arrival [.ref x, .int (zi p0), .int (zi p1)] h = some (.inl (some (.int (zi (-2)))), h') := by
  suffices K : ∀ Q : q_R → q_H → Prop, Q (.inl (some (Value.int (zi (-2))))) h' → Xv E q_m_L_arrival 0 [Value.ref x, .int (zi p0), .int (zi p1), .null] [] h Q by
    obtain ⟨r_, g_, a_, b_, c_⟩ := K (fun r_ g_ => r_ = .inl (some (Value.int (zi (-2)))) ∧ g_ = h') ⟨rfl, rfl⟩
    subst b_; subst c_; exact a_
  intro Q hQ
  refine xv (x_aload_n 1 d_L_arrival_0 rfl rfl) ?_
  refine xv (x_iload_n 2 d_L_arrival_1 rfl rfl) ?_
  refine xv (x_iload_n 3 d_L_arrival_2 rfl rfl) ?_
  refine xv (x_invH 11 (as := [.int (zi p0), .int (zi p1)]) (rest := []) (hp := 10) d_L_arrival_3 c_9_87 rfl (Nat.le_of_ble_eq_true rfl) (Nat.le_of_ble_eq_true rfl) ho (Nat.le_of_ble_eq_true rfl) (Nat.le_of_ble_eq_true rfl) rfl hc (by decide +kernel) (hst_n d_L_arrival_10 (Nat.le_of_ble_eq_true rfl))) ?_
  refine xv (x_bipush 13 d_L_arrival_11 rfl rfl) ?_
  refine xv_r (x_ireturn d_L_arrival_13 rfl rfl) ?_
  exact hQ
theorem V_arrivalAgain_r {p0 : Int} {p1 : Int} (ho : h.1 x = some (.inr (7, fs))) (hc : q_cl E q_m_X7_arrivalAgain [.ref x, .int (zi p0), .int (zi p1)] h = some (.inl (some (.int (zi v))), h')) : q_cl E q_m_L_arrivalAgain [.ref x, .int (zi p0), .int (zi p1)] h = some (.inl (some (.int (zi v))), h') := by
  suffices K : ∀ Q : q_R → q_H → Prop, Q (.inl (some (Value.int (zi v)))) h' → Xv E q_m_L_arrivalAgain 0 [Value.ref x, .int (zi p0), .int (zi p1), .null] [] h Q by
    obtain ⟨r_, g_, a_, b_, c_⟩ := K (fun r_ g_ => r_ = .inl (some (Value.int (zi v))) ∧ g_ = h') ⟨rfl, rfl⟩
    subst b_; subst c_; exact a_
  intro Q hQ
  refine xv (x_aload_n 1 d_L_arrivalAgain_0 rfl rfl) ?_
  refine xv (x_iload_n 2 d_L_arrivalAgain_1 rfl rfl) ?_
  refine xv (x_iload_n 3 d_L_arrivalAgain_2 rfl rfl) ?_
  refine xv (x_inv1 6 (as := [.int (zi p0), .int (zi p1)]) d_L_arrivalAgain_3 rfl c_9_90 rfl (Nat.le_of_ble_eq_true rfl) (Nat.le_of_ble_eq_true rfl) ho (Nat.le_of_ble_eq_true rfl) (Nat.le_of_ble_eq_true rfl) rfl hc) ?_
  refine xv_r (x_ireturn d_L_arrivalAgain_6 rfl rfl) ?_
  exact hQ
theorem V_arrivalAgain_xIO {p0 : Int} {p1 : Int} (ho : h.1 x = some (.inr (7, fs))) (hc : q_cl E q_m_X7_arrivalAgain [.ref x, .int (zi p0), .int (zi p1)] h = some (.inr xIO, h')) : q_cl E q_m_L_arrivalAgain [.ref x, .int (zi p0), .int (zi p1)] h = some (.inl (some (.int (zi (-1)))), h') := by
  suffices K : ∀ Q : q_R → q_H → Prop, Q (.inl (some (Value.int (zi (-1))))) h' → Xv E q_m_L_arrivalAgain 0 [Value.ref x, .int (zi p0), .int (zi p1), .null] [] h Q by
    obtain ⟨r_, g_, a_, b_, c_⟩ := K (fun r_ g_ => r_ = .inl (some (Value.int (zi (-1)))) ∧ g_ = h') ⟨rfl, rfl⟩
    subst b_; subst c_; exact a_
  intro Q hQ
  refine xv (x_aload_n 1 d_L_arrivalAgain_0 rfl rfl) ?_
  refine xv (x_iload_n 2 d_L_arrivalAgain_1 rfl rfl) ?_
  refine xv (x_iload_n 3 d_L_arrivalAgain_2 rfl rfl) ?_
  refine xv (x_invH 8 (as := [.int (zi p0), .int (zi p1)]) (rest := []) (hp := 7) d_L_arrivalAgain_3 c_9_90 rfl (Nat.le_of_ble_eq_true rfl) (Nat.le_of_ble_eq_true rfl) ho (Nat.le_of_ble_eq_true rfl) (Nat.le_of_ble_eq_true rfl) rfl hc (by decide +kernel) (hst_n d_L_arrivalAgain_7 (Nat.le_of_ble_eq_true rfl))) ?_
  refine xv (x_iconst 9 d_L_arrivalAgain_8 rfl) ?_
  refine xv_r (x_ireturn d_L_arrivalAgain_9 rfl rfl) ?_
  exact hQ
theorem V_arrivalAgain_xNS {p0 : Int} {p1 : Int} (ho : h.1 x = some (.inr (7, fs))) (hc : q_cl E q_m_X7_arrivalAgain [.ref x, .int (zi p0), .int (zi p1)] h = some (.inr xNS, h')) : q_cl E q_m_L_arrivalAgain [.ref x, .int (zi p0), .int (zi p1)] h = some (.inl (some (.int (zi (-2)))), h') := by
  suffices K : ∀ Q : q_R → q_H → Prop, Q (.inl (some (Value.int (zi (-2))))) h' → Xv E q_m_L_arrivalAgain 0 [Value.ref x, .int (zi p0), .int (zi p1), .null] [] h Q by
    obtain ⟨r_, g_, a_, b_, c_⟩ := K (fun r_ g_ => r_ = .inl (some (Value.int (zi (-2)))) ∧ g_ = h') ⟨rfl, rfl⟩
    subst b_; subst c_; exact a_
  intro Q hQ
  refine xv (x_aload_n 1 d_L_arrivalAgain_0 rfl rfl) ?_
  refine xv (x_iload_n 2 d_L_arrivalAgain_1 rfl rfl) ?_
  refine xv (x_iload_n 3 d_L_arrivalAgain_2 rfl rfl) ?_
  refine xv (x_invH 11 (as := [.int (zi p0), .int (zi p1)]) (rest := []) (hp := 10) d_L_arrivalAgain_3 c_9_90 rfl (Nat.le_of_ble_eq_true rfl) (Nat.le_of_ble_eq_true rfl) ho (Nat.le_of_ble_eq_true rfl) (Nat.le_of_ble_eq_true rfl) rfl hc (by decide +kernel) (hst_n d_L_arrivalAgain_10 (Nat.le_of_ble_eq_true rfl))) ?_
  refine xv (x_bipush 13 d_L_arrivalAgain_11 rfl rfl) ?_
  refine xv_r (x_ireturn d_L_arrivalAgain_13 rfl rfl) ?_
  exact hQ
theorem V_suited_r {p0 : Int} (ho : h.1 x = some (.inr (7, fs))) (hc : q_cl E q_m_X7_suited [.ref x, .int (zi p0)] h = some (.inl (some (.int (zi v))), h')) : q_cl E q_m_L_suited [.ref x, .int (zi p0)] h = some (.inl (some (.int (zi v))), h') := by
  suffices K : ∀ Q : q_R → q_H → Prop, Q (.inl (some (Value.int (zi v)))) h' → Xv E q_m_L_suited 0 [Value.ref x, .int (zi p0), .null] [] h Q by
    obtain ⟨r_, g_, a_, b_, c_⟩ := K (fun r_ g_ => r_ = .inl (some (Value.int (zi v))) ∧ g_ = h') ⟨rfl, rfl⟩
    subst b_; subst c_; exact a_
  intro Q hQ
  refine xv (x_aload_n 1 d_L_suited_0 rfl rfl) ?_
  refine xv (x_iload_n 2 d_L_suited_1 rfl rfl) ?_
  refine xv (x_inv1 5 (as := [.int (zi p0)]) d_L_suited_2 rfl c_9_93 rfl (Nat.le_of_ble_eq_true rfl) (Nat.le_of_ble_eq_true rfl) ho (Nat.le_of_ble_eq_true rfl) (Nat.le_of_ble_eq_true rfl) rfl hc) ?_
  refine xv_r (x_ireturn d_L_suited_5 rfl rfl) ?_
  exact hQ
theorem V_suited_xIO {p0 : Int} (ho : h.1 x = some (.inr (7, fs))) (hc : q_cl E q_m_X7_suited [.ref x, .int (zi p0)] h = some (.inr xIO, h')) : q_cl E q_m_L_suited [.ref x, .int (zi p0)] h = some (.inl (some (.int (zi (-1)))), h') := by
  suffices K : ∀ Q : q_R → q_H → Prop, Q (.inl (some (Value.int (zi (-1))))) h' → Xv E q_m_L_suited 0 [Value.ref x, .int (zi p0), .null] [] h Q by
    obtain ⟨r_, g_, a_, b_, c_⟩ := K (fun r_ g_ => r_ = .inl (some (Value.int (zi (-1)))) ∧ g_ = h') ⟨rfl, rfl⟩
    subst b_; subst c_; exact a_
  intro Q hQ
  refine xv (x_aload_n 1 d_L_suited_0 rfl rfl) ?_
  refine xv (x_iload_n 2 d_L_suited_1 rfl rfl) ?_
  refine xv (x_invH 7 (as := [.int (zi p0)]) (rest := []) (hp := 6) d_L_suited_2 c_9_93 rfl (Nat.le_of_ble_eq_true rfl) (Nat.le_of_ble_eq_true rfl) ho (Nat.le_of_ble_eq_true rfl) (Nat.le_of_ble_eq_true rfl) rfl hc (by decide +kernel) (hst_n d_L_suited_6 (Nat.le_of_ble_eq_true rfl))) ?_
  refine xv (x_iconst 8 d_L_suited_7 rfl) ?_
  refine xv_r (x_ireturn d_L_suited_8 rfl rfl) ?_
  exact hQ
theorem V_suited_xNS {p0 : Int} (ho : h.1 x = some (.inr (7, fs))) (hc : q_cl E q_m_X7_suited [.ref x, .int (zi p0)] h = some (.inr xNS, h')) : q_cl E q_m_L_suited [.ref x, .int (zi p0)] h = some (.inl (some (.int (zi (-2)))), h') := by
  suffices K : ∀ Q : q_R → q_H → Prop, Q (.inl (some (Value.int (zi (-2))))) h' → Xv E q_m_L_suited 0 [Value.ref x, .int (zi p0), .null] [] h Q by
    obtain ⟨r_, g_, a_, b_, c_⟩ := K (fun r_ g_ => r_ = .inl (some (Value.int (zi (-2)))) ∧ g_ = h') ⟨rfl, rfl⟩
    subst b_; subst c_; exact a_
  intro Q hQ
  refine xv (x_aload_n 1 d_L_suited_0 rfl rfl) ?_
  refine xv (x_iload_n 2 d_L_suited_1 rfl rfl) ?_
  refine xv (x_invH 10 (as := [.int (zi p0)]) (rest := []) (hp := 9) d_L_suited_2 c_9_93 rfl (Nat.le_of_ble_eq_true rfl) (Nat.le_of_ble_eq_true rfl) ho (Nat.le_of_ble_eq_true rfl) (Nat.le_of_ble_eq_true rfl) rfl hc (by decide +kernel) (hst_n d_L_suited_9 (Nat.le_of_ble_eq_true rfl))) ?_
  refine xv (x_bipush 12 d_L_suited_10 rfl rfl) ?_
  refine xv_r (x_ireturn d_L_suited_12 rfl rfl) ?_
  exact hQ
theorem V_waiting_r {p0 : Int} (ho : h.1 x = some (.inr (7, fs))) (hc : q_cl E q_m_X7_waiting [.ref x, .int (zi p0)] h = some (.inl (some (.int (zi v))), h')) : q_cl E q_m_L_waiting [.ref x, .int (zi p0)] h = some (.inl (some (.int (zi v))), h') := by
  suffices K : ∀ Q : q_R → q_H → Prop, Q (.inl (some (Value.int (zi v)))) h' → Xv E q_m_L_waiting 0 [Value.ref x, .int (zi p0), .null] [] h Q by
    obtain ⟨r_, g_, a_, b_, c_⟩ := K (fun r_ g_ => r_ = .inl (some (Value.int (zi v))) ∧ g_ = h') ⟨rfl, rfl⟩
    subst b_; subst c_; exact a_
  intro Q hQ
  refine xv (x_aload_n 1 d_L_waiting_0 rfl rfl) ?_
  refine xv (x_iload_n 2 d_L_waiting_1 rfl rfl) ?_
  refine xv (x_inv1 5 (as := [.int (zi p0)]) d_L_waiting_2 rfl c_9_99 rfl (Nat.le_of_ble_eq_true rfl) (Nat.le_of_ble_eq_true rfl) ho (Nat.le_of_ble_eq_true rfl) (Nat.le_of_ble_eq_true rfl) rfl hc) ?_
  refine xv_r (x_ireturn d_L_waiting_5 rfl rfl) ?_
  exact hQ
theorem V_waiting_xNS {p0 : Int} (ho : h.1 x = some (.inr (7, fs))) (hc : q_cl E q_m_X7_waiting [.ref x, .int (zi p0)] h = some (.inr xNS, h')) : q_cl E q_m_L_waiting [.ref x, .int (zi p0)] h = some (.inl (some (.int (zi (-2)))), h') := by
  suffices K : ∀ Q : q_R → q_H → Prop, Q (.inl (some (Value.int (zi (-2))))) h' → Xv E q_m_L_waiting 0 [Value.ref x, .int (zi p0), .null] [] h Q by
    obtain ⟨r_, g_, a_, b_, c_⟩ := K (fun r_ g_ => r_ = .inl (some (Value.int (zi (-2)))) ∧ g_ = h') ⟨rfl, rfl⟩
    subst b_; subst c_; exact a_
  intro Q hQ
  refine xv (x_aload_n 1 d_L_waiting_0 rfl rfl) ?_
  refine xv (x_iload_n 2 d_L_waiting_1 rfl rfl) ?_
  refine xv (x_invH 7 (as := [.int (zi p0)]) (rest := []) (hp := 6) d_L_waiting_2 c_9_99 rfl (Nat.le_of_ble_eq_true rfl) (Nat.le_of_ble_eq_true rfl) ho (Nat.le_of_ble_eq_true rfl) (Nat.le_of_ble_eq_true rfl) rfl hc (by decide +kernel) (hst_n d_L_waiting_6 (Nat.le_of_ble_eq_true rfl))) ?_
  refine xv (x_bipush 9 d_L_waiting_7 rfl rfl) ?_
  refine xv_r (x_ireturn d_L_waiting_9 rfl rfl) ?_
  exact hQ
theorem V_reason_r {p0 : Int} (ho : h.1 x = some (.inr (7, fs))) (hc : q_cl E q_m_X7_reason [.ref x, .int (zi p0)] h = some (.inl (some (.int (zi v))), h')) : q_cl E q_m_L_reason [.ref x, .int (zi p0)] h = some (.inl (some (.int (zi v))), h') := by
  suffices K : ∀ Q : q_R → q_H → Prop, Q (.inl (some (Value.int (zi v)))) h' → Xv E q_m_L_reason 0 [Value.ref x, .int (zi p0), .null] [] h Q by
    obtain ⟨r_, g_, a_, b_, c_⟩ := K (fun r_ g_ => r_ = .inl (some (Value.int (zi v))) ∧ g_ = h') ⟨rfl, rfl⟩
    subst b_; subst c_; exact a_
  intro Q hQ
  refine xv (x_aload_n 1 d_L_reason_0 rfl rfl) ?_
  refine xv (x_iload_n 2 d_L_reason_1 rfl rfl) ?_
  refine xv (x_inv1 5 (as := [.int (zi p0)]) d_L_reason_2 rfl c_9_102 rfl (Nat.le_of_ble_eq_true rfl) (Nat.le_of_ble_eq_true rfl) ho (Nat.le_of_ble_eq_true rfl) (Nat.le_of_ble_eq_true rfl) rfl hc) ?_
  refine xv_r (x_ireturn d_L_reason_5 rfl rfl) ?_
  exact hQ
theorem V_reason_xNS {p0 : Int} (ho : h.1 x = some (.inr (7, fs))) (hc : q_cl E q_m_X7_reason [.ref x, .int (zi p0)] h = some (.inr xNS, h')) : q_cl E q_m_L_reason [.ref x, .int (zi p0)] h = some (.inl (some (.int (zi (-2)))), h') := by
  suffices K : ∀ Q : q_R → q_H → Prop, Q (.inl (some (Value.int (zi (-2))))) h' → Xv E q_m_L_reason 0 [Value.ref x, .int (zi p0), .null] [] h Q by
    obtain ⟨r_, g_, a_, b_, c_⟩ := K (fun r_ g_ => r_ = .inl (some (Value.int (zi (-2)))) ∧ g_ = h') ⟨rfl, rfl⟩
    subst b_; subst c_; exact a_
  intro Q hQ
  refine xv (x_aload_n 1 d_L_reason_0 rfl rfl) ?_
  refine xv (x_iload_n 2 d_L_reason_1 rfl rfl) ?_
  refine xv (x_invH 7 (as := [.int (zi p0)]) (rest := []) (hp := 6) d_L_reason_2 c_9_102 rfl (Nat.le_of_ble_eq_true rfl) (Nat.le_of_ble_eq_true rfl) ho (Nat.le_of_ble_eq_true rfl) (Nat.le_of_ble_eq_true rfl) rfl hc (by decide +kernel) (hst_n d_L_reason_6 (Nat.le_of_ble_eq_true rfl))) ?_
  refine xv (x_bipush 9 d_L_reason_7 rfl rfl) ?_
  refine xv_r (x_ireturn d_L_reason_9 rfl rfl) ?_
  exact hQ
theorem V_undo_r (ho : h.1 x = some (.inr (7, fs))) (hc : q_cl E q_m_X7_undo [.ref x] h = some (.inl (some (.int (zi v))), h')) : q_cl E q_m_L_undo [.ref x] h = some (.inl (some (.int (zi v))), h') := by
  suffices K : ∀ Q : q_R → q_H → Prop, Q (.inl (some (Value.int (zi v)))) h' → Xv E q_m_L_undo 0 [Value.ref x, .null] [] h Q by
    obtain ⟨r_, g_, a_, b_, c_⟩ := K (fun r_ g_ => r_ = .inl (some (Value.int (zi v))) ∧ g_ = h') ⟨rfl, rfl⟩
    subst b_; subst c_; exact a_
  intro Q hQ
  refine xv (x_aload_n 1 d_L_undo_0 rfl rfl) ?_
  refine xv (x_inv1 4 (as := []) d_L_undo_1 rfl c_9_106 rfl (Nat.le_of_ble_eq_true rfl) (Nat.le_of_ble_eq_true rfl) ho (Nat.le_of_ble_eq_true rfl) (Nat.le_of_ble_eq_true rfl) rfl hc) ?_
  refine xv_r (x_ireturn d_L_undo_4 rfl rfl) ?_
  exact hQ
theorem V_undo_xIS (ho : h.1 x = some (.inr (7, fs))) (hc : q_cl E q_m_X7_undo [.ref x] h = some (.inr xIS, h')) : q_cl E q_m_L_undo [.ref x] h = some (.inl (some (.int (zi (-1)))), h') := by
  suffices K : ∀ Q : q_R → q_H → Prop, Q (.inl (some (Value.int (zi (-1))))) h' → Xv E q_m_L_undo 0 [Value.ref x, .null] [] h Q by
    obtain ⟨r_, g_, a_, b_, c_⟩ := K (fun r_ g_ => r_ = .inl (some (Value.int (zi (-1)))) ∧ g_ = h') ⟨rfl, rfl⟩
    subst b_; subst c_; exact a_
  intro Q hQ
  refine xv (x_aload_n 1 d_L_undo_0 rfl rfl) ?_
  refine xv (x_invH 6 (as := []) (rest := []) (hp := 5) d_L_undo_1 c_9_106 rfl (Nat.le_of_ble_eq_true rfl) (Nat.le_of_ble_eq_true rfl) ho (Nat.le_of_ble_eq_true rfl) (Nat.le_of_ble_eq_true rfl) rfl hc (by decide +kernel) (hst_n d_L_undo_5 (Nat.le_of_ble_eq_true rfl))) ?_
  refine xv (x_iconst 7 d_L_undo_6 rfl) ?_
  refine xv_r (x_ireturn d_L_undo_7 rfl rfl) ?_
  exact hQ
end WRP
