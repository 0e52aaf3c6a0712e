/-! a text laid out (printed by program) -/
section F2
variable {E : q_E} {M : q_M} {h h' h0 : q_H} {x N b L : Nat} {ys : Nat → Int32} {l ls c m f : Int → Int} {kl : Int → Int → Int} {nx ct n hs fa kr kd_ kb k k' v y z r t i g w : Int}
variable {T : Int} {ta tb nt : Nat}
theorem A_append (P : PX x l ls nx ct kl n c hs fa kr kd_ h0 (k) h) (hn : 0 ≤ n ∧ n < 60) (hy : 0 ≤ y ∧ y < 65536) : ∃ h', q_cl E q_m_L_append [.ref x, .int (zi y)] h = some (.inl (some (.int (zi (n + 1)))), h') ∧ PX x l ls nx ct kl (n + 1) (u1 c n y) hs fa kr kd_ h0 (k) h' := by
  obtain ⟨⟨C, F⟩, hR, g, hL⟩ := id P
  obtain ⟨r, h', e, D⟩ := S_X7_append (E := E) P.1.1 P.2.1 P.2.2.1.1 P.2.2.1.2.1 (by omega) hy
  rcases D with ⟨_, d2, d3, d4⟩ | ⟨d1, _⟩
  · rw [d2] at e
    exact ⟨h', V_append_r (px_o P) e, ⟨d3, fy_mo (fy_tr F (fy_fr d4)) (by omega)⟩, hR, g, hL⟩
  · omega
/-- how a layout ends -/
def LaP (x : Nat) (l ls : Int → Int) (nx ct : Int) (kl : Int → Int → Int) (n : Int) (c : Int → Int) (hs fa kr kd_ : Int) (h0 : q_H) (k : Int) (o : Option (q_R × q_H)) : Prop :=
  ((fpl c n n.toNat 0 0 0 0).1 = -1 ∧ ∃ h' nx' ct' kl', o = some (.inl (some (.int (zi ((fpl c n n.toNat 0 0 0 0).2.1 * (fpl c n n.toNat 0 0 0 0).2.2)))), h') ∧ HP l nx ct kl nx' ct' kl' ∧ PX x (lay c n (fpl c n n.toNat 0 0 0 0).2.1 (fpl c n n.toNat 0 0 0 0).2.2 l) ls nx' (ct') (kl') 0 c hs (-1) kr kd_ h0 (k) h') ∨
  (¬ (fpl c n n.toNat 0 0 0 0).1 = -1 ∧ ∃ h' fa', o = some (.inl (some (.int (zi (-1)))), h') ∧ PX x l ls nx ct kl 0 c hs fa' kr kd_ h0 (k + 1) h')
theorem B_layout (hE : q_EN E x) (P : PX x l ls nx ct kl n c hs fa kr kd_ h0 (k) h) (hn : 0 ≤ n ∧ n ≤ 60) (hcc : ∀ i, 0 ≤ i → i < n → 0 ≤ c i ∧ c i < 65536) : LaP x l ls nx ct kl n c hs fa kr kd_ h0 k (q_cl E q_m_L_layout [.ref x] h) := by
  obtain ⟨⟨C, F⟩, hR, ⟨g1, g2, g3⟩, hL⟩ := id P
  obtain ⟨r, h', e, D⟩ := S_X7_layout (E := E) P.1.1 P.2.1 P.2.2.1.1 P.2.2.1.2.1 hn hE (px_lo P) (Nat.le_refl _) hcc
  rcases D with ⟨d1, d2, d3, nx', ct', kl', d4, d5, d6⟩ | ⟨d1, d2, h1, d3, d4, d5⟩
  · rw [d2] at e
    obtain ⟨q1, q2⟩ := hp_r d4 g1 g2
    exact Or.inl ⟨d1, h', nx', ct', kl', V_layout_r (px_o P) e, d4, ⟨d5, fy_mo (fy_tr F (fy_fr d6)) (by omega)⟩, d3, ⟨q1, q2, g3⟩, hL⟩
  · rw [d2, d5] at e
    exact Or.inr ⟨d1, thr_ h1, _, V_layout_xIA (px_o P) e, ⟨d3, fy_tr F (fy_th d4)⟩, hR, ⟨g1, g2, g3⟩, hL⟩
theorem P_layout_ (hE : q_EN E x) (hT : TXT E h0 ta tb nt f) (sa : ta < x ∨ x + 444 ≤ ta) (sb : tb < x ∨ x + 444 ≤ tb) (P : PX x l ls nx ct kl 0 c hs fa kr kd_ h0 (kb) h) : ∃ r_ h', q_cl E q_m_L_layout_ [Value.ref x, Value.ref ta] h = some (r_, h') ∧ (∃ c', (∀ i : Int, 0 ≤ i → i < nt → c' i = f i) ∧ LaP x l ls nx ct kl nt c' hs fa kr kd_ h0 kb (some (r_, h'))) := by
  suffices K : ∀ Q : q_R → q_H → Prop, (∀ r_ h', (∃ c', (∀ i : Int, 0 ≤ i → i < nt → c' i = f i) ∧ LaP x l ls nx ct kl nt c' hs fa kr kd_ h0 kb (some (r_, h'))) → Q r_ h') → Xv E q_m_L_layout_ 0 [Value.ref x, Value.ref ta, Value.null] [] h Q from K _ fun _ _ p => p
  intro Q hQ
  have n60 := hT.1.1
  have TC : ∀ {n_ : Int} {c_ : Int → Int} {hh : q_H}, PX x l ls nx ct kl n_ c_ hs fa kr kd_ h0 (kb) hh → TXT E hh ta tb nt f := fun p => txt_eq (p.1.2.1 _ sa) (p.1.2.1 _ sb) hT
  refine xv (x_iconst 1 d_L_layout__0 rfl) ?_
  refine xv (x_istore_n 2 d_L_layout__1 rfl (Nat.le_of_ble_eq_true rfl)) ?_
  show Xv E q_m_L_layout_ 2 [Value.ref x, Value.ref ta, Value.int (zi 0)] [] h Q
  have L2 : ∀ (n_ : Nat) (i : Int) (ci : Int → Int) (h_2 : q_H), (0 ≤ i) → (i ≤ (nt : Int)) → (∀ j, 0 ≤ j → j < i → ci j = f j) → (PX x l ls nx ct kl i ci hs fa kr kd_ h0 (kb) h_2) → ((nt : Int) - i).toNat = n_ → Xv E q_m_L_layout_ 2 [Value.ref x, Value.ref ta, Value.int (zi i)] [] h_2 Q := by
    intro n_
    induction n_ using Nat.strongRecOn with
    | _ n_ ih2 =>
      intro i ci h_2 y2_0 y2_1 yc P_2 em
      refine xv (x_iload_n 3 d_L_layout__2 rfl rfl) ?_
      refine xv (x_aload_n 4 d_L_layout__3 rfl rfl) ?_
      refine xv (x_invS 7 (as := []) d_L_layout__4 rfl c_9_22 rfl rfl (Nat.le_of_ble_eq_true rfl) (TC P_2).2.1 (Nat.le_of_ble_eq_true rfl) (Nat.le_of_ble_eq_true rfl) rfl (S_J0_length hE (TC P_2))) ?_
      show Xv E q_m_L_layout_ 7 [Value.ref x, Value.ref ta, Value.int (zi i)] [Value.int (zi (nt : Int)), Value.int (zi i)] h_2 Q
      refine v_icmp_ge 34 10 d_L_layout__7 rfl rfl (by omega) (by omega) (by omega) (by omega) (fun k7 => ?_) (fun k7 => ?_)
      · obtain ei : i = (nt : Int) := by omega
        subst ei
        have D := B_layout hE P_2 (by omega) (fun j a b => by rw [yc j a b]; have := hT.1.2 j a b; omega)
        have step : ∀ v hh, q_cl E q_m_L_layout [.ref x] h_2 = some (.inl (some (.int (zi v))), hh) → LaP x l ls nx ct kl nt ci hs fa kr kd_ h0 kb (some (.inl (some (.int (zi v))), hh)) → Xv E q_m_L_layout_ 34 [Value.ref x, Value.ref ta, Value.int (zi (nt : Int))] [] h_2 Q := fun v hh e1 e2 => by
          refine xv (x_aload_n 35 d_L_layout__34 rfl rfl) ?_
          refine xv (x_ins1 38 (as := [Value.ref x]) d_L_layout__35 rfl c_9_36 rfl (Nat.le_of_ble_eq_true rfl) (Nat.le_of_ble_eq_true rfl) (Nat.le_of_ble_eq_true rfl) rfl e1) ?_
          refine xv_r (x_ireturn d_L_layout__38 rfl rfl) ?_
          exact hQ _ _ ⟨ci, yc, e2⟩
        rcases id D with ⟨_, hh, _, _, _, e1, _⟩ | ⟨_, hh, _, e1, _⟩
        · exact step _ hh e1 (e1 ▸ D)
        · exact step _ hh e1 (e1 ▸ D)
      · refine xv (x_aload_n 11 d_L_layout__10 rfl rfl) ?_
        refine xv (x_aload_n 12 d_L_layout__11 rfl rfl) ?_
        refine xv (x_iload_n 13 d_L_layout__12 rfl rfl) ?_
        refine xv (x_invS 16 (as := [Value.int (zi i)]) d_L_layout__13 rfl c_9_27 rfl rfl (Nat.le_of_ble_eq_true rfl) (TC P_2).2.1 (Nat.le_of_ble_eq_true rfl) (Nat.le_of_ble_eq_true rfl) rfl (S_J0_charAt hE (TC P_2) (k := i) (by omega))) ?_
        have qf := hT.1.2 i (by omega) (by omega)
        show Xv E q_m_L_layout_ 16 [Value.ref x, Value.ref ta, Value.int (zi i)] [Value.int (zi (f i)), Value.ref x] h_2 Q
        obtain ⟨h16, e16, P16⟩ := A_append (E := E) (y := f i) P_2 (by omega) (by omega)
        refine xv (x_ins1 19 (as := [Value.ref x, Value.int (zi (f i))]) d_L_layout__16 rfl c_9_31 rfl (Nat.le_of_ble_eq_true rfl) (Nat.le_of_ble_eq_true rfl) (Nat.le_of_ble_eq_true rfl) rfl e16) ?_
        show Xv E q_m_L_layout_ 19 [Value.ref x, Value.ref ta, Value.int (zi i)] [Value.int (zi (i + 1))] h16 Q
        refine xv (x_iload_n 20 d_L_layout__19 rfl rfl) ?_
        refine xv (x_iconst 21 d_L_layout__20 rfl) ?_
        refine xv (x_iadd 22 d_L_layout__21 rfl) ?_
        refine v_icmp_eq 28 25 d_L_layout__22 rfl rfl (by omega) (by omega) (by omega) (by omega) (fun k22 => ?_) (fun k22 => ?_)
        · refine xv (x_iinc 31 d_L_layout__28 rfl rfl) ?_
          show Xv E q_m_L_layout_ 31 [Value.ref x, Value.ref ta, Value.int (zi (i + 1))] [] h16 Q
          refine xv (x_goto 2 d_L_layout__31 rfl) ?_
          exact ih2 _ (by omega) (i + 1) (u1 ci i (f i)) _ (by omega) (by omega) (fun j a b => by show (if j = i then f i else ci j) = f j; by_cases q : j = i; exact (if_pos q).trans (by rw [q]); exact (if_neg q).trans (yc j a (by omega))) P16 rfl
        · omega
  exact L2 _ 0 c _ (by omega) (by omega) (fun j a b => by omega) P rfl
end F2
