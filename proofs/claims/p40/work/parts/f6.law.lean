/-! what the law draws: each call of it -/
section F6
variable {E : q_E} {M : q_M} {h h' hb h0 : q_H} {x N b : Nat} {l l' ls c m f g : Int → Int} {kl kl' : Int → Int → Int} {nx ct nx' ct' n hs fa kr kd_ k k' v y z r t i w a e d T T' rv p j C W : Int} {rf : Int × Int} {o : Option (q_R × q_H)} {PP : Int → Int}
theorem cd_x {lo hi k d : Int} (h : lo ≤ k ∧ k ≤ hi) : (k, d).1 = 0 ∨ (lo ≤ (k, d).1 ∧ (k, d).1 ≤ hi) := Or.inr h
theorem cd_add (hy : isC l y) (hz : 0 ≤ z ∧ z ≤ 99) (h3 : l 3 < 6) : (rfAdd l y z).1 = 0 ∨ (4 ≤ (rfAdd l y z).1 ∧ (rfAdd l y z).1 ≤ 5) := by
  unfold rfAdd rfRC
  rw [if_neg (not_not_intro hy), if_neg (by omega), if_neg (by omega)]
  split
  · exact cd_x (by decide)
  · split
    · exact Or.inl rfl
    · exact cd_x (by decide)
theorem cd_lin : (rfLin l y).1 = 0 ∨ (rfLin l y).1 = 12 := by
  unfold rfLin
  split
  · exact Or.inr rfl
  · exact Or.inl rfl
theorem cd_ord (ha : isC l a) (hw : w = -1 ∨ isC l w) (hd : 0 ≤ d ∧ d ≤ 999) (h4 : l 4 < 10) : (rfOrd l d a w (-1)).1 = 0 ∨ (rfOrd l d a w (-1)).1 = 12 := by
  unfold rfOrd
  rw [if_neg (by rintro (q | q | q); exact q ha; exact q hw; exact q (Or.inl rfl)), if_neg (by rintro (q | q | q); omega; omega; exact q.2 rfl), if_neg (by omega)]
  split
  · exact cd_lin
  · split
    · exact cd_lin
    · exact cd_lin
theorem cd_asg (hr : isR l y) (ho : isO l z) : (rfAsg l y z).1 = 0 ∨ (7 ≤ (rfAsg l y z).1 ∧ (rfAsg l y z).1 ≤ 8) := by
  unfold rfAsg
  rw [if_neg (by rintro (q | q); exact q hr; exact q ho)]
  split
  · exact cd_x (by decide)
  · split
    · exact cd_x (by decide)
    · exact Or.inl rfl
theorem cd_pln (hr : isR l y) (hz : isC l z) : (rfPln l y z PP).1 = 0 ∨ (4 ≤ (rfPln l y z PP).1 ∧ (rfPln l y z PP).1 ≤ 11) := by
  unfold rfPln rfGoa rfFnd
  rw [if_neg (show ¬ (¬ isR l y ∨ ¬ isC l z) by rintro (q | q); exact q hr; exact q hz)]
  repeat' split
  all_goals first | exact Or.inl rfl | exact cd_x (by decide)
theorem rbl_56 {c : Int → Int} : ∀ (n : Nat) (i k : Int) (l : Int → Int) (y : Int), 0 ≤ k → 0 ≤ y → y < 48 → l (56 + y) = 0 → rbl c n i k l (56 + y) = 0
  | 0, _, _, _, _, _, _, _, h => h
  | n + 1, i, k, l, y, hk, h0, h1, h => by
    show (if ¬ kd (c i) = -1 ∧ k < 48 then rbl c n (i + 1) (k + 1) (u1 (u1 l (8 + k) (kd (c i))) (56 + k) 0) else rbl c n (i + 1) k l) (56 + y) = 0
    split
    · rename_i q
      refine rbl_56 n (i + 1) (k + 1) _ y (by omega) h0 h1 ?_
      by_cases e : y = k
      · rw [e, u1_eq]
      · rw [u1_ne (by omega), u1_ne (by omega)]
        exact h
    · exact rbl_56 n (i + 1) k l y hk h0 h1 h
theorem jv_lay (hn : 0 ≤ n) (h1 : (fpl c n n.toNat 0 0 0 0).1 = -1) (hz : ∀ y, 0 ≤ y → y < 48 → l (56 + y) = 0) (h6 : l 6 = 2) : JV (lay c n (fpl c n n.toNat 0 0 0 0).2.1 (fpl c n n.toNat 0 0 0 0).2.2 l) ∧ lay c n (fpl c n n.toNat 0 0 0 0).2.1 (fpl c n n.toNat 0 0 0 0).2.2 l 3 = 0 ∧ lay c n (fpl c n n.toNat 0 0 0 0).2.1 (fpl c n n.toNat 0 0 0 0).2.2 l 4 = 0 ∧ lay c n (fpl c n n.toNat 0 0 0 0).2.1 (fpl c n n.toNat 0 0 0 0).2.2 l 7 = l 7 := by
  have e3 := (lay_l (l := l) hn h1 (j := 3) (by omega)).trans ((u1_ne (by omega)).trans u1_eq)
  have e4 := (lay_l (l := l) hn h1 (j := 4) (by omega)).trans u1_eq
  have e6 := (lay_l (l := l) hn h1 (j := 6) (by omega)).trans ((u1_ne (by omega)).trans ((u1_ne (by omega)).trans ((u1_ne (by omega)).trans ((u1_ne (by omega)).trans (u1_ne (by omega))))))
  have e7 := (lay_l (l := l) hn h1 (j := 7) (by omega)).trans ((u1_ne (by omega)).trans ((u1_ne (by omega)).trans ((u1_ne (by omega)).trans ((u1_ne (by omega)).trans (u1_ne (by omega))))))
  refine ⟨⟨fun r hr => ?_, fun r r' hr => ?_, fun o ho => ?_, fun y hy => ?_, e6.trans h6⟩, e3, e4, e7⟩
  · have := hr.1; have := hr.2; omega
  · have := hr.1; have := hr.2; omega
  · have := ho.1; have := ho.2; omega
  · have ec : 0 ≤ y ∧ y < 48 := by
      have q1 := hy.1
      have q2 := hy.2
      rw [lay_cs hn h1] at q2
      have := fpl_ok (c := c) n n.toNat 0 0 0 0 (u1 (u1 (u1 (u1 (u1 l 0 (fpl c n n.toNat 0 0 0 0).2.1) 1 (fpl c n n.toNat 0 0 0 0).2.2) 2 0) 3 0) 4 0) (by omega) h1 (by omega) hn
      have g := rc_b this.1 this.2.1
      omega
    show rbl c n.toNat 0 0 (u1 (u1 (u1 (u1 (u1 l 0 (fpl c n n.toNat 0 0 0 0).2.1) 1 (fpl c n n.toNat 0 0 0 0).2.2) 2 0) 3 0) 4 0) (56 + y) = 0
    refine rbl_56 _ _ _ _ _ (by omega) ec.1 ec.2 ?_
    rw [u1_ne (by omega), u1_ne (by omega), u1_ne (by omega), u1_ne (by omega), u1_ne (by omega)]
    exact hz y ec.1 ec.2
theorem jv_psn : ∀ (n : Nat) (T : Int) (l m : Int → Int), StR T l m → 0 ≤ T → T + n ≤ 98000 → JV l → JV (psL n l)
  | 0, _, _, _, _, _, _, h => h
  | n + 1, T, l, m, hS, h0, h1, hJ => by
    have s1 := (st_pasn 1 T l m 0 hS h0 (by omega)).1
    exact jv_psn n (T + ((1 : Nat) : Int)) (tick l) _ s1 (by omega) (by omega) (jv_tick (st_rg hS) hJ)
/-- the object in a row of the law's: as it is drawn -/
def DR (x : Nat) (T C W : Int) (l : Int → Int) (kr : Int) (h : q_H) : Prop := ∃ nx ct kl c fa kd_ m, PX x l ini nx ct kl 0 c 0 fa kr kd_ h 0 h ∧ StR T l m ∧ JV l ∧ BZ x h C W
theorem dr_rd {k : Int} (P : PX x l ini nx ct kl 0 c 0 fa kr kd_ hb k h) (hT : StR T l m) (hJ : JV l) (B : BZ x hb C W) (hC : C + k ≤ C + k') (hW : W + 6 * k ≤ W + 6 * k') : DR x T (C + k') (W + 6 * k') l kr h := ⟨nx, ct, kl, c, fa, kd_, m, px_here P, hT, hJ, bz_fy B P.1.2 hC hW⟩
theorem dr_mu (D : MuP x l ini nx ct kl 0 c 0 fa kr kd_ hb k rf v (-1) l' o ∧ (rf.1 = 0 → ∃ m', StR T' l' m')) (hT : StR T l m) (hJ : JV l) (hJ' : rf.1 = 0 → (∃ m', StR T' l' m') → JV l') (B : BZ x hb C W) (hk : 0 ≤ k) (h0 : 0 ≤ T) (h1 : T ≤ T') : ∃ h', (rf.1 = 0 ∧ o = some (.inl (some (.int (zi v))), h') ∧ ∃ kr', DR x T' (C + k + 1) (W + 6 * k + 6) l' kr' h') ∨ (¬ rf.1 = 0 ∧ o = some (.inl (some (.int (zi (-1)))), h') ∧ DR x T' (C + k + 1) (W + 6 * k + 6) l rf.1 h') := by
  obtain ⟨D, S⟩ := D
  rcases D with ⟨d1, h', nx', ct', kl', d2, d3, d4⟩ | ⟨d1, h', d2, d3⟩
  · obtain ⟨m', s⟩ := S d1
    exact ⟨h', Or.inl ⟨d1, d2, kr, nx', ct', kl', _, _, _, m', px_here d4, s, hJ' d1 ⟨m', s⟩, bz_fy B d4.1.2 (by omega) (by omega)⟩⟩
  · exact ⟨h', Or.inr ⟨d1, d2, nx, ct, kl, _, _, _, m, px_here d3, st_mono hT h1 h0, hJ, bz_fy B d3.1.2 (by omega) (by omega)⟩⟩
theorem D_add (P : PX x l ini nx ct kl 0 c 0 fa kr kd_ hb k h) (hT : StR T l m) (hJ : JV l) (B : BZ x hb C W) (hk : 0 ≤ k) (hT0 : 0 ≤ T) (hy : isC l y) (hz : 0 ≤ z ∧ z ≤ 99) (h3 : l 3 < 6) : ∃ v h' l' kr', q_cl E q_m_L_add [.ref x, .int (zi y), .int (zi z)] h = some (.inl (some (.int (zi v))), h') ∧ DR x T (C + k + 1) (W + 6 * k + 6) l' kr' h' ∧ (v = l 3 ∨ (v = -1 ∧ 4 ≤ kr' ∧ kr' ≤ 5)) ∧ (l' 3 ≤ l 3 + 1 ∧ l' 4 = l 4) := by
  have gc := rg_c P.2.1
  have hc1 := hy.1
  have hc2 := hy.2
  have g3 := rg_r P.2.1
  obtain ⟨h', D⟩ := dr_mu (T' := T) (B_add (E := E) (y := y) (z := z) P hT (by omega) (by omega) (by omega) (by omega)) hT hJ (fun q ⟨m', s⟩ => jv_add P.2.1 hJ h3 hz (st_ndl s)) B hk hT0 (Int.le_refl _)
  rcases D with ⟨d1, d2, kr', d3⟩ | ⟨d1, d2, d3⟩
  · refine ⟨_, h', _, kr', d2, d3, Or.inl rfl, ?_, ?_⟩
    · rw [u1_eq]; omega
    · rw [u1_ne (by omega), rset_o (by omega)]
  · have e := cd_add hy hz h3
    exact ⟨_, h', l, _, d2, d3, Or.inr ⟨rfl, by omega, by omega⟩, by omega, rfl⟩
theorem D_order (P : PX x l ini nx ct kl 0 c 0 fa kr kd_ hb k h) (hT : StR T l m) (hJ : JV l) (B : BZ x hb C W) (hk : 0 ≤ k) (hT0 : 0 ≤ T) (ha : isC l a) (hw : w = -1 ∨ isC l w) (hd : 0 ≤ d ∧ d ≤ 999) (h4 : l 4 < 10) : ∃ v h' l' kr', q_cl E q_m_L_order [.ref x, .int (zi d), .int (zi a), .int (zi w), .int (zi (-1))] h = some (.inl (some (.int (zi v))), h') ∧ DR x T (C + k + 1) (W + 6 * k + 6) l' kr' h' ∧ (v = l 4 ∨ (v = -1 ∧ kr' = 12)) ∧ (l' 4 ≤ l 4 + 1 ∧ l' 3 = l 3) := by
  have gc := rg_c P.2.1
  have hc1 := ha.1
  have hc2 := ha.2
  have g4 := rg_o P.2.1
  have hw' : -2147483648 ≤ w ∧ w < 2147483648 := by
    rcases hw with q | q
    · omega
    · have := q.1; have := q.2; omega
  obtain ⟨h', D⟩ := dr_mu (T' := T) (B_order (E := E) (d := d) (a := a) (w := w) (e := -1) P hT (by omega) (by omega) (by omega) (by omega) hw'.1 hw'.2 (by omega) (by omega)) hT hJ (fun q ⟨m', s⟩ => jv_ord P.2.1 hJ h4) B hk hT0 (Int.le_refl _)
  rcases D with ⟨d1, d2, kr', d3⟩ | ⟨d1, d2, d3⟩
  · refine ⟨_, h', _, kr', d2, d3, Or.inl rfl, ?_, ?_⟩
    · rw [u1_eq]; omega
    · rw [u1_ne (by omega), oset_o (by omega)]
  · have e := cd_ord ha hw hd h4
    exact ⟨_, h', l, _, d2, d3, Or.inr ⟨rfl, by omega⟩, by omega, rfl⟩
theorem D_assign (P : PX x l ini nx ct kl 0 c 0 fa kr kd_ hb k h) (hT : StR T l m) (hJ : JV l) (B : BZ x hb C W) (hk : 0 ≤ k) (hT0 : 0 ≤ T) (hy : isR l y) (hz : isO l z) : ∃ v h' l' kr', q_cl E q_m_L_assign [.ref x, .int (zi y), .int (zi z)] h = some (.inl (some (.int (zi v))), h') ∧ DR x T (C + k + 1) (W + 6 * k + 6) l' kr' h' ∧ ((0 ≤ v ∧ v ≤ 3) ∨ (v = -1 ∧ 7 ≤ kr' ∧ kr' ≤ 8)) ∧ (l' 3 = l 3 ∧ l' 4 = l 4) := by
  have g3 := rg_r P.2.1
  have g4 := rg_o P.2.1
  have hy1 := hy.1
  have hy2 := hy.2
  have hz1 := hz.1
  have hz2 := hz.2
  have a2 := rg_a2 P.2.1 hz
  obtain ⟨h', D⟩ := dr_mu (T' := T) (B_assign (E := E) (y := y) (z := z) P hT (by omega) (by omega) (by omega) (by omega)) hT hJ (fun q ⟨m', s⟩ => jv_asg P.2.1 hJ hy) B hk hT0 (Int.le_refl _)
  rcases D with ⟨d1, d2, kr', d3⟩ | ⟨d1, d2, d3⟩
  · exact ⟨_, h', _, kr', d2, d3, Or.inl (by omega), u1_ne (by omega), u1_ne (by omega)⟩
  · have e := cd_asg hy hz
    exact ⟨_, h', l, _, d2, d3, Or.inr ⟨rfl, by omega, by omega⟩, rfl, rfl⟩
theorem D_plan (P : PX x l ini nx ct kl 0 c 0 fa kr kd_ hb k h) (hT : StR T l m) (hJ : JV l) (B : BZ x hb C W) (hk : 0 ≤ k) (hT0 : 0 ≤ T) (hy : isR l y) (hz : isC l z) : ∃ v h' l' kr', q_cl E q_m_L_plan [.ref x, .int (zi y), .int (zi z)] h = some (.inl (some (.int (zi v))), h') ∧ DR x T (C + k + 1) (W + 6 * k + 6) l' kr' h' ∧ ((0 ≤ v ∧ v ≤ 30) ∨ (v = -1 ∧ 4 ≤ kr' ∧ kr' ≤ 11)) ∧ (l' 3 = l 3 ∧ l' 4 = l 4) := by
  have hR := P.2.1
  have g3 := rg_r hR
  have gc := rg_c hR
  have hy1 := hy.1
  have hy2 := hy.2
  have hz1 := hz.1
  have hz2 := hz.2
  obtain ⟨PP, G, D⟩ := B_plan (E := E) (y := y) (z := z) P hT (by omega) (by omega) (by omega) (by omega)
  obtain ⟨h', D⟩ := dr_mu (T' := T) D hT hJ (fun q ⟨m', s⟩ => by
    obtain ⟨q1, q2⟩ := rfPln_T hR q
    obtain ⟨_, b1, b2, b3⟩ := rfGoa_0 q1
    have b3' := rg_b3 hR hy
    have q0 := q
    unfold rfPln at q
    rw [if_neg (not_not_intro q1)] at q
    unfold rfFnd at q
    rw [if_neg (show ¬ fT l y z = -1 by omega)] at q
    have hb2 : mvc PP (fT l y z).toNat 0 (rb l y 0) 0 * stp l y ≤ rb l y 1 := by
      by_cases c : rb l y 1 < mvc PP (fT l y z).toNat 0 (rb l y 0) 0 * stp l y
      · rw [if_pos c] at q
        exact absurd (show (11 : Int) = 0 from q) (by decide)
      · omega
    have hs : 1 ≤ stp l y ∧ stp l y ≤ 2 := by
      unfold stp
      have := hJ.2.2.2.2
      split <;> omega
    exact jv_pln hR hJ hy hz (by omega) b2 (by omega) (G q1 (by omega)) hs hb2 (st_ndl s)) B hk hT0 (Int.le_refl _)
  rcases D with ⟨d1, d2, kr', d3⟩ | ⟨d1, d2, d3⟩
  · have := (rfPln_T hR d1).2
    exact ⟨_, h', _, kr', d2, d3, Or.inl (by omega), rset_o (by omega), rset_o (by omega)⟩
  · have e := cd_pln (PP := PP) hy hz
    exact ⟨_, h', l, _, d2, d3, Or.inr ⟨rfl, by omega, by omega⟩, rfl, rfl⟩
theorem psl_i : ∀ (n : Nat) (T : Int) (l m : Int → Int), StR T l m → 0 ≤ T → T + n ≤ 98000 → JV l → psL n l 3 = l 3 ∧ psL n l 4 = l 4
  | 0, _, _, _, _, _, _, _ => ⟨rfl, rfl⟩
  | n + 1, T, l, m, hS, h0, h1, hJ => by
    have s1 := (st_pasn 1 T l m 0 hS h0 (by omega)).1
    have e := ti_all (st_rg hS) hJ.2.2.1
    have ih := psl_i n (T + ((1 : Nat) : Int)) (tick l) _ s1 (by omega) (by omega) (jv_tick (st_rg hS) hJ)
    exact ⟨ih.1.trans (e.1 3 (by omega) (by omega)), ih.2.trans (e.1 4 (by omega) (by omega))⟩
theorem D_pass (P : PX x l ini nx ct kl 0 c 0 fa kr kd_ hb k h) (hT : StR T l m) (hJ : JV l) (B : BZ x hb C W) (hk : 0 ≤ k) (hT0 : 0 ≤ T) (hT1 : T ≤ 80000) (hy : 1 ≤ y ∧ y ≤ 9) : ∃ v h' l' kr', q_cl E q_m_L_pass [.ref x, .int (zi y)] h = some (.inl (some (.int (zi v))), h') ∧ DR x (T + 99) (C + k + 1) (W + 6 * k + 6) l' kr' h' ∧ (0 ≤ v ∧ v ≤ 1000) ∧ (l' 3 = l 3 ∧ l' 4 = l 4) := by
  have z : (rfPas y).1 = 0 := by unfold rfPas; rw [if_neg (by omega)]
  obtain ⟨h', D⟩ := dr_mu (T' := T + 99) (B_pass (E := E) (y := y) P hT hT0 (by omega) (by omega) (by omega)) hT hJ (fun q ⟨m', s⟩ => jv_psn y.toNat T l m hT hT0 (by omega) hJ) B hk hT0 (by omega)
  rcases D with ⟨d1, d2, kr', d3⟩ | ⟨d1, d2, d3⟩
  · have e := psV_r y.toNat T l m 0 hT hT0 (by omega)
    exact ⟨_, h', _, kr', d2, d3, by omega, psl_i y.toNat T l m hT hT0 (by omega) hJ⟩
  · exact absurd z d1
theorem D_set (hE : q_EN E x) (P : PX x l ini nx ct kl 0 c 0 fa kr kd_ hb k h) (hT : StR T l m) (hJ : JV l) (B : BZ x hb C W) (hk : 0 ≤ k) (hT0 : 0 ≤ T) (hz : 1 ≤ z ∧ z ≤ 30) : ∃ h' l' kr', q_cl E q_m_L_set [.ref x, .int (zi 2), .int (zi z)] h = some (.inl (some (.int (zi (l 7)))), h') ∧ DR x T (C + k + 1) (W + 6 * k + 6) l' kr' h' ∧ (l' 3 = l 3 ∧ l' 4 = l 4) := by
  have z0 : (rfSet 2 z).1 = 0 := by
    unfold rfSet mst2
    rw [if_neg (by omega), if_neg (by rw [if_neg (by omega), if_neg (by omega)]; omega)]
  obtain ⟨h', D⟩ := dr_mu (T' := T) (B_set (E := E) (y := 2) (z := z) P hT hE (by omega) (by omega) (by omega) (by omega)) hT hJ (fun q ⟨m', s⟩ => jv_set P.2.1 hJ) B hk hT0 (Int.le_refl _)
  rcases D with ⟨d1, d2, kr', d3⟩ | ⟨d1, d2, d3⟩
  · exact ⟨h', _, kr', d2, d3, u1_ne (by omega), u1_ne (by omega)⟩
  · exact absurd z0 d1
end F6
